/-! ## children sorted: places -/
theorem kgd_l {A B : List Nat} {t : Nat} (h : t < A.length) : (A ++ B).getD t 0 = A.getD t 0 := by
  rw [List.getD_eq_getElem?_getD, List.getD_eq_getElem?_getD, List.getElem?_append_left h]
theorem kgd_r {A B : List Nat} {t : Nat} (h : A.length ≤ t) : (A ++ B).getD t 0 = B.getD (t - A.length) 0 := by
  rw [List.getD_eq_getElem?_getD, List.getD_eq_getElem?_getD, List.getElem?_append_right h]
theorem kgd_c {B : List Nat} {x t : Nat} (h : 0 < t) : (x :: B).getD t 0 = B.getD (t - 1) 0 := by
  obtain ⟨k, rfl⟩ : ∃ k, t = k + 1 := ⟨t - 1, by omega⟩
  rw [List.getD_cons_succ, Nat.add_sub_cancel]
def kSa (z : kZ) (b x y : Nat) : Prop := kSA (kL z.R) (kN z.R) z.n x y b
/-- put among those that are sorted, the last one first -/
noncomputable def kIr (z : kZ) (b : Nat) : List Nat → Nat → List Nat
  | [], x => [x]
  | y :: r, x => @ite _ (kSa z b x y) (Classical.propDecidable _) (y :: kIr z b r x) (x :: y :: r)
noncomputable def kSrt (z : kZ) (b : Nat) (l : List Nat) : List Nat := (l.foldl (kIr z b) []).reverse
theorem kIr_y {z : kZ} {b x y : Nat} {r : List Nat} (h : kSa z b x y) : kIr z b (y :: r) x = y :: kIr z b r x := by rw [kIr, if_pos h]
theorem kIr_n {z : kZ} {b x y : Nat} {r : List Nat} (h : ¬ kSa z b x y) : kIr z b (y :: r) x = x :: y :: r := by rw [kIr, if_neg h]
theorem kIr_p {z : kZ} {b : Nat} : ∀ (r : List Nat) (x : Nat), (kIr z b r x).Perm (x :: r)
  | [], x => List.Perm.refl _
  | y :: r, x => by
    by_cases h : kSa z b x y
    · rw [kIr_y h]
      exact (List.Perm.cons y (kIr_p r x)).trans (List.Perm.swap x y r)
    · rw [kIr_n h]
theorem kIr_len {z : kZ} {b : Nat} (r : List Nat) (x : Nat) : (kIr z b r x).length = r.length + 1 := (kIr_p r x).length_eq
theorem kFold_p {z : kZ} {b : Nat} : ∀ (l r : List Nat), (l.foldl (kIr z b) r).Perm (l ++ r)
  | [], r => List.Perm.refl _
  | x :: l, r => by
    rw [List.foldl_cons]
    refine (kFold_p l (kIr z b r x)).trans ?_
    refine (List.Perm.append_left l (kIr_p r x)).trans ?_
    exact List.perm_middle
theorem kSrt_p (z : kZ) (b : Nat) (l : List Nat) : (kSrt z b l).Perm l := by
  unfold kSrt
  refine (List.reverse_perm _).trans ?_
  have := kFold_p (z := z) (b := b) l []
  rwa [List.append_nil] at this
theorem kSz_e {z : kZ} {p : Nat} : kSz (kL z.R) z.n p = kEnd z p - p := rfl
theorem kSa_e {z z' : kZ} (h : kZe z z') {b x y : Nat} (hx : x < z.n) (hy : y < z.n) : kSa z' b x y ↔ kSa z b x y := by
  unfold kSa kSA
  rw [kSz_e, kSz_e, kSz_e, kSz_e, kEnd_e h hx, kEnd_e h hy]
  unfold kN
  rw [h.2.1 x hx, h.2.1 y hy]
theorem kgd_h {A C : List Nat} {x y t : Nat} (h : t ≠ A.length) : (A ++ x :: C).getD t 0 = (A ++ y :: C).getD t 0 := by
  by_cases e : t < A.length
  · rw [kgd_l e, kgd_l e]
  · rw [kgd_r (by omega), kgd_r (by omega), kgd_c (by omega), kgd_c (by omega)]
theorem kgd_a {A C : List Nat} {x : Nat} : (A ++ x :: C).getD A.length 0 = x := by
  rw [kgd_r (Nat.le_refl _), Nat.sub_self]; rfl
section KXT
variable {adK a : Nat → Nat} {f : ky_H} {Q : ky_Q} {B b : Nat} {z z' : kZ} {G : Nat → Int32}
theorem kx165 {er ep : Int32} (ha : kI a) (h0 : kKo a f er ep) (hB : 60 ≤ B) (hW : kW a B f z'.n z'.R G) (he : kZe z z') (hn : z.n ≤ 60) (hb : b ≤ 2) {cl : List Nat} {P : Nat → Int32} (hcl : ∀ x ∈ cl, x < z.n) (h1 : 0 < cl.length) (hlen : cl.length ≤ 60) (hP : f (a 55) = some (.inl (1, 60, .inl P))) (hPc : ∀ t, t < cl.length → P t = nI (cl.getD t 0))
    (hQ : ∀ f' P', f' (a 55) = some (.inl (1, 60, .inl P')) → (∀ t, t < cl.length → P' t = nI ((kSrt z b cl).getD t 0)) → kfr a f f' (fun j => j = 55) → Q (.inl none) f') : ky_cl adK 165 [.ref (a 0), .ref (a B), .int (nI cl.length), .int (nI b)] f Q := by
  have hzn : z'.n = z.n := he.1
  have hWu : ∀ {f P'}, kW a B f z'.n z'.R G → kW a B (ky_up f (a 55) (.inl (1, 60, .inl P'))) z'.n z'.R G := fun {f P'} h => kW_fr h fun j z1 z2 => kz_ne fun z => absurd (ha _ _ z) (by omega)
  have hKu : ∀ {f P'}, kKo a f er ep → kKo a (ky_up f (a 55) (.inl (1, 60, .inl P'))) er ep := fun {f P'} h => (kz_ne fun z => absurd (ha _ _ z) (by decide)).trans h
  -- the inner loop: at the place of a hole
  have inner : ∀ (r sh D : List Nat) (x i : Nat) (f : ky_H) (P : Nat → Int32), (∀ y ∈ r, y < z.n) → x < z.n → r.length + sh.length = i → r.length + sh.length + 1 + D.length = cl.length → kKo a f er ep → kW a B f z'.n z'.R G → f (a 55) = some (.inl (1, 60, .inl P)) → (∀ t, t < cl.length → t ≠ r.length → P t = nI ((r.reverse ++ 0 :: (sh.reverse ++ D)).getD t 0)) →
      (∀ f' P' v6, kKo a f' er ep → kW a B f' z'.n z'.R G → f' (a 55) = some (.inl (1, 60, .inl P')) → (∀ t, t < cl.length → P' t = nI (((sh ++ kIr z b r x).reverse ++ D).getD t 0)) → kfr a f f' (fun j => j = 55) → ky_ok adK 165 87 [some (.ref (a 0)), some (.ref (a B)), some (.int (nI cl.length)), some (.int (nI b)), some (.int (nI i)), some (.int (nI x)), v6] [] f' 0 0 Q) →
      ky_ok adK 165 32 [some (.ref (a 0)), some (.ref (a B)), some (.int (nI cl.length)), some (.int (nI b)), some (.int (nI i)), some (.int (nI x)), some (.int (nI r.length))] [] f 0 0 Q := by
    intro r
    induction r with
    | nil =>
      intro sh D x i f P hr hx hi hl h0 hW hP hPr hK
      have h0' := h0
      unfold kKo at h0'
      have hlz : (([] : List Nat)).length = 0 := rfl
      have fin := fun v6 => hK _ (upd P 0 (nI x)) v6 (hKu h0) (hWu hW) kz_same (fun t ht => by
        have es : (sh ++ kIr z b [] x).reverse = x :: sh.reverse := by rw [kIr, List.reverse_append]; rfl
        rw [es]
        by_cases e : t = 0
        · subst e; rw [pk_us]; rfl
        · have := hPr t ht (by rw [hlz]; exact e)
          rw [pk_un e, this, List.reverse_nil, List.nil_append, kgd_c (by omega), List.cons_append, kgd_c (by omega)]) (kfr_up ha kfr_rf rfl)
      repeat' (first | (refine ⟨vp_in_nI (n := 0) (by omega) (by omega), ?_⟩) | (exact fin _) | (refine ky_ok_stp rfl ?_; simp (disch := first | omega | assumption) only [ky_stp, ky_inv, ky_ldi, ky_ldl, ky_ldd, ky_lda, ky_cl2, ky_st1, ky_st2, ky_s1i, ky_s2i, ky_s1l, ky_s2l, ky_sli, ky_s1f, ky_s2f, ky_s1d, ky_s2d, ky_sr, ky_sai, ky_sasi, ky_sasl, ky_sasr, ky_svr, ky_sv, ky_sv2, ky_s1, ky_cs, ky_pop, ky_nth, ky_snt, ky_obj, ky_ari, ky_arl, ky_arr, ky_arn, ky_fv, ky_rcv, List.map_cons, List.map_nil, List.drop_succ_cons, List.drop_zero, Value.category, Nat.reduceAdd, Nat.reduceSub, true_and, and_true, true_or, or_true, reduceCtorEq, ite_true, ite_false, eq_self, Nat.reduceEqDiff, Nat.reduceLeDiff, nI_add, nI_1, nI_leI, nI_ltI, nI_eq, nI_clamp, kz_m1, kz_mn, kz_mn2, kz_n0, kz_0n, kz_0, kz_le0, kz_0lt, false_implies, true_implies, not_false_eq_true, not_true_eq_false, Nat.zero_le, kb_0, kz_10, kz_of, ky_sw, kz_mx, kz_mi, h0', hP, hlz]) | (refine ⟨vp_in_nI (by omega) (by omega), ?_⟩) | (refine ⟨fun zc => ?_, fun zc => ?_⟩ <;> try (exfalso; omega)) | fail)
    | cons y r ih =>
      intro sh D x i f P hr hx hi hl h0 hW hP hPr hK
      have h0' := h0
      unfold kKo at h0'
      have yB := kW_lv hW
      have hy : y < z.n := hr y List.mem_cons_self
      have hlc : (y :: r).length = r.length + 1 := rfl
      rw [hlc] at hi hl hPr
      have erv : (y :: r).reverse = r.reverse ++ [y] := List.reverse_cons
      have hrl : r.reverse.length = r.length := List.length_reverse
      have hPy : P r.length = nI y := by
        rw [hPr r.length (by omega) (by omega), erv, List.append_assoc]
        have := kgd_a (A := r.reverse) (C := 0 :: (sh.reverse ++ D)) (x := y)
        rw [hrl] at this
        show nI ((r.reverse ++ y :: (0 :: (sh.reverse ++ D))).getD r.length 0) = _
        rw [this]
      have hpr : nI (r.length + 1) - 1 = nI r.length := nI_pred _
      by_cases hs : kSa z b x y
      · have hs' := (kSa_e he hx hy).mpr hs
        rw [kIr_y hs] at hK
        (refine ky_ok_stp rfl ?_; simp (disch := first | omega | assumption) only [ky_stp, ky_inv, ky_ldi, ky_ldl, ky_ldd, ky_lda, ky_cl2, ky_st1, ky_st2, ky_s1i, ky_s2i, ky_s1l, ky_s2l, ky_sli, ky_s1f, ky_s2f, ky_s1d, ky_s2d, ky_sr, ky_sai, ky_sasi, ky_sasl, ky_sasr, ky_svr, ky_sv, ky_sv2, ky_s1, ky_cs, ky_pop, ky_nth, ky_snt, ky_obj, ky_ari, ky_arl, ky_arr, ky_arn, ky_fv, ky_rcv, List.map_cons, List.map_nil, List.drop_succ_cons, List.drop_zero, Value.category, Nat.reduceAdd, Nat.reduceSub, true_and, and_true, true_or, or_true, reduceCtorEq, ite_true, ite_false, eq_self, Nat.reduceEqDiff, Nat.reduceLeDiff, nI_add, nI_1, nI_leI, nI_ltI, nI_eq, nI_clamp, kz_m1, kz_mn, kz_mn2, kz_n0, kz_0n, kz_0, kz_le0, kz_0lt, false_implies, true_implies, not_false_eq_true, not_true_eq_false, Nat.zero_le, kb_0, kz_10, kz_of, ky_sw, kz_mx, kz_mi])
        repeat' (first | ((refine kx40 hW.1 (by omega) (by omega) (by omega) hb (fun _ => ?_) (fun w => absurd hs' w); simp only [ky_aft, ky_vl, Nat.reduceAdd])) | (refine ih (sh ++ [y]) D x i _ (upd P (r.length + 1) (nI y)) (fun w hw => hr w (List.mem_cons_of_mem _ hw)) hx (by rw [List.length_append, List.length_singleton]; omega) (by rw [List.length_append, List.length_singleton]; omega) (hKu h0) (hWu hW) kz_same ?_ ?_) | (refine ky_ok_stp rfl ?_; simp (disch := first | omega | assumption) only [ky_stp, ky_inv, ky_ldi, ky_ldl, ky_ldd, ky_lda, ky_cl2, ky_st1, ky_st2, ky_s1i, ky_s2i, ky_s1l, ky_s2l, ky_sli, ky_s1f, ky_s2f, ky_s1d, ky_s2d, ky_sr, ky_sai, ky_sasi, ky_sasl, ky_sasr, ky_svr, ky_sv, ky_sv2, ky_s1, ky_cs, ky_pop, ky_nth, ky_snt, ky_obj, ky_ari, ky_arl, ky_arr, ky_arn, ky_fv, ky_rcv, List.map_cons, List.map_nil, List.drop_succ_cons, List.drop_zero, Value.category, Nat.reduceAdd, Nat.reduceSub, true_and, and_true, true_or, or_true, reduceCtorEq, ite_true, ite_false, eq_self, Nat.reduceEqDiff, Nat.reduceLeDiff, nI_add, nI_1, nI_leI, nI_ltI, nI_eq, nI_clamp, kz_m1, kz_mn, kz_mn2, kz_n0, kz_0n, kz_0, kz_le0, kz_0lt, false_implies, true_implies, not_false_eq_true, not_true_eq_false, Nat.zero_le, kb_0, kz_10, kz_of, ky_sw, kz_mx, kz_mi, h0', hP, hlc, yB, hpr, hPy, kz_10]) | (refine ⟨vp_in_nI (by omega) (by omega), ?_⟩) | (refine ⟨fun zc => ?_, fun zc => ?_⟩ <;> try (exfalso; omega)) | fail)
        · intro t ht htr
          have es : (sh ++ [y]).reverse = y :: sh.reverse := by rw [List.reverse_append]; rfl
          rw [es]
          by_cases e : t = r.length + 1
          · subst e
            rw [pk_us, kgd_r (by omega), hrl, show r.length + 1 - r.length = 1 by omega]; rfl
          · rw [pk_un e, hPr t ht e, erv, List.append_assoc]
            by_cases e2 : t < r.length
            · rw [kgd_l (by omega), kgd_l (by omega)]
            · have q1 : (r.reverse ++ ([y] ++ 0 :: (sh.reverse ++ D))).getD t 0 = (y :: 0 :: (sh.reverse ++ D)).getD (t - r.length) 0 := by rw [kgd_r (A := r.reverse) (by omega), hrl]; rfl
              have q2 : (r.reverse ++ 0 :: (y :: sh.reverse ++ D)).getD t 0 = (0 :: y :: (sh.reverse ++ D)).getD (t - r.length) 0 := by rw [kgd_r (A := r.reverse) (by omega), hrl]; rfl
              rw [q1, q2, kgd_c (by omega), kgd_c (by omega), kgd_c (by omega), kgd_c (by omega)]
        · intro f' P' v6 g1 g2 g3 g4 g5
          refine hK f' P' v6 g1 g2 g3 (fun t ht => ?_) fun j hj => (g5 j hj).trans (kz_ne fun z => hj (ha _ _ z))
          rw [g4 t ht, List.append_assoc]; rfl
      · have hs' := fun w => hs ((kSa_e he hx hy).mp w)
        rw [kIr_n hs] at hK
        have fin := fun v6 => hK _ (upd P (r.length + 1) (nI x)) v6 (hKu h0) (hWu hW) kz_same (fun t ht => by
          have es : (sh ++ x :: y :: r).reverse ++ D = (y :: r).reverse ++ x :: (sh.reverse ++ D) := by
            rw [List.reverse_append, List.reverse_cons (a := x), List.append_assoc, List.append_assoc]; rfl
          rw [es]
          have hl2 : (y :: r).reverse.length = r.length + 1 := by rw [List.length_reverse]; rfl
          by_cases e : t = r.length + 1
          · subst e
            have := kgd_a (A := (y :: r).reverse) (C := sh.reverse ++ D) (x := x)
            rw [hl2] at this
            rw [pk_us, this]
          · rw [pk_un e, hPr t ht e, kgd_h (x := 0) (y := x) (by rw [hl2]; exact e)]) (kfr_up ha kfr_rf rfl)
        (refine ky_ok_stp rfl ?_; simp (disch := first | omega | assumption) only [ky_stp, ky_inv, ky_ldi, ky_ldl, ky_ldd, ky_lda, ky_cl2, ky_st1, ky_st2, ky_s1i, ky_s2i, ky_s1l, ky_s2l, ky_sli, ky_s1f, ky_s2f, ky_s1d, ky_s2d, ky_sr, ky_sai, ky_sasi, ky_sasl, ky_sasr, ky_svr, ky_sv, ky_sv2, ky_s1, ky_cs, ky_pop, ky_nth, ky_snt, ky_obj, ky_ari, ky_arl, ky_arr, ky_arn, ky_fv, ky_rcv, List.map_cons, List.map_nil, List.drop_succ_cons, List.drop_zero, Value.category, Nat.reduceAdd, Nat.reduceSub, true_and, and_true, true_or, or_true, reduceCtorEq, ite_true, ite_false, eq_self, Nat.reduceEqDiff, Nat.reduceLeDiff, nI_add, nI_1, nI_leI, nI_ltI, nI_eq, nI_clamp, kz_m1, kz_mn, kz_mn2, kz_n0, kz_0n, kz_0, kz_le0, kz_0lt, false_implies, true_implies, not_false_eq_true, not_true_eq_false, Nat.zero_le, kb_0, kz_10, kz_of, ky_sw, kz_mx, kz_mi])
        repeat' (first | ((refine kx40 hW.1 (by omega) (by omega) (by omega) hb (fun w => absurd w hs') (fun _ => ?_); simp only [ky_aft, ky_vl, Nat.reduceAdd])) | (exact fin _) | (refine ky_ok_stp rfl ?_; simp (disch := first | omega | assumption) only [ky_stp, ky_inv, ky_ldi, ky_ldl, ky_ldd, ky_lda, ky_cl2, ky_st1, ky_st2, ky_s1i, ky_s2i, ky_s1l, ky_s2l, ky_sli, ky_s1f, ky_s2f, ky_s1d, ky_s2d, ky_sr, ky_sai, ky_sasi, ky_sasl, ky_sasr, ky_svr, ky_sv, ky_sv2, ky_s1, ky_cs, ky_pop, ky_nth, ky_snt, ky_obj, ky_ari, ky_arl, ky_arr, ky_arn, ky_fv, ky_rcv, List.map_cons, List.map_nil, List.drop_succ_cons, List.drop_zero, Value.category, Nat.reduceAdd, Nat.reduceSub, true_and, and_true, true_or, or_true, reduceCtorEq, ite_true, ite_false, eq_self, Nat.reduceEqDiff, Nat.reduceLeDiff, nI_add, nI_1, nI_leI, nI_ltI, nI_eq, nI_clamp, kz_m1, kz_mn, kz_mn2, kz_n0, kz_0n, kz_0, kz_le0, kz_0lt, false_implies, true_implies, not_false_eq_true, not_true_eq_false, Nat.zero_le, kb_0, kz_10, kz_of, ky_sw, kz_mx, kz_mi, h0', hP, hlc, yB, hpr, hPy, kz_10]) | (refine ⟨vp_in_nI (by omega) (by omega), ?_⟩) | (refine ⟨fun zc => ?_, fun zc => ?_⟩ <;> try (exfalso; omega)) | fail)
  have outer : ∀ m i f P v5 v6, i + m = cl.length → 1 ≤ i → kKo a f er ep → kW a B f z'.n z'.R G → f (a 55) = some (.inl (1, 60, .inl P)) → (∀ t, t < cl.length → P t = nI ((((cl.take i).foldl (kIr z b) []).reverse ++ cl.drop i).getD t 0)) →
      (∀ f' P', f' (a 55) = some (.inl (1, 60, .inl P')) → (∀ t, t < cl.length → P' t = nI ((kSrt z b cl).getD t 0)) → kfr a f f' (fun j => j = 55) → Q (.inl none) f') →
      ky_ok adK 165 3 [some (.ref (a 0)), some (.ref (a B)), some (.int (nI cl.length)), some (.int (nI b)), some (.int (nI i)), v5, v6] [] f 0 0 Q := by
    intro m
    induction m with
    | zero =>
      intro i f P v5 v6 hi h1 h0 hW hP hPr hQ
      repeat' (first | (refine ky_ok_stp rfl ?_; simp (disch := first | omega | assumption) only [ky_stp, ky_inv, ky_ldi, ky_ldl, ky_ldd, ky_lda, ky_cl2, ky_st1, ky_st2, ky_s1i, ky_s2i, ky_s1l, ky_s2l, ky_sli, ky_s1f, ky_s2f, ky_s1d, ky_s2d, ky_sr, ky_sai, ky_sasi, ky_sasl, ky_sasr, ky_svr, ky_sv, ky_sv2, ky_s1, ky_cs, ky_pop, ky_nth, ky_snt, ky_obj, ky_ari, ky_arl, ky_arr, ky_arn, ky_fv, ky_rcv, List.map_cons, List.map_nil, List.drop_succ_cons, List.drop_zero, Value.category, Nat.reduceAdd, Nat.reduceSub, true_and, and_true, true_or, or_true, reduceCtorEq, ite_true, ite_false, eq_self, Nat.reduceEqDiff, Nat.reduceLeDiff, nI_add, nI_1, nI_leI, nI_ltI, nI_eq, nI_clamp, kz_m1, kz_mn, kz_mn2, kz_n0, kz_0n, kz_0, kz_le0, kz_0lt, false_implies, true_implies, not_false_eq_true, not_true_eq_false, Nat.zero_le, kb_0, kz_10, kz_of, ky_sw, kz_mx, kz_mi]) | (refine ⟨vp_in_nI (by omega) (by omega), ?_⟩) | (refine ⟨fun zc => ?_, fun zc => ?_⟩ <;> try (exfalso; omega)) | fail)
      refine hQ f P hP (fun t ht => ?_) kfr_rf
      have := hPr t ht
      rw [List.take_of_length_le (by omega), List.drop_of_length_le (by omega), List.append_nil] at this
      exact this
    | succ m ih =>
      intro i f P v5 v6 hi h1 h0 hW hP hPr hQ
      have h0' := h0
      unfold kKo at h0'
      have hil : i < cl.length := by omega
      have hfl : ((cl.take i).foldl (kIr z b) []).length = i := by
        have := (kFold_p (z := z) (b := b) (cl.take i) []).length_eq
        rw [List.append_nil, List.length_take] at this
        omega
      have hrm : ∀ y ∈ (cl.take i).foldl (kIr z b) [], y < z.n := fun y hy => by
        have := (kFold_p (z := z) (b := b) (cl.take i) []).mem_iff.mp hy
        rw [List.append_nil] at this
        exact hcl y (List.mem_of_mem_take this)
      have hfs : (cl.take (i + 1)).foldl (kIr z b) [] = kIr z b ((cl.take i).foldl (kIr z b) []) (cl[i]) := by
        rw [← List.take_append_getElem hil, List.foldl_append]; rfl
      have hdr : cl.drop i = cl[i] :: cl.drop (i + 1) := List.drop_eq_getElem_cons hil
      have hPi : P i = nI (cl[i]) := by
        rw [hPr i hil, hdr]
        have := kgd_a (A := ((cl.take i).foldl (kIr z b) []).reverse) (C := cl.drop (i + 1)) (x := cl[i])
        rw [List.length_reverse, hfl] at this
        rw [this]
      generalize hrl : (cl.take i).foldl (kIr z b) [] = rl at hfl hrm hfs hPr
      have hxi : cl[i] < z.n := hcl _ (List.getElem_mem hil)
      generalize cl[i] = x at hfs hdr hPi hxi
      have hdl : (cl.drop (i + 1)).length = cl.length - (i + 1) := List.length_drop
      (refine ky_ok_stp rfl ?_; simp (disch := first | omega | assumption) only [ky_stp, ky_inv, ky_ldi, ky_ldl, ky_ldd, ky_lda, ky_cl2, ky_st1, ky_st2, ky_s1i, ky_s2i, ky_s1l, ky_s2l, ky_sli, ky_s1f, ky_s2f, ky_s1d, ky_s2d, ky_sr, ky_sai, ky_sasi, ky_sasl, ky_sasr, ky_svr, ky_sv, ky_sv2, ky_s1, ky_cs, ky_pop, ky_nth, ky_snt, ky_obj, ky_ari, ky_arl, ky_arr, ky_arn, ky_fv, ky_rcv, List.map_cons, List.map_nil, List.drop_succ_cons, List.drop_zero, Value.category, Nat.reduceAdd, Nat.reduceSub, true_and, and_true, true_or, or_true, reduceCtorEq, ite_true, ite_false, eq_self, Nat.reduceEqDiff, Nat.reduceLeDiff, nI_add, nI_1, nI_leI, nI_ltI, nI_eq, nI_clamp, kz_m1, kz_mn, kz_mn2, kz_n0, kz_0n, kz_0, kz_le0, kz_0lt, false_implies, true_implies, not_false_eq_true, not_true_eq_false, Nat.zero_le, kb_0, kz_10, kz_of, ky_sw, kz_mx, kz_mi])
      have hin := inner rl [] (cl.drop (i + 1)) x i f P hrm hxi (by rw [hfl]; rfl) (by rw [hfl, hdl]; show i + 0 + 1 + _ = _; omega) h0 hW hP (fun t ht htr => by rw [hPr t ht, hdr]; exact congrArg nI (kgd_h (by rw [List.length_reverse]; exact htr)))
      rw [hfl] at hin
      repeat' (first | (refine hin ?_) | (refine ky_ok_stp rfl ?_; simp (disch := first | omega | assumption) only [ky_stp, ky_inv, ky_ldi, ky_ldl, ky_ldd, ky_lda, ky_cl2, ky_st1, ky_st2, ky_s1i, ky_s2i, ky_s1l, ky_s2l, ky_sli, ky_s1f, ky_s2f, ky_s1d, ky_s2d, ky_sr, ky_sai, ky_sasi, ky_sasl, ky_sasr, ky_svr, ky_sv, ky_sv2, ky_s1, ky_cs, ky_pop, ky_nth, ky_snt, ky_obj, ky_ari, ky_arl, ky_arr, ky_arn, ky_fv, ky_rcv, List.map_cons, List.map_nil, List.drop_succ_cons, List.drop_zero, Value.category, Nat.reduceAdd, Nat.reduceSub, true_and, and_true, true_or, or_true, reduceCtorEq, ite_true, ite_false, eq_self, Nat.reduceEqDiff, Nat.reduceLeDiff, nI_add, nI_1, nI_leI, nI_ltI, nI_eq, nI_clamp, kz_m1, kz_mn, kz_mn2, kz_n0, kz_0n, kz_0, kz_le0, kz_0lt, false_implies, true_implies, not_false_eq_true, not_true_eq_false, Nat.zero_le, kb_0, kz_10, kz_of, ky_sw, kz_mx, kz_mi, h0', hP, kz_of, hPi]) | (refine ⟨vp_in_nI (by omega) (by omega), ?_⟩) | (refine ⟨fun zc => ?_, fun zc => ?_⟩ <;> try (exfalso; omega)) | fail)
      intro f' P' v6 g1 g2 g3 g4 g5
      repeat' (first | (refine ih (i + 1) f' P' _ _ (by omega) (by omega) g1 g2 g3 ?_ ?_) | (refine ky_ok_stp rfl ?_; simp (disch := first | omega | assumption) only [ky_stp, ky_inv, ky_ldi, ky_ldl, ky_ldd, ky_lda, ky_cl2, ky_st1, ky_st2, ky_s1i, ky_s2i, ky_s1l, ky_s2l, ky_sli, ky_s1f, ky_s2f, ky_s1d, ky_s2d, ky_sr, ky_sai, ky_sasi, ky_sasl, ky_sasr, ky_svr, ky_sv, ky_sv2, ky_s1, ky_cs, ky_pop, ky_nth, ky_snt, ky_obj, ky_ari, ky_arl, ky_arr, ky_arn, ky_fv, ky_rcv, List.map_cons, List.map_nil, List.drop_succ_cons, List.drop_zero, Value.category, Nat.reduceAdd, Nat.reduceSub, true_and, and_true, true_or, or_true, reduceCtorEq, ite_true, ite_false, eq_self, Nat.reduceEqDiff, Nat.reduceLeDiff, nI_add, nI_1, nI_leI, nI_ltI, nI_eq, nI_clamp, kz_m1, kz_mn, kz_mn2, kz_n0, kz_0n, kz_0, kz_le0, kz_0lt, false_implies, true_implies, not_false_eq_true, not_true_eq_false, Nat.zero_le, kb_0, kz_10, kz_of, ky_sw, kz_mx, kz_mi]) | (refine ⟨vp_in_nI (by omega) (by omega), ?_⟩) | (refine ⟨fun zc => ?_, fun zc => ?_⟩ <;> try (exfalso; omega)) | fail)
      · intro t ht
        rw [hfs]; exact g4 t ht
      · intro f2 P2 k1 k2 k3
        exact hQ f2 P2 k1 k2 (kfr_tr g5 k3 fun j hj => ⟨hj, hj⟩)
  refine ⟨Nat.le_of_ble_eq_true rfl, fun z => absurd z (by decide), ?_⟩; show ky_ok adK 165 0 [some (.ref (a 0)), some (.ref (a B)), some (.int (nI cl.length)), some (.int (nI b)), none, none, none] [] f 0 0 _
  repeat' (first | (refine outer (cl.length - 1) 1 f P none none (by omega) (Nat.le_refl _) h0 hW hP ?_ hQ) | (refine ky_ok_stp rfl ?_; simp (disch := first | omega | assumption) only [ky_stp, ky_inv, ky_ldi, ky_ldl, ky_ldd, ky_lda, ky_cl2, ky_st1, ky_st2, ky_s1i, ky_s2i, ky_s1l, ky_s2l, ky_sli, ky_s1f, ky_s2f, ky_s1d, ky_s2d, ky_sr, ky_sai, ky_sasi, ky_sasl, ky_sasr, ky_svr, ky_sv, ky_sv2, ky_s1, ky_cs, ky_pop, ky_nth, ky_snt, ky_obj, ky_ari, ky_arl, ky_arr, ky_arn, ky_fv, ky_rcv, List.map_cons, List.map_nil, List.drop_succ_cons, List.drop_zero, Value.category, Nat.reduceAdd, Nat.reduceSub, true_and, and_true, true_or, or_true, reduceCtorEq, ite_true, ite_false, eq_self, Nat.reduceEqDiff, Nat.reduceLeDiff, nI_add, nI_1, nI_leI, nI_ltI, nI_eq, nI_clamp, kz_m1, kz_mn, kz_mn2, kz_n0, kz_0n, kz_0, kz_le0, kz_0lt, false_implies, true_implies, not_false_eq_true, not_true_eq_false, Nat.zero_le, kb_0, kz_10, kz_of, ky_sw, kz_mx, kz_mi, kz_1]) | (refine ⟨vp_in_nI (by omega) (by omega), ?_⟩) | (refine ⟨fun zc => ?_, fun zc => ?_⟩ <;> try (exfalso; omega)) | fail)
  intro t ht
  have hdr : cl.drop 0 = cl[0] :: cl.drop 1 := List.drop_eq_getElem_cons h1
  have e1 : cl.take 1 = [cl[0]] := by
    have := List.take_append_getElem h1
    rw [List.take_zero, List.nil_append] at this
    exact this.symm
  rw [hPc t ht, e1]
  show nI (cl.getD t 0) = nI (([cl[0]] ++ cl.drop 1).getD t 0)
  rw [List.singleton_append, ← hdr, List.drop_zero]
end KXT
