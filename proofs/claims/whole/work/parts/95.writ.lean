/-! ## the reference: write -/
theorem kOut_app (z : kZ) : ∀ l l', kOut z (l ++ l') = kOut z l ++ kOut z l'
  | [], l' => rfl
  | x :: r, l' => by rw [List.cons_append, kOut, kOut, kOut_app z r l', List.append_assoc]
/-- what is written so far -/
def kWs (a : Nat → Nat) (f : ky_H) (g : Nat → Int32) (o : List Nat) : Prop := kMo a f g ∧ g 12 = nI o.length ∧ ∃ W, f (a 186) = some (.inl (1, 4500, .inl W)) ∧ ∀ t, t < o.length → W t = nI (o.getD t 0)
def kWF (j : Nat) : Prop := j = 170 ∨ j = 186
def kWQ (a : Nat → Nat) (f : ky_H) (g : Nat → Int32) (o : List Nat) (Q : ky_Q) : Prop := ∀ f' g', (∀ j, j ≠ 12 → g' j = g j) → kWs a f' g' o → kfr a f f' kWF → Q (.inl none) f'
section KXM
variable {adK a : Nat → Nat} {f : ky_H} {Q : ky_Q} {g r B T : Nat → Int32} {s : kSt} {p w n l i j t e m k b : Nat} {x y v c d : Int32} {z : kZ} {o : List Nat}
theorem kx290 (ha : kI a) (h : kWs a f g o) (ho : o.length < 4500) (hQ : kWQ a f g (o ++ [b]) Q) : ky_cl adK 290 [.ref (a 170), .int (nI b)] f Q := by
  obtain ⟨mh, g12, W, h186, hW⟩ := id h
  unfold kMo at mh
  have hh := fun f' (h0 : kMo a f' (upd g 12 (nI (o.length + 1)))) (h7 : f' (a 186) = some (.inl (1, 4500, .inl (upd W o.length (nI b))))) (hF : kfr a f f' kWF) => hQ f' _ (fun j hj => pk_un hj) ⟨h0, by show upd g 12 _ 12 = _; rw [pk_us, List.length_append, List.length_singleton], _, h7, fun t ht => by
    rw [List.length_append, List.length_singleton] at ht
    by_cases e : t = o.length
    · subst e
      rw [pk_us, kgd_r (Nat.le_refl _), Nat.sub_self]
      rfl
    · rw [pk_un e, kgd_l (by omega)]; exact hW t (by omega)⟩ hF
  refine ⟨Nat.le_of_ble_eq_true rfl, fun z => absurd z (by decide), ?_⟩; show ky_ok adK 290 0 [some (.ref (a 170)), some (.int (nI b))] [] f 0 0 _
  repeat' (first | (refine ky_ok_stp rfl ?_; simp (disch := first | omega | assumption) only [ky_stp, ky_inv, ky_ldi, ky_ldl, ky_ldd, ky_lda, ky_cl2, ky_st1, ky_st2, ky_s1i, ky_s2i, ky_s1l, ky_s2l, ky_sli, ky_s1f, ky_s2f, ky_s1d, ky_s2d, ky_sr, ky_sai, ky_sasi, ky_sasl, ky_sasr, ky_svr, ky_sv, ky_sv2, ky_s1, ky_cs, ky_pop, ky_nth, ky_snt, ky_obj, ky_ari, ky_arl, ky_arr, ky_arn, ky_fv, ky_rcv, List.map_cons, List.map_nil, List.drop_succ_cons, List.drop_zero, Value.category, Nat.reduceAdd, Nat.reduceSub, true_and, and_true, true_or, or_true, reduceCtorEq, ite_true, ite_false, eq_self, Nat.reduceEqDiff, Nat.reduceLeDiff, nI_add, nI_1, nI_leI, nI_ltI, nI_eq, nI_clamp, kz_m1, kz_mn, kz_mn2, kz_n0, kz_0n, kz_0, kz_le0, kz_0lt, false_implies, true_implies, not_false_eq_true, not_true_eq_false, Nat.zero_le, kb_0, kz_10, kz_of, ky_sw, kz_mx, kz_mi, mh, g12, h186, kz_up, kI_ne ha]) | (refine ⟨vp_in_nI (by omega) (by omega), ?_⟩) | (refine ⟨fun zc => ?_, fun zc => ?_⟩ <;> try (exfalso; omega)) | fail)
  exact hh _ (by unfold kMo; rw [kz_same]; rfl) (by simp (disch := first | omega | assumption) only [kz_up, kI_ne ha, ite_true, ite_false]) (kfr_up ha (kfr_up ha kfr_rf (Or.inr rfl)) (Or.inl rfl))
theorem kWQ_s {o' : List Nat} {f1 : ky_H} {g1 : Nat → Int32} (hQ : kWQ a f g o' Q) (hg : ∀ j, j ≠ 12 → g1 j = g j) (hF : kfr a f f1 kWF) : kWQ a f1 g1 o' Q := fun f' g' w1 w2 w3 => hQ f' g' (fun j hj => (w1 j hj).trans (hg j hj)) w2 (kfr_tr hF w3 fun j hj => ⟨hj, hj⟩)
theorem kx291 (ha : kI a) (h : kWs a f g o) (hr : f (a 171) = some (.inl (1, 388, .inl r))) (hz : kZo z) (hR : kRw r z) (hD : kLd a f z z.n) (hp : p < z.n) (ho : o.length ≤ 4300) (hQ : kWQ a f g (o ++ kLn z p) Q) : ky_cl adK 291 [.ref (a 170), .int (nI p)] f Q := by
  have h60 := hz.n60
  obtain ⟨l0, l1, l6⟩ := hz.lv p hp
  have r0 := (hR.2.1 p hp).1
  have r2 := (hR.2.1 p hp).2.2.1
  obtain ⟨M, E, h178, h179, hd⟩ := id hD
  obtain ⟨hE, hMp⟩ := hd p hp
  obtain ⟨hWd, n3, n4⟩ := kRw_w hR hp
  have hl1 := kNO_l hz 6 p hp l6
  have h8 := hWd.2.1
  have e1 : (32 : Int32) = nI 32 := rfl
  have e43 : (43 : Int32) = nI 43 := rfl
  have e10 : (10 : Int32) = nI 10 := rfl
  have e96 : (96 : Int32) = nI 96 := rfl
  have hf01 := (hz.fl p hp).2
  have hkn := kNmd_n hz hp
  have eN : (kCO z p = 0) ↔ kNO z p = [] := by
    constructor
    · intro h; exact kNO_0 fun w => hkn.mp w h
    · intro h; exact Classical.byContradiction fun w => kNO_n hz hp (hkn.mpr w) h
  unfold kLn at hQ
  rw [show kNme z p = kWo (kN z.R p) from rfl] at hQ
  generalize hWn : kWo (kN z.R p) = W at hWd n3 n4 hQ h8
  have hd96 := kWd_d hWd
  -- the end of the line
  have stD : ∀ f1 g1 o1 v, o1.length ≤ 4400 → (∀ j, j ≠ 12 → g1 j = g j) → kWs a f1 g1 o1 → kfr a f f1 kWF → kWQ a f g (o1 ++ ((if kFo z.R p = 0 then [] else [43]) ++ [10])) Q → ky_ok adK 291 101 [some (.ref (a 170)), some (.int (nI p)), v] [] f1 0 0 Q := by
    intro f1 g1 o1 v hl hg hW hF hQ
    have hQ := kWQ_s hQ hg hF
    have mh := hW.1
    unfold kMo at mh
    have hr1 : f1 (a 171) = some (.inl (1, 388, .inl r)) := (hF 171 (by unfold kWF; omega)).trans hr
    have last : ∀ f2 g2 o2, o2.length ≤ 4420 → kWs a f2 g2 o2 → kWQ a f2 g2 (o2 ++ [10]) Q → ky_ok adK 291 117 [some (.ref (a 170)), some (.int (nI p)), v] [] f2 0 0 Q := by
      intro f2 g2 o2 h2 hW2 hQ2
      have mh2 := hW2.1
      unfold kMo at mh2
      repeat' (first | (refine kx290 ha hW2 (by omega) ?_) | (refine ky_ok_stp rfl ?_; simp (disch := first | omega | assumption) only [ky_stp, ky_inv, ky_ldi, ky_ldl, ky_ldd, ky_lda, ky_cl2, ky_st1, ky_st2, ky_s1i, ky_s2i, ky_s1l, ky_s2l, ky_sli, ky_s1f, ky_s2f, ky_s1d, ky_s2d, ky_sr, ky_sai, ky_sasi, ky_sasl, ky_sasr, ky_svr, ky_sv, ky_sv2, ky_s1, ky_cs, ky_pop, ky_nth, ky_snt, ky_obj, ky_ari, ky_arl, ky_arr, ky_arn, ky_fv, ky_rcv, List.map_cons, List.map_nil, List.drop_succ_cons, List.drop_zero, Value.category, Nat.reduceAdd, Nat.reduceSub, true_and, and_true, true_or, or_true, reduceCtorEq, ite_true, ite_false, eq_self, Nat.reduceEqDiff, Nat.reduceLeDiff, nI_add, nI_1, nI_leI, nI_ltI, nI_eq, nI_clamp, kz_m1, kz_mn, kz_mn2, kz_n0, kz_0n, kz_0, kz_le0, kz_0lt, false_implies, true_implies, not_false_eq_true, not_true_eq_false, Nat.zero_le, kb_0, kz_10, kz_of, ky_sw, kz_mx, kz_mi, mh2, e10]) | (refine ⟨vp_in_nI (by omega) (by omega), ?_⟩) | (refine ⟨fun zc => ?_, fun zc => ?_⟩ <;> try (exfalso; omega)) | fail)
      intro f3 g3 w1 w2 w3
      (try simp only [ky_aft, ky_vl, Nat.reduceAdd])
      repeat' (first | (refine ky_ok_stp rfl ?_; simp (disch := first | omega | assumption) only [ky_stp, ky_inv, ky_ldi, ky_ldl, ky_ldd, ky_lda, ky_cl2, ky_st1, ky_st2, ky_s1i, ky_s2i, ky_s1l, ky_s2l, ky_sli, ky_s1f, ky_s2f, ky_s1d, ky_s2d, ky_sr, ky_sai, ky_sasi, ky_sasl, ky_sasr, ky_svr, ky_sv, ky_sv2, ky_s1, ky_cs, ky_pop, ky_nth, ky_snt, ky_obj, ky_ari, ky_arl, ky_arr, ky_arn, ky_fv, ky_rcv, List.map_cons, List.map_nil, List.drop_succ_cons, List.drop_zero, Value.category, Nat.reduceAdd, Nat.reduceSub, true_and, and_true, true_or, or_true, reduceCtorEq, ite_true, ite_false, eq_self, Nat.reduceEqDiff, Nat.reduceLeDiff, nI_add, nI_1, nI_leI, nI_ltI, nI_eq, nI_clamp, kz_m1, kz_mn, kz_mn2, kz_n0, kz_0n, kz_0, kz_le0, kz_0lt, false_implies, true_implies, not_false_eq_true, not_true_eq_false, Nat.zero_le, kb_0, kz_10, kz_of, ky_sw, kz_mx, kz_mi]) | (refine ⟨vp_in_nI (by omega) (by omega), ?_⟩) | (refine ⟨fun zc => ?_, fun zc => ?_⟩ <;> try (exfalso; omega)) | fail)
      (first | exact hQ2 f3 g3 w1 w2 w3 | exact ⟨by decide, hQ2 f3 g3 w1 w2 w3⟩)
    rcases hf01 with c | c
    · rw [if_pos c, List.nil_append] at hQ
      have hh := last f1 g1 o1 (by omega) hW hQ
      repeat' (first | ((refine kx173 (w := 2) hW.1 hr1 (show p < 60 by omega) (by decide) ?_; simp only [ky_aft, ky_vl, Nat.reduceAdd])) | (exact hh) | (refine ky_ok_stp rfl ?_; simp (disch := first | omega | assumption) only [ky_stp, ky_inv, ky_ldi, ky_ldl, ky_ldd, ky_lda, ky_cl2, ky_st1, ky_st2, ky_s1i, ky_s2i, ky_s1l, ky_s2l, ky_sli, ky_s1f, ky_s2f, ky_s1d, ky_s2d, ky_sr, ky_sai, ky_sasi, ky_sasl, ky_sasr, ky_svr, ky_sv, ky_sv2, ky_s1, ky_cs, ky_pop, ky_nth, ky_snt, ky_obj, ky_ari, ky_arl, ky_arr, ky_arn, ky_fv, ky_rcv, List.map_cons, List.map_nil, List.drop_succ_cons, List.drop_zero, Value.category, Nat.reduceAdd, Nat.reduceSub, true_and, and_true, true_or, or_true, reduceCtorEq, ite_true, ite_false, eq_self, Nat.reduceEqDiff, Nat.reduceLeDiff, nI_add, nI_1, nI_leI, nI_ltI, nI_eq, nI_clamp, kz_m1, kz_mn, kz_mn2, kz_n0, kz_0n, kz_0, kz_le0, kz_0lt, false_implies, true_implies, not_false_eq_true, not_true_eq_false, Nat.zero_le, kb_0, kz_10, kz_of, ky_sw, kz_mx, kz_mi, mh, r2, c, show ((0 : Int32) = 1) = False from eq_false (by decide)]) | (refine ⟨vp_in_nI (by omega) (by omega), ?_⟩) | (refine ⟨fun zc => ?_, fun zc => ?_⟩ <;> try (exfalso; omega)) | fail)
    · rw [if_neg (by rw [c]; decide), ← List.append_assoc] at hQ
      repeat' (first | ((refine kx173 (w := 2) hW.1 hr1 (show p < 60 by omega) (by decide) ?_; simp only [ky_aft, ky_vl, Nat.reduceAdd])) | (refine kx290 ha hW (by omega) ?_) | (refine ky_ok_stp rfl ?_; simp (disch := first | omega | assumption) only [ky_stp, ky_inv, ky_ldi, ky_ldl, ky_ldd, ky_lda, ky_cl2, ky_st1, ky_st2, ky_s1i, ky_s2i, ky_s1l, ky_s2l, ky_sli, ky_s1f, ky_s2f, ky_s1d, ky_s2d, ky_sr, ky_sai, ky_sasi, ky_sasl, ky_sasr, ky_svr, ky_sv, ky_sv2, ky_s1, ky_cs, ky_pop, ky_nth, ky_snt, ky_obj, ky_ari, ky_arl, ky_arr, ky_arn, ky_fv, ky_rcv, List.map_cons, List.map_nil, List.drop_succ_cons, List.drop_zero, Value.category, Nat.reduceAdd, Nat.reduceSub, true_and, and_true, true_or, or_true, reduceCtorEq, ite_true, ite_false, eq_self, Nat.reduceEqDiff, Nat.reduceLeDiff, nI_add, nI_1, nI_leI, nI_ltI, nI_eq, nI_clamp, kz_m1, kz_mn, kz_mn2, kz_n0, kz_0n, kz_0, kz_le0, kz_0lt, false_implies, true_implies, not_false_eq_true, not_true_eq_false, Nat.zero_le, kb_0, kz_10, kz_of, ky_sw, kz_mx, kz_mi, mh, r2, c, e43]) | (refine ⟨vp_in_nI (by omega) (by omega), ?_⟩) | (refine ⟨fun zc => ?_, fun zc => ?_⟩ <;> try (exfalso; omega)) | fail)
      intro f2 g2 w1 w2 w3
      (try simp only [ky_aft, ky_vl, Nat.reduceAdd])
      have hh := last f2 g2 _ (by rw [List.length_append, List.length_singleton]; omega) w2 (kWQ_s hQ w1 w3)
      repeat' (first | (exact hh) | (refine ky_ok_stp rfl ?_; simp (disch := first | omega | assumption) only [ky_stp, ky_inv, ky_ldi, ky_ldl, ky_ldd, ky_lda, ky_cl2, ky_st1, ky_st2, ky_s1i, ky_s2i, ky_s1l, ky_s2l, ky_sli, ky_s1f, ky_s2f, ky_s1d, ky_s2d, ky_sr, ky_sai, ky_sasi, ky_sasl, ky_sasr, ky_svr, ky_sv, ky_sv2, ky_s1, ky_cs, ky_pop, ky_nth, ky_snt, ky_obj, ky_ari, ky_arl, ky_arr, ky_arn, ky_fv, ky_rcv, List.map_cons, List.map_nil, List.drop_succ_cons, List.drop_zero, Value.category, Nat.reduceAdd, Nat.reduceSub, true_and, and_true, true_or, or_true, reduceCtorEq, ite_true, ite_false, eq_self, Nat.reduceEqDiff, Nat.reduceLeDiff, nI_add, nI_1, nI_leI, nI_ltI, nI_eq, nI_clamp, kz_m1, kz_mn, kz_mn2, kz_n0, kz_0n, kz_0, kz_le0, kz_0lt, false_implies, true_implies, not_false_eq_true, not_true_eq_false, Nat.zero_le, kb_0, kz_10, kz_of, ky_sw, kz_mx, kz_mi]) | (refine ⟨vp_in_nI (by omega) (by omega), ?_⟩) | (refine ⟨fun zc => ?_, fun zc => ?_⟩ <;> try (exfalso; omega)) | fail)
  -- the name
  have lpC : ∀ m i f1 g1 o1, i + m = W.length → o1.length ≤ 4390 → (∀ j, j ≠ 12 → g1 j = g j) → kWs a f1 g1 (o1 ++ W.take i) → kfr a f f1 kWF → kWQ a f g (o1 ++ (W ++ ((if kFo z.R p = 0 then [] else [43]) ++ [10]))) Q → ky_ok adK 291 73 [some (.ref (a 170)), some (.int (nI p)), some (.int (nI i))] [] f1 0 0 Q := by
    intro m
    induction m with
    | zero =>
      intro i f1 g1 o1 hi hl hg hW hF hQ
      have mh := hW.1
      unfold kMo at mh
      have hr1 : f1 (a 171) = some (.inl (1, 388, .inl r)) := (hF 171 (by unfold kWF; omega)).trans hr
      obtain rfl : i = W.length := by omega
      rw [List.take_length] at hW
      have hh := stD f1 g1 _ (some (.int (nI W.length))) (by rw [List.length_append]; omega) hg hW hF (by rw [List.append_assoc]; exact hQ)
      repeat' (first | (refine kx214 hW.1 hr1 (show p < 60 by omega) hWd n3 n4 ?_; simp only [ky_aft, ky_vl, Nat.reduceAdd]) | (exact hh) | (refine ky_ok_stp rfl ?_; simp (disch := first | omega | assumption) only [ky_stp, ky_inv, ky_ldi, ky_ldl, ky_ldd, ky_lda, ky_cl2, ky_st1, ky_st2, ky_s1i, ky_s2i, ky_s1l, ky_s2l, ky_sli, ky_s1f, ky_s2f, ky_s1d, ky_s2d, ky_sr, ky_sai, ky_sasi, ky_sasl, ky_sasr, ky_svr, ky_sv, ky_sv2, ky_s1, ky_cs, ky_pop, ky_nth, ky_snt, ky_obj, ky_ari, ky_arl, ky_arr, ky_arn, ky_fv, ky_rcv, List.map_cons, List.map_nil, List.drop_succ_cons, List.drop_zero, Value.category, Nat.reduceAdd, Nat.reduceSub, true_and, and_true, true_or, or_true, reduceCtorEq, ite_true, ite_false, eq_self, Nat.reduceEqDiff, Nat.reduceLeDiff, nI_add, nI_1, nI_leI, nI_ltI, nI_eq, nI_clamp, kz_m1, kz_mn, kz_mn2, kz_n0, kz_0n, kz_0, kz_le0, kz_0lt, false_implies, true_implies, not_false_eq_true, not_true_eq_false, Nat.zero_le, kb_0, kz_10, kz_of, ky_sw, kz_mx, kz_mi, mh]) | (refine ⟨vp_in_nI (by omega) (by omega), ?_⟩) | (refine ⟨fun zc => ?_, fun zc => ?_⟩ <;> try (exfalso; omega)) | fail)
    | succ m ih =>
      intro i f1 g1 o1 hi hl hg hW hF hQ
      have mh := hW.1
      unfold kMo at mh
      have hr1 : f1 (a 171) = some (.inl (1, 388, .inl r)) := (hF 171 (by unfold kWF; omega)).trans hr
      have hw0 := (hd96 i).2.mp (by omega)
      have eb : 96 + (W.getD i 0 - 96) = W.getD i 0 := by omega
      repeat' (first | (refine kx214 hW.1 hr1 (show p < 60 by omega) hWd n3 n4 ?_; simp only [ky_aft, ky_vl, Nat.reduceAdd]) | (refine kx213 hW.1 hr1 (show p < 60 by omega) hWd n3 n4 (show i < 8 by omega) ?_; simp only [ky_aft, ky_vl, Nat.reduceAdd]) | (refine kx290 ha hW (by rw [List.length_append, List.length_take]; omega) ?_) | (refine ky_ok_stp rfl ?_; simp (disch := first | omega | assumption) only [ky_stp, ky_inv, ky_ldi, ky_ldl, ky_ldd, ky_lda, ky_cl2, ky_st1, ky_st2, ky_s1i, ky_s2i, ky_s1l, ky_s2l, ky_sli, ky_s1f, ky_s2f, ky_s1d, ky_s2d, ky_sr, ky_sai, ky_sasi, ky_sasl, ky_sasr, ky_svr, ky_sv, ky_sv2, ky_s1, ky_cs, ky_pop, ky_nth, ky_snt, ky_obj, ky_ari, ky_arl, ky_arr, ky_arn, ky_fv, ky_rcv, List.map_cons, List.map_nil, List.drop_succ_cons, List.drop_zero, Value.category, Nat.reduceAdd, Nat.reduceSub, true_and, and_true, true_or, or_true, reduceCtorEq, ite_true, ite_false, eq_self, Nat.reduceEqDiff, Nat.reduceLeDiff, nI_add, nI_1, nI_leI, nI_ltI, nI_eq, nI_clamp, kz_m1, kz_mn, kz_mn2, kz_n0, kz_0n, kz_0, kz_le0, kz_0lt, false_implies, true_implies, not_false_eq_true, not_true_eq_false, Nat.zero_le, kb_0, kz_10, kz_of, ky_sw, kz_mx, kz_mi, mh, e96, eb]) | (refine ⟨vp_in_nI (by omega) (by omega), ?_⟩) | (refine ⟨fun zc => ?_, fun zc => ?_⟩ <;> try (exfalso; omega)) | fail)
      intro f2 g2 w1 w2 w3
      (try simp only [ky_aft, ky_vl, Nat.reduceAdd])
      rw [List.append_assoc, ktk (by omega)] at w2
      have hh := ih (i + 1) f2 g2 o1 (by omega) hl (fun j hj => (w1 j hj).trans (hg j hj)) w2 (kfr_tr hF w3 fun j hj => ⟨hj, hj⟩) hQ
      repeat' (first | (exact hh) | (refine ky_ok_stp rfl ?_; simp (disch := first | omega | assumption) only [ky_stp, ky_inv, ky_ldi, ky_ldl, ky_ldd, ky_lda, ky_cl2, ky_st1, ky_st2, ky_s1i, ky_s2i, ky_s1l, ky_s2l, ky_sli, ky_s1f, ky_s2f, ky_s1d, ky_s2d, ky_sr, ky_sai, ky_sasi, ky_sasl, ky_sasr, ky_svr, ky_sv, ky_sv2, ky_s1, ky_cs, ky_pop, ky_nth, ky_snt, ky_obj, ky_ari, ky_arl, ky_arr, ky_arn, ky_fv, ky_rcv, List.map_cons, List.map_nil, List.drop_succ_cons, List.drop_zero, Value.category, Nat.reduceAdd, Nat.reduceSub, true_and, and_true, true_or, or_true, reduceCtorEq, ite_true, ite_false, eq_self, Nat.reduceEqDiff, Nat.reduceLeDiff, nI_add, nI_1, nI_leI, nI_ltI, nI_eq, nI_clamp, kz_m1, kz_mn, kz_mn2, kz_n0, kz_0n, kz_0, kz_le0, kz_0lt, false_implies, true_implies, not_false_eq_true, not_true_eq_false, Nat.zero_le, kb_0, kz_10, kz_of, ky_sw, kz_mx, kz_mi]) | (refine ⟨vp_in_nI (by omega) (by omega), ?_⟩) | (refine ⟨fun zc => ?_, fun zc => ?_⟩ <;> try (exfalso; omega)) | fail)
  -- the NUMBER
  have lpB : ∀ m i f1 g1 o1, i + m = (kNO z p).length → o1.length ≤ 4310 → (∀ j, j ≠ 12 → g1 j = g j) → kWs a f1 g1 (o1 ++ (kNO z p).take i) → kfr a f f1 kWF → kWQ a f g (o1 ++ ((if kCO z p = 0 then [] else kNO z p ++ [32]) ++ (W ++ ((if kFo z.R p = 0 then [] else [43]) ++ [10])))) Q → ky_ok adK 291 25 [some (.ref (a 170)), some (.int (nI p)), some (.int (nI i))] [] f1 0 0 Q := by
    intro m
    induction m with
    | zero =>
      intro i f1 g1 o1 hi hl hg hW hF hQ
      have mh := hW.1
      unfold kMo at mh
      have h179' : f1 (a 179) = some (.inl (1, 60, .inl E)) := (hF 179 (by unfold kWF; omega)).trans h179
      obtain rfl : i = (kNO z p).length := by omega
      rw [List.take_length] at hW
      by_cases c : kNO z p = []
      · rw [if_pos (eN.mpr c), List.nil_append] at hQ
        have hl0 : (kNO z p).length = 0 := by rw [c]; rfl
        rw [c, List.append_nil] at hW
        have hh := lpC W.length 0 f1 g1 o1 (by omega) (by omega) hg (by rw [List.take_zero, List.append_nil]; exact hW) hF hQ
        repeat' (first | (exact hh) | (refine ky_ok_stp rfl ?_; simp (disch := first | omega | assumption) only [ky_stp, ky_inv, ky_ldi, ky_ldl, ky_ldd, ky_lda, ky_cl2, ky_st1, ky_st2, ky_s1i, ky_s2i, ky_s1l, ky_s2l, ky_sli, ky_s1f, ky_s2f, ky_s1d, ky_s2d, ky_sr, ky_sai, ky_sasi, ky_sasl, ky_sasr, ky_svr, ky_sv, ky_sv2, ky_s1, ky_cs, ky_pop, ky_nth, ky_snt, ky_obj, ky_ari, ky_arl, ky_arr, ky_arn, ky_fv, ky_rcv, List.map_cons, List.map_nil, List.drop_succ_cons, List.drop_zero, Value.category, Nat.reduceAdd, Nat.reduceSub, true_and, and_true, true_or, or_true, reduceCtorEq, ite_true, ite_false, eq_self, Nat.reduceEqDiff, Nat.reduceLeDiff, nI_add, nI_1, nI_leI, nI_ltI, nI_eq, nI_clamp, kz_m1, kz_mn, kz_mn2, kz_n0, kz_0n, kz_0, kz_le0, kz_0lt, false_implies, true_implies, not_false_eq_true, not_true_eq_false, Nat.zero_le, kb_0, kz_10, kz_of, ky_sw, kz_mx, kz_mi, mh, h179', hE, hl0]) | (refine ⟨vp_in_nI (by omega) (by omega), ?_⟩) | (refine ⟨fun zc => ?_, fun zc => ?_⟩ <;> try (exfalso; omega)) | fail)
      · rw [if_neg (fun w => c (eN.mp w))] at hQ
        have hl0 : ¬ (kNO z p).length = 0 := fun w => c (List.length_eq_zero_iff.mp w)
        have hl00 : ¬ (kNO z p).length ≤ 0 := by omega
        repeat' (first | (refine kx290 ha hW (by rw [List.length_append]; omega) ?_) | (refine ky_ok_stp rfl ?_; simp (disch := first | omega | assumption) only [ky_stp, ky_inv, ky_ldi, ky_ldl, ky_ldd, ky_lda, ky_cl2, ky_st1, ky_st2, ky_s1i, ky_s2i, ky_s1l, ky_s2l, ky_sli, ky_s1f, ky_s2f, ky_s1d, ky_s2d, ky_sr, ky_sai, ky_sasi, ky_sasl, ky_sasr, ky_svr, ky_sv, ky_sv2, ky_s1, ky_cs, ky_pop, ky_nth, ky_snt, ky_obj, ky_ari, ky_arl, ky_arr, ky_arn, ky_fv, ky_rcv, List.map_cons, List.map_nil, List.drop_succ_cons, List.drop_zero, Value.category, Nat.reduceAdd, Nat.reduceSub, true_and, and_true, true_or, or_true, reduceCtorEq, ite_true, ite_false, eq_self, Nat.reduceEqDiff, Nat.reduceLeDiff, nI_add, nI_1, nI_leI, nI_ltI, nI_eq, nI_clamp, kz_m1, kz_mn, kz_mn2, kz_n0, kz_0n, kz_0, kz_le0, kz_0lt, false_implies, true_implies, not_false_eq_true, not_true_eq_false, Nat.zero_le, kb_0, kz_10, kz_of, ky_sw, kz_mx, kz_mi, mh, h179', hE, kz_0, e1, eq_false hl0, eq_false hl00]) | (refine ⟨vp_in_nI (by omega) (by omega), ?_⟩) | (refine ⟨fun zc => ?_, fun zc => ?_⟩ <;> try (exfalso; omega)) | fail)
        intro f2 g2 w1 w2 w3
        (try simp only [ky_aft, ky_vl, Nat.reduceAdd])
        have hh := lpC W.length 0 f2 g2 (o1 ++ kNO z p ++ [32]) (by omega) (by rw [List.length_append, List.length_append, List.length_singleton]; omega) (fun j hj => (w1 j hj).trans (hg j hj)) (by rw [List.take_zero, List.append_nil]; exact w2) (kfr_tr hF w3 fun j hj => ⟨hj, hj⟩) (by simpa only [List.append_assoc] using hQ)
        repeat' (first | (exact hh) | (refine ky_ok_stp rfl ?_; simp (disch := first | omega | assumption) only [ky_stp, ky_inv, ky_ldi, ky_ldl, ky_ldd, ky_lda, ky_cl2, ky_st1, ky_st2, ky_s1i, ky_s2i, ky_s1l, ky_s2l, ky_sli, ky_s1f, ky_s2f, ky_s1d, ky_s2d, ky_sr, ky_sai, ky_sasi, ky_sasl, ky_sasr, ky_svr, ky_sv, ky_sv2, ky_s1, ky_cs, ky_pop, ky_nth, ky_snt, ky_obj, ky_ari, ky_arl, ky_arr, ky_arn, ky_fv, ky_rcv, List.map_cons, List.map_nil, List.drop_succ_cons, List.drop_zero, Value.category, Nat.reduceAdd, Nat.reduceSub, true_and, and_true, true_or, or_true, reduceCtorEq, ite_true, ite_false, eq_self, Nat.reduceEqDiff, Nat.reduceLeDiff, nI_add, nI_1, nI_leI, nI_ltI, nI_eq, nI_clamp, kz_m1, kz_mn, kz_mn2, kz_n0, kz_0n, kz_0, kz_le0, kz_0lt, false_implies, true_implies, not_false_eq_true, not_true_eq_false, Nat.zero_le, kb_0, kz_10, kz_of, ky_sw, kz_mx, kz_mi]) | (refine ⟨vp_in_nI (by omega) (by omega), ?_⟩) | (refine ⟨fun zc => ?_, fun zc => ?_⟩ <;> try (exfalso; omega)) | fail)
    | succ m ih =>
      intro i f1 g1 o1 hi hl hg hW hF hQ
      have mh := hW.1
      unfold kMo at mh
      have h179' : f1 (a 179) = some (.inl (1, 60, .inl E)) := (hF 179 (by unfold kWF; omega)).trans h179
      have h178' : f1 (a 178) = some (.inl (1, 3600, .inl M)) := (hF 178 (by unfold kWF; omega)).trans h178
      have hMi := hMp i (by omega)
      repeat' (first | (refine kx290 ha hW (by rw [List.length_append, List.length_take]; omega) ?_) | (refine ky_ok_stp rfl ?_; simp (disch := first | omega | assumption) only [ky_stp, ky_inv, ky_ldi, ky_ldl, ky_ldd, ky_lda, ky_cl2, ky_st1, ky_st2, ky_s1i, ky_s2i, ky_s1l, ky_s2l, ky_sli, ky_s1f, ky_s2f, ky_s1d, ky_s2d, ky_sr, ky_sai, ky_sasi, ky_sasl, ky_sasr, ky_svr, ky_sv, ky_sv2, ky_s1, ky_cs, ky_pop, ky_nth, ky_snt, ky_obj, ky_ari, ky_arl, ky_arr, ky_arn, ky_fv, ky_rcv, List.map_cons, List.map_nil, List.drop_succ_cons, List.drop_zero, Value.category, Nat.reduceAdd, Nat.reduceSub, true_and, and_true, true_or, or_true, reduceCtorEq, ite_true, ite_false, eq_self, Nat.reduceEqDiff, Nat.reduceLeDiff, nI_add, nI_1, nI_leI, nI_ltI, nI_eq, nI_clamp, kz_m1, kz_mn, kz_mn2, kz_n0, kz_0n, kz_0, kz_le0, kz_0lt, false_implies, true_implies, not_false_eq_true, not_true_eq_false, Nat.zero_le, kb_0, kz_10, kz_of, ky_sw, kz_mx, kz_mi, mh, h178', h179', hE, hMi, kz_60, nI_mul]) | (refine ⟨vp_in_nI (by omega) (by omega), ?_⟩) | (refine ⟨fun zc => ?_, fun zc => ?_⟩ <;> try (exfalso; omega)) | fail)
      intro f2 g2 w1 w2 w3
      (try simp only [ky_aft, ky_vl, Nat.reduceAdd])
      rw [List.append_assoc, ktk (by omega)] at w2
      have hh := ih (i + 1) f2 g2 o1 (by omega) hl (fun j hj => (w1 j hj).trans (hg j hj)) w2 (kfr_tr hF w3 fun j hj => ⟨hj, hj⟩) hQ
      repeat' (first | (exact hh) | (refine ky_ok_stp rfl ?_; simp (disch := first | omega | assumption) only [ky_stp, ky_inv, ky_ldi, ky_ldl, ky_ldd, ky_lda, ky_cl2, ky_st1, ky_st2, ky_s1i, ky_s2i, ky_s1l, ky_s2l, ky_sli, ky_s1f, ky_s2f, ky_s1d, ky_s2d, ky_sr, ky_sai, ky_sasi, ky_sasl, ky_sasr, ky_svr, ky_sv, ky_sv2, ky_s1, ky_cs, ky_pop, ky_nth, ky_snt, ky_obj, ky_ari, ky_arl, ky_arr, ky_arn, ky_fv, ky_rcv, List.map_cons, List.map_nil, List.drop_succ_cons, List.drop_zero, Value.category, Nat.reduceAdd, Nat.reduceSub, true_and, and_true, true_or, or_true, reduceCtorEq, ite_true, ite_false, eq_self, Nat.reduceEqDiff, Nat.reduceLeDiff, nI_add, nI_1, nI_leI, nI_ltI, nI_eq, nI_clamp, kz_m1, kz_mn, kz_mn2, kz_n0, kz_0n, kz_0, kz_le0, kz_0lt, false_implies, true_implies, not_false_eq_true, not_true_eq_false, Nat.zero_le, kb_0, kz_10, kz_of, ky_sw, kz_mx, kz_mi]) | (refine ⟨vp_in_nI (by omega) (by omega), ?_⟩) | (refine ⟨fun zc => ?_, fun zc => ?_⟩ <;> try (exfalso; omega)) | fail)
  -- the blanks
  have lpA : ∀ m i f1 g1, i + m = kV z.R p - 1 → o.length ≤ 4300 → (∀ j, j ≠ 12 → g1 j = g j) → kWs a f1 g1 (o ++ List.replicate i 32) → kfr a f f1 kWF → ky_ok adK 291 2 [some (.ref (a 170)), some (.int (nI p)), some (.int (nI (i + 1)))] [] f1 0 0 Q := by
    intro m
    induction m with
    | zero =>
      intro i f1 g1 hi hl hg hW hF
      have mh := hW.1
      unfold kMo at mh
      have hr1 : f1 (a 171) = some (.inl (1, 388, .inl r)) := (hF 171 (by unfold kWF; omega)).trans hr
      obtain rfl : i = kV z.R p - 1 := by omega
      have hh := lpB (kNO z p).length 0 f1 g1 (o ++ List.replicate (kV z.R p - 1) 32) (by omega) (by rw [List.length_append, List.length_replicate]; omega) hg (by rw [List.take_zero, List.append_nil]; exact hW) hF (by rw [List.append_assoc]; exact hQ)
      repeat' (first | (refine kx175 hW.1 hr1 (show p < 60 by omega) ?_; simp only [ky_aft, ky_vl, Nat.reduceAdd]) | (exact hh) | (refine ky_ok_stp rfl ?_; simp (disch := first | omega | assumption) only [ky_stp, ky_inv, ky_ldi, ky_ldl, ky_ldd, ky_lda, ky_cl2, ky_st1, ky_st2, ky_s1i, ky_s2i, ky_s1l, ky_s2l, ky_sli, ky_s1f, ky_s2f, ky_s1d, ky_s2d, ky_sr, ky_sai, ky_sasi, ky_sasl, ky_sasr, ky_svr, ky_sv, ky_sv2, ky_s1, ky_cs, ky_pop, ky_nth, ky_snt, ky_obj, ky_ari, ky_arl, ky_arr, ky_arn, ky_fv, ky_rcv, List.map_cons, List.map_nil, List.drop_succ_cons, List.drop_zero, Value.category, Nat.reduceAdd, Nat.reduceSub, true_and, and_true, true_or, or_true, reduceCtorEq, ite_true, ite_false, eq_self, Nat.reduceEqDiff, Nat.reduceLeDiff, nI_add, nI_1, nI_leI, nI_ltI, nI_eq, nI_clamp, kz_m1, kz_mn, kz_mn2, kz_n0, kz_0n, kz_0, kz_le0, kz_0lt, false_implies, true_implies, not_false_eq_true, not_true_eq_false, Nat.zero_le, kb_0, kz_10, kz_of, ky_sw, kz_mx, kz_mi, mh, r0, l0, show ¬ kV z.R p - 1 + 1 < kV z.R p by omega]) | (refine ⟨vp_in_nI (by omega) (by omega), ?_⟩) | (refine ⟨fun zc => ?_, fun zc => ?_⟩ <;> try (exfalso; omega)) | fail)
    | succ m ih =>
      intro i f1 g1 hi hl hg hW hF
      have mh := hW.1
      unfold kMo at mh
      have hr1 : f1 (a 171) = some (.inl (1, 388, .inl r)) := (hF 171 (by unfold kWF; omega)).trans hr
      repeat' (first | (refine kx175 hW.1 hr1 (show p < 60 by omega) ?_; simp only [ky_aft, ky_vl, Nat.reduceAdd]) | (refine kx290 ha hW (by rw [List.length_append, List.length_replicate]; omega) ?_) | (refine ky_ok_stp rfl ?_; simp (disch := first | omega | assumption) only [ky_stp, ky_inv, ky_ldi, ky_ldl, ky_ldd, ky_lda, ky_cl2, ky_st1, ky_st2, ky_s1i, ky_s2i, ky_s1l, ky_s2l, ky_sli, ky_s1f, ky_s2f, ky_s1d, ky_s2d, ky_sr, ky_sai, ky_sasi, ky_sasl, ky_sasr, ky_svr, ky_sv, ky_sv2, ky_s1, ky_cs, ky_pop, ky_nth, ky_snt, ky_obj, ky_ari, ky_arl, ky_arr, ky_arn, ky_fv, ky_rcv, List.map_cons, List.map_nil, List.drop_succ_cons, List.drop_zero, Value.category, Nat.reduceAdd, Nat.reduceSub, true_and, and_true, true_or, or_true, reduceCtorEq, ite_true, ite_false, eq_self, Nat.reduceEqDiff, Nat.reduceLeDiff, nI_add, nI_1, nI_leI, nI_ltI, nI_eq, nI_clamp, kz_m1, kz_mn, kz_mn2, kz_n0, kz_0n, kz_0, kz_le0, kz_0lt, false_implies, true_implies, not_false_eq_true, not_true_eq_false, Nat.zero_le, kb_0, kz_10, kz_of, ky_sw, kz_mx, kz_mi, mh, r0, l0, e1, show i + 1 < kV z.R p by omega]) | (refine ⟨vp_in_nI (by omega) (by omega), ?_⟩) | (refine ⟨fun zc => ?_, fun zc => ?_⟩ <;> try (exfalso; omega)) | fail)
      intro f2 g2 w1 w2 w3
      (try simp only [ky_aft, ky_vl, Nat.reduceAdd])
      rw [List.append_assoc, ← List.replicate_succ'] at w2
      have hh := ih (i + 1) f2 g2 (by omega) hl (fun j hj => (w1 j hj).trans (hg j hj)) w2 (kfr_tr hF w3 fun j hj => ⟨hj, hj⟩)
      repeat' (first | (exact hh) | (refine ky_ok_stp rfl ?_; simp (disch := first | omega | assumption) only [ky_stp, ky_inv, ky_ldi, ky_ldl, ky_ldd, ky_lda, ky_cl2, ky_st1, ky_st2, ky_s1i, ky_s2i, ky_s1l, ky_s2l, ky_sli, ky_s1f, ky_s2f, ky_s1d, ky_s2d, ky_sr, ky_sai, ky_sasi, ky_sasl, ky_sasr, ky_svr, ky_sv, ky_sv2, ky_s1, ky_cs, ky_pop, ky_nth, ky_snt, ky_obj, ky_ari, ky_arl, ky_arr, ky_arn, ky_fv, ky_rcv, List.map_cons, List.map_nil, List.drop_succ_cons, List.drop_zero, Value.category, Nat.reduceAdd, Nat.reduceSub, true_and, and_true, true_or, or_true, reduceCtorEq, ite_true, ite_false, eq_self, Nat.reduceEqDiff, Nat.reduceLeDiff, nI_add, nI_1, nI_leI, nI_ltI, nI_eq, nI_clamp, kz_m1, kz_mn, kz_mn2, kz_n0, kz_0n, kz_0, kz_le0, kz_0lt, false_implies, true_implies, not_false_eq_true, not_true_eq_false, Nat.zero_le, kb_0, kz_10, kz_of, ky_sw, kz_mx, kz_mi]) | (refine ⟨vp_in_nI (by omega) (by omega), ?_⟩) | (refine ⟨fun zc => ?_, fun zc => ?_⟩ <;> try (exfalso; omega)) | fail)
  have hl := lpA (kV z.R p - 1) 0 f g (by omega) ho (fun _ _ => rfl) (by rw [List.replicate_zero, List.append_nil]; exact h) kfr_rf
  refine ⟨Nat.le_of_ble_eq_true rfl, fun z => absurd z (by decide), ?_⟩; show ky_ok adK 291 0 [some (.ref (a 170)), some (.int (nI p)), none] [] f 0 0 _
  repeat' (first | (exact hl) | (refine ky_ok_stp rfl ?_; simp (disch := first | omega | assumption) only [ky_stp, ky_inv, ky_ldi, ky_ldl, ky_ldd, ky_lda, ky_cl2, ky_st1, ky_st2, ky_s1i, ky_s2i, ky_s1l, ky_s2l, ky_sli, ky_s1f, ky_s2f, ky_s1d, ky_s2d, ky_sr, ky_sai, ky_sasi, ky_sasl, ky_sasr, ky_svr, ky_sv, ky_sv2, ky_s1, ky_cs, ky_pop, ky_nth, ky_snt, ky_obj, ky_ari, ky_arl, ky_arr, ky_arn, ky_fv, ky_rcv, List.map_cons, List.map_nil, List.drop_succ_cons, List.drop_zero, Value.category, Nat.reduceAdd, Nat.reduceSub, true_and, and_true, true_or, or_true, reduceCtorEq, ite_true, ite_false, eq_self, Nat.reduceEqDiff, Nat.reduceLeDiff, nI_add, nI_1, nI_leI, nI_ltI, nI_eq, nI_clamp, kz_m1, kz_mn, kz_mn2, kz_n0, kz_0n, kz_0, kz_le0, kz_0lt, false_implies, true_implies, not_false_eq_true, not_true_eq_false, Nat.zero_le, kb_0, kz_10, kz_of, ky_sw, kz_mx, kz_mi]) | (refine ⟨vp_in_nI (by omega) (by omega), ?_⟩) | (refine ⟨fun zc => ?_, fun zc => ?_⟩ <;> try (exfalso; omega)) | fail)
theorem kx292 (hM : kM a f g s) (hz : kZo s.o) (hQ : kMQ a f (s.setW (kOut s.o (kVl s.o)).length (fun i => (kOut s.o (kVl s.o)).getD i 0)) 0 Q (nI (kOut s.o (kVl s.o)).length)) : ky_cl adK 292 [.ref (a 170)] f Q := by
  have ho := hz
  have rest : ∀ f1 g1, kM a f1 g1 s → g1 0 = 0 → kfr a f f1 kMF → ky_ok adK 292 5 [some (.ref (a 170)), none] [] f1 0 0 Q := by
    intro f1 g1 hM1 h10 hF1
    obtain ⟨ha, hMo, ⟨⟨r, hr, hR⟩, hU, hV, hC, hT, hW⟩, h2, h3, h4⟩ := id hM1
    have mh := hMo
    unfold kMo at mh
    have h60 := ho.n60
    have hL := kRw_l ho hR
    repeat' (first | (refine kx195m hM1 ho ?_) | (refine ky_ok_stp rfl ?_; simp (disch := first | omega | assumption) only [ky_stp, ky_inv, ky_ldi, ky_ldl, ky_ldd, ky_lda, ky_cl2, ky_st1, ky_st2, ky_s1i, ky_s2i, ky_s1l, ky_s2l, ky_sli, ky_s1f, ky_s2f, ky_s1d, ky_s2d, ky_sr, ky_sai, ky_sasi, ky_sasl, ky_sasr, ky_svr, ky_sv, ky_sv2, ky_s1, ky_cs, ky_pop, ky_nth, ky_snt, ky_obj, ky_ari, ky_arl, ky_arr, ky_arn, ky_fv, ky_rcv, List.map_cons, List.map_nil, List.drop_succ_cons, List.drop_zero, Value.category, Nat.reduceAdd, Nat.reduceSub, true_and, and_true, true_or, or_true, reduceCtorEq, ite_true, ite_false, eq_self, Nat.reduceEqDiff, Nat.reduceLeDiff, nI_add, nI_1, nI_leI, nI_ltI, nI_eq, nI_clamp, kz_m1, kz_mn, kz_mn2, kz_n0, kz_0n, kz_0, kz_le0, kz_0lt, false_implies, true_implies, not_false_eq_true, not_true_eq_false, Nat.zero_le, kb_0, kz_10, kz_of, ky_sw, kz_mx, kz_mi, mh]) | (refine ⟨vp_in_nI (by omega) (by omega), ?_⟩) | (refine ⟨fun zc => ?_, fun zc => ?_⟩ <;> try (exfalso; omega)) | fail)
    intro f2 g2 hM2 w2 hD w4
    (try simp only [ky_aft, ky_vl, Nat.reduceAdd])
    obtain ⟨ha, hMo, ⟨⟨r, hr, hR⟩, -, -, -, -, ⟨W0, h186, -⟩⟩, h2, h3, h4⟩ := id hM2
    have mh := hMo
    unfold kMo at mh
    have r0 := hR.1
    obtain ⟨M, E, h178, h179, hd⟩ := id hD
    have lp : ∀ m i G l f3 g3, i + m = s.o.n → l.length ≤ i → kGi (kL s.o.R) (kFo s.o.R) i G → kVl s.o = kVs (kL s.o.R) (kFo s.o.R) G i m l → (∀ x ∈ l, x < s.o.n) → (∀ j, j ≠ 12 → g3 j = g2 j) → kWs a f3 g3 (kOut s.o l) → kfr a f2 f3 kWF → ky_ok adK 292 16 [some (.ref (a 170)), some (.int (nI i))] [] f3 0 0 Q := by
      intro m
      induction m with
      | zero =>
        intro i G l f3 g3 hi hli hG hl hlt hg hW3 hF3
        rw [kVs] at hl
        have mh3 := hW3.1
        unfold kMo at mh3
        have hr3 : f3 (a 171) = some (.inl (1, 388, .inl r)) := (hF3 171 (by unfold kWF; omega)).trans hr
        have g12 := hW3.2.1
        rw [← hl] at g12 hW3
        repeat' (first | (refine kx172 hW3.1 hr3 ?_; simp only [ky_aft, ky_vl, Nat.reduceAdd]) | (refine ky_ok_stp rfl ?_; simp (disch := first | omega | assumption) only [ky_stp, ky_inv, ky_ldi, ky_ldl, ky_ldd, ky_lda, ky_cl2, ky_st1, ky_st2, ky_s1i, ky_s2i, ky_s1l, ky_s2l, ky_sli, ky_s1f, ky_s2f, ky_s1d, ky_s2d, ky_sr, ky_sai, ky_sasi, ky_sasl, ky_sasr, ky_svr, ky_sv, ky_sv2, ky_s1, ky_cs, ky_pop, ky_nth, ky_snt, ky_obj, ky_ari, ky_arl, ky_arr, ky_arn, ky_fv, ky_rcv, List.map_cons, List.map_nil, List.drop_succ_cons, List.drop_zero, Value.category, Nat.reduceAdd, Nat.reduceSub, true_and, and_true, true_or, or_true, reduceCtorEq, ite_true, ite_false, eq_self, Nat.reduceEqDiff, Nat.reduceLeDiff, nI_add, nI_1, nI_leI, nI_ltI, nI_eq, nI_clamp, kz_m1, kz_mn, kz_mn2, kz_n0, kz_0n, kz_0, kz_le0, kz_0lt, false_implies, true_implies, not_false_eq_true, not_true_eq_false, Nat.zero_le, kb_0, kz_10, kz_of, ky_sw, kz_mx, kz_mi, mh3, r0, g12]) | (refine ⟨vp_in_nI (by omega) (by omega), ?_⟩) | (refine ⟨fun zc => ?_, fun zc => ?_⟩ <;> try (exfalso; omega)) | fail)
        obtain ⟨hMo3, -, W, hW1, hW2⟩ := hW3
        have hle := kOut_le ho (kVl s.o) (by rw [hl]; exact hlt)
        have hvl := kVl_le s.o
        unfold kWF at hF3
        refine hQ f3 g3 ?_ ((hg 0 (by decide)).trans ((w2 0 (by decide)).trans h10)) (kfr_tr hF1 (kfr_tr (T := kMF) w4 hF3 fun j hj => ⟨hj, fun w => hj (by unfold kMF; omega)⟩) fun j hj => ⟨hj, hj⟩)
        obtain ⟨ha, _, ⟨⟨r, h1, h2'⟩, ⟨U0, h3', h4'⟩, ⟨V, B, h5, h6, h7⟩, ⟨C0, h8', h9'⟩, ⟨T', h10', h11⟩, -⟩, ⟨q1, q2, q3, q4, q5, q6, q7, q8, q9⟩, k3, k4⟩ := id hM2
        exact ⟨ha, hMo3, ⟨⟨r, (hF3 171 (by omega)).trans h1, h2'⟩, ⟨U0, (hF3 174 (by omega)).trans h3', h4'⟩, ⟨V, B, (hF3 175 (by omega)).trans h5, (hF3 176 (by omega)).trans h6, h7⟩, ⟨C0, (hF3 177 (by omega)).trans h8', h9'⟩, ⟨T', (hF3 182 (by omega)).trans h10', h11⟩, ⟨W, hW1, hW2⟩⟩, ⟨kar_fr q1 (hF3 172 (by omega)), kar_fr q2 (hF3 173 (by omega)), kar_fr q3 (hF3 178 (by omega)), kar_fr q4 (hF3 179 (by omega)), kar_fr q5 (hF3 180 (by omega)), kar_fr q6 (hF3 181 (by omega)), kar_fr q7 (hF3 183 (by omega)), kar_fr q8 (hF3 184 (by omega)), kar_fr q9 (hF3 185 (by omega))⟩, ⟨(hg 1 (by decide)).trans k3.1, (hg 3 (by decide)).trans k3.2.1, (hg 8 (by decide)).trans k3.2.2.1, (hg 9 (by decide)).trans k3.2.2.2.1, g12⟩, ⟨k4.1, k4.2.1, k4.2.2.1, by show (kOut s.o (kVl s.o)).length ≤ 4500; omega⟩⟩
      | succ m ih =>
        intro i G l f3 g3 hi hli hG hl hlt hg hW3 hF3
        have hin : i < s.o.n := by omega
        have mh3 := hW3.1
        unfold kMo at mh3
        have hr3 : f3 (a 171) = some (.inl (1, 388, .inl r)) := (hF3 171 (by unfold kWF; omega)).trans hr
        have h6 := kL_6 ho hin
        have hG' := kGi_s hG h6 (ho.fl i hin).2
        have hle := kOut_le ho l hlt
        have hD3 : kLd a f3 s.o s.o.n := ⟨M, E, (hF3 178 (by unfold kWF; omega)).trans h178, (hF3 179 (by unfold kWF; omega)).trans h179, hd⟩
        rw [kVs] at hl
        by_cases e : kL s.o.R i ≤ G
        · rw [if_pos e] at hl hG'
          have hv := (kGi_v hG h6).mp e
          have hone : kOut s.o l ++ kLn s.o i = kOut s.o (l ++ [i]) := by
            rw [kOut_app]
            show _ = kOut s.o l ++ (kLn s.o i ++ [])
            rw [List.append_nil]
          repeat' (first | (refine kx172 hW3.1 hr3 ?_; simp only [ky_aft, ky_vl, Nat.reduceAdd]) | ((refine kx183 hW3.1 hr3 ho hR hin (fun _ => ?_) (fun w => absurd hv w); simp only [ky_aft, ky_vl, Nat.reduceAdd])) | (refine kx291 ha hW3 hr3 ho hR hD3 hin (by omega) ?_) | (refine ky_ok_stp rfl ?_; simp (disch := first | omega | assumption) only [ky_stp, ky_inv, ky_ldi, ky_ldl, ky_ldd, ky_lda, ky_cl2, ky_st1, ky_st2, ky_s1i, ky_s2i, ky_s1l, ky_s2l, ky_sli, ky_s1f, ky_s2f, ky_s1d, ky_s2d, ky_sr, ky_sai, ky_sasi, ky_sasl, ky_sasr, ky_svr, ky_sv, ky_sv2, ky_s1, ky_cs, ky_pop, ky_nth, ky_snt, ky_obj, ky_ari, ky_arl, ky_arr, ky_arn, ky_fv, ky_rcv, List.map_cons, List.map_nil, List.drop_succ_cons, List.drop_zero, Value.category, Nat.reduceAdd, Nat.reduceSub, true_and, and_true, true_or, or_true, reduceCtorEq, ite_true, ite_false, eq_self, Nat.reduceEqDiff, Nat.reduceLeDiff, nI_add, nI_1, nI_leI, nI_ltI, nI_eq, nI_clamp, kz_m1, kz_mn, kz_mn2, kz_n0, kz_0n, kz_0, kz_le0, kz_0lt, false_implies, true_implies, not_false_eq_true, not_true_eq_false, Nat.zero_le, kb_0, kz_10, kz_of, ky_sw, kz_mx, kz_mi, mh3, r0]) | (refine ⟨vp_in_nI (by omega) (by omega), ?_⟩) | (refine ⟨fun zc => ?_, fun zc => ?_⟩ <;> try (exfalso; omega)) | fail)
          intro f4 g4 u1 u2 u3
          (try simp only [ky_aft, ky_vl, Nat.reduceAdd])
          rw [hone] at u2
          have hi' := ih (i + 1) _ (l ++ [i]) f4 g4 (by omega) (by rw [List.length_append, List.length_singleton]; omega) hG' hl (fun x hx => by
            rcases List.mem_append.mp hx with hx | hx
            · exact hlt x hx
            · rw [List.mem_singleton.mp hx]; exact hin) (fun j hj => (u1 j hj).trans (hg j hj)) u2 (kfr_tr hF3 u3 fun j hj => ⟨hj, hj⟩)
          repeat' (first | (exact hi') | (refine ky_ok_stp rfl ?_; simp (disch := first | omega | assumption) only [ky_stp, ky_inv, ky_ldi, ky_ldl, ky_ldd, ky_lda, ky_cl2, ky_st1, ky_st2, ky_s1i, ky_s2i, ky_s1l, ky_s2l, ky_sli, ky_s1f, ky_s2f, ky_s1d, ky_s2d, ky_sr, ky_sai, ky_sasi, ky_sasl, ky_sasr, ky_svr, ky_sv, ky_sv2, ky_s1, ky_cs, ky_pop, ky_nth, ky_snt, ky_obj, ky_ari, ky_arl, ky_arr, ky_arn, ky_fv, ky_rcv, List.map_cons, List.map_nil, List.drop_succ_cons, List.drop_zero, Value.category, Nat.reduceAdd, Nat.reduceSub, true_and, and_true, true_or, or_true, reduceCtorEq, ite_true, ite_false, eq_self, Nat.reduceEqDiff, Nat.reduceLeDiff, nI_add, nI_1, nI_leI, nI_ltI, nI_eq, nI_clamp, kz_m1, kz_mn, kz_mn2, kz_n0, kz_0n, kz_0, kz_le0, kz_0lt, false_implies, true_implies, not_false_eq_true, not_true_eq_false, Nat.zero_le, kb_0, kz_10, kz_of, ky_sw, kz_mx, kz_mi]) | (refine ⟨vp_in_nI (by omega) (by omega), ?_⟩) | (refine ⟨fun zc => ?_, fun zc => ?_⟩ <;> try (exfalso; omega)) | fail)
        · rw [if_neg e] at hl hG'
          have hv : ¬ kVis (kL s.o.R) (kFo s.o.R) i := fun w => e ((kGi_v hG h6).mpr w)
          have hi' := ih (i + 1) G l f3 g3 (by omega) (by omega) hG' hl hlt hg hW3 hF3
          repeat' (first | (refine kx172 hW3.1 hr3 ?_; simp only [ky_aft, ky_vl, Nat.reduceAdd]) | ((refine kx183 hW3.1 hr3 ho hR hin (fun w => absurd w hv) (fun _ => ?_); simp only [ky_aft, ky_vl, Nat.reduceAdd])) | (exact hi') | (refine ky_ok_stp rfl ?_; simp (disch := first | omega | assumption) only [ky_stp, ky_inv, ky_ldi, ky_ldl, ky_ldd, ky_lda, ky_cl2, ky_st1, ky_st2, ky_s1i, ky_s2i, ky_s1l, ky_s2l, ky_sli, ky_s1f, ky_s2f, ky_s1d, ky_s2d, ky_sr, ky_sai, ky_sasi, ky_sasl, ky_sasr, ky_svr, ky_sv, ky_sv2, ky_s1, ky_cs, ky_pop, ky_nth, ky_snt, ky_obj, ky_ari, ky_arl, ky_arr, ky_arn, ky_fv, ky_rcv, List.map_cons, List.map_nil, List.drop_succ_cons, List.drop_zero, Value.category, Nat.reduceAdd, Nat.reduceSub, true_and, and_true, true_or, or_true, reduceCtorEq, ite_true, ite_false, eq_self, Nat.reduceEqDiff, Nat.reduceLeDiff, nI_add, nI_1, nI_leI, nI_ltI, nI_eq, nI_clamp, kz_m1, kz_mn, kz_mn2, kz_n0, kz_0n, kz_0, kz_le0, kz_0lt, false_implies, true_implies, not_false_eq_true, not_true_eq_false, Nat.zero_le, kb_0, kz_10, kz_of, ky_sw, kz_mx, kz_mi, mh3, r0]) | (refine ⟨vp_in_nI (by omega) (by omega), ?_⟩) | (refine ⟨fun zc => ?_, fun zc => ?_⟩ <;> try (exfalso; omega)) | fail)
    have hl := fun f3 (h0 : kMo a f3 (upd g2 12 0)) (hF : kfr a f2 f3 kWF) (hF7 : kfr a f2 f3 (fun j => j = 170)) => lp s.o.n 0 6 [] f3 (upd g2 12 0) (by omega) (Nat.le_refl _) kGi_0 rfl (fun x hx => by cases hx) (fun j hj => pk_un hj) ⟨h0, rfl, W0, (hF7 186 (by omega)).trans h186, fun t ht => absurd ht (Nat.not_lt_zero t)⟩ hF
    repeat' (first | (refine hl _ (by unfold kMo; rw [kz_same]; rfl) (kfr_up ha kfr_rf (Or.inl rfl)) (kfr_up ha kfr_rf rfl)) | (refine ky_ok_stp rfl ?_; simp (disch := first | omega | assumption) only [ky_stp, ky_inv, ky_ldi, ky_ldl, ky_ldd, ky_lda, ky_cl2, ky_st1, ky_st2, ky_s1i, ky_s2i, ky_s1l, ky_s2l, ky_sli, ky_s1f, ky_s2f, ky_s1d, ky_s2d, ky_sr, ky_sai, ky_sasi, ky_sasl, ky_sasr, ky_svr, ky_sv, ky_sv2, ky_s1, ky_cs, ky_pop, ky_nth, ky_snt, ky_obj, ky_ari, ky_arl, ky_arr, ky_arn, ky_fv, ky_rcv, List.map_cons, List.map_nil, List.drop_succ_cons, List.drop_zero, Value.category, Nat.reduceAdd, Nat.reduceSub, true_and, and_true, true_or, or_true, reduceCtorEq, ite_true, ite_false, eq_self, Nat.reduceEqDiff, Nat.reduceLeDiff, nI_add, nI_1, nI_leI, nI_ltI, nI_eq, nI_clamp, kz_m1, kz_mn, kz_mn2, kz_n0, kz_0n, kz_0, kz_le0, kz_0lt, false_implies, true_implies, not_false_eq_true, not_true_eq_false, Nat.zero_le, kb_0, kz_10, kz_of, ky_sw, kz_mx, kz_mi, mh]) | (refine ⟨vp_in_nI (by omega) (by omega), ?_⟩) | (refine ⟨fun zc => ?_, fun zc => ?_⟩ <;> try (exfalso; omega)) | fail)
  have mh := hM.2.1
  unfold kMo at mh
  refine ⟨Nat.le_of_ble_eq_true rfl, fun z => absurd z (by decide), ?_⟩; show ky_ok adK 292 0 [some (.ref (a 170)), none] [] f 0 0 _
  repeat' (first | (exact rest _ _ (kM_t0 hM) rfl (kMF_170 (kfr_up hM.1 kfr_rf rfl))) | (refine ky_ok_stp rfl ?_; simp (disch := first | omega | assumption) only [ky_stp, ky_inv, ky_ldi, ky_ldl, ky_ldd, ky_lda, ky_cl2, ky_st1, ky_st2, ky_s1i, ky_s2i, ky_s1l, ky_s2l, ky_sli, ky_s1f, ky_s2f, ky_s1d, ky_s2d, ky_sr, ky_sai, ky_sasi, ky_sasl, ky_sasr, ky_svr, ky_sv, ky_sv2, ky_s1, ky_cs, ky_pop, ky_nth, ky_snt, ky_obj, ky_ari, ky_arl, ky_arr, ky_arn, ky_fv, ky_rcv, List.map_cons, List.map_nil, List.drop_succ_cons, List.drop_zero, Value.category, Nat.reduceAdd, Nat.reduceSub, true_and, and_true, true_or, or_true, reduceCtorEq, ite_true, ite_false, eq_self, Nat.reduceEqDiff, Nat.reduceLeDiff, nI_add, nI_1, nI_leI, nI_ltI, nI_eq, nI_clamp, kz_m1, kz_mn, kz_mn2, kz_n0, kz_0n, kz_0, kz_le0, kz_0lt, false_implies, true_implies, not_false_eq_true, not_true_eq_false, Nat.zero_le, kb_0, kz_10, kz_of, ky_sw, kz_mx, kz_mi, mh]) | (refine ⟨vp_in_nI (by omega) (by omega), ?_⟩) | (refine ⟨fun zc => ?_, fun zc => ?_⟩ <;> try (exfalso; omega)) | fail)
end KXM
