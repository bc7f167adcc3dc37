/-! ## the reference: one NUMBER is laid -/
def kLnF (j : Nat) : Prop := j = 170 ∨ j = 178 ∨ j = 179
section KXM
variable {adK a : Nat → Nat} {f : ky_H} {Q : ky_Q} {g : Nat → Int32} {s r N : Nat → Int32} {p w n l b c sh : Nat} {x lo hi v : Int32} {z : kZ} {o : List Nat}
theorem kx194 (ha : kI a) (hM : kMo a f g) (hs : f (a 171) = some (.inl (1, 388, .inl s))) (ho : kZo z) (hR : kRw s z) (hp : p < z.n) (hD : kLd a f z p) (hQ : ∀ f' g', (∀ j, j ≠ 2 → g' j = g j) → kMo a f' g' → kLd a f' z (p + 1) → kfr a f f' kLnF → Q (.inl none) f') : ky_cl adK 194 [.ref (a 170), .int (nI p)] f Q := by
  have h60 := ho.n60
  have hL := kRw_l ho hR
  obtain ⟨hl, l1, l6⟩ := ho.lv p hp
  obtain ⟨r0, -⟩ := hR.2.1 p hp
  have hS2 := hR.2.2 2 (kV z.R p) (by decide) l1 l6
  rw [show 3 + 6 * 2 + kV z.R p = 3 + 12 + kV z.R p by omega] at hS2
  obtain ⟨M, E, h178, h179, hD⟩ := hD
  have hlen : (kNO z p).length ≤ 54 := kNo_len (kZo_w ho) hp
  -- the end
  have fin : ∀ f1 g1 x2 x3 x4, (∀ j, j ≠ 2 → g1 j = g j) → kLy a f1 g1 p M (kNO z p) → kfr a f f1 kAdF → ky_ok adK 194 99 [some (.ref (a 170)), some (.int (nI p)), x2, x3, x4] [] f1 0 0 Q := by
    intro f1 g1 x2 x3 x4 hg h hF
    obtain ⟨hM1, hg2, M1, e178, hM2, hM3⟩ := h
    have e179 : f1 (a 179) = _ := (hF 179 (by unfold kAdF; omega)).trans h179
    have mh := hM1; unfold kMo at mh
    repeat' (first | (refine ⟨vp_in_nI (n := p) (by omega) (by omega), ?_⟩) | (refine ky_ok_stp rfl ?_; simp (disch := first | omega | assumption) only [ky_stp, ky_inv, ky_ldi, ky_ldl, ky_ldd, ky_lda, ky_cl2, ky_st1, ky_st2, ky_s1i, ky_s2i, ky_s1l, ky_s2l, ky_sli, ky_s1f, ky_s2f, ky_s1d, ky_s2d, ky_sr, ky_sai, ky_sasi, ky_sasl, ky_sasr, ky_svr, ky_sv, ky_sv2, ky_s1, ky_cs, ky_pop, ky_nth, ky_snt, ky_obj, ky_ari, ky_arl, ky_arr, ky_arn, ky_fv, ky_rcv, List.map_cons, List.map_nil, List.drop_succ_cons, List.drop_zero, Value.category, Nat.reduceAdd, Nat.reduceSub, true_and, and_true, true_or, or_true, reduceCtorEq, ite_true, ite_false, eq_self, Nat.reduceEqDiff, Nat.reduceLeDiff, nI_add, nI_1, nI_leI, nI_ltI, nI_eq, nI_clamp, kz_m1, kz_mn, kz_mn2, kz_n0, kz_0n, kz_0, kz_le0, kz_0lt, false_implies, true_implies, not_false_eq_true, not_true_eq_false, Nat.zero_le, kb_0, kz_10, kz_of, ky_sw, kz_mx, kz_mi, mh, e179, hg2]) | (refine ⟨vp_in_nI (by omega) (by omega), ?_⟩) | (refine ⟨fun zc => ?_, fun zc => ?_⟩ <;> try (exfalso; omega)) | fail)
    refine hQ _ g1 hg (kMo_fr hM1 (kz_ne fun w => absurd (ha _ _ w) (by omega))) ⟨M1, upd E p (nI (kNO z p).length), (kz_ne fun w => absurd (ha _ _ w) (by omega)).trans e178, kz_same, fun i hi => ?_⟩ ?_
    · by_cases e : i = p
      · subst e
        exact ⟨by unfold upd; rw [if_pos rfl], hM2⟩
      · have hd := hD i (by omega)
        refine ⟨by unfold upd; rw [if_neg e]; exact hd.1, fun t ht => ?_⟩
        have := kNo_len (kZo_w ho) (show i < z.n by omega)
        have ht' : t < 54 := Nat.lt_of_lt_of_le ht this
        rw [hM3 _ (by omega)]
        exact hd.2 t ht
    · intro j hj
      unfold kLnF at hj
      exact (kz_ne fun w => hj (by have := ha _ _ w; omega)).trans (hF j (by unfold kAdF; omega))
  have hs' : ∀ {f1}, kfr a f f1 kAdF → f1 (a 171) = some (.inl (1, 388, .inl s)) := fun hF => (hF 171 (by unfold kAdF; omega)).trans hs
  -- from the sign on
  have sgnl : ∀ f1 g1 o x3 x4, kNmd z p → o.length ≤ 49 → o ++ sgn (kKD z p) (kCO z p) = kNO z p → (∀ j, j ≠ 2 → g1 j = g j) → kLy a f1 g1 p M o → kfr a f f1 kAdF → ky_ok adK 194 93 [some (.ref (a 170)), some (.int (nI p)), some (.int (nI (kCO z p))), x3, x4] [] f1 0 0 Q := by
    intro f1 g1 o x3 x4 hk hol he hg h hF
    obtain ⟨c1, c2⟩ := kCO_s ho hp hk
    have hM1 := h.1
    have mh := hM1; unfold kMo at mh
    have he' : o ++ sg (ksk z.S (kV z.R p)) (kCO z p) = kNO z p := by
      rw [← he]; unfold sgn; rw [if_neg (by omega)]; rfl
    repeat' (first | (refine kx193 ha h (hs' hF) ho hR hol hp c2 c1 hk ?_) | (refine ky_ok_stp rfl ?_; simp (disch := first | omega | assumption) only [ky_stp, ky_inv, ky_ldi, ky_ldl, ky_ldd, ky_lda, ky_cl2, ky_st1, ky_st2, ky_s1i, ky_s2i, ky_s1l, ky_s2l, ky_sli, ky_s1f, ky_s2f, ky_s1d, ky_s2d, ky_sr, ky_sai, ky_sasi, ky_sasl, ky_sasr, ky_svr, ky_sv, ky_sv2, ky_s1, ky_cs, ky_pop, ky_nth, ky_snt, ky_obj, ky_ari, ky_arl, ky_arr, ky_arn, ky_fv, ky_rcv, List.map_cons, List.map_nil, List.drop_succ_cons, List.drop_zero, Value.category, Nat.reduceAdd, Nat.reduceSub, true_and, and_true, true_or, or_true, reduceCtorEq, ite_true, ite_false, eq_self, Nat.reduceEqDiff, Nat.reduceLeDiff, nI_add, nI_1, nI_leI, nI_ltI, nI_eq, nI_clamp, kz_m1, kz_mn, kz_mn2, kz_n0, kz_0n, kz_0, kz_le0, kz_0lt, false_implies, true_implies, not_false_eq_true, not_true_eq_false, Nat.zero_le, kb_0, kz_10, kz_of, ky_sw, kz_mx, kz_mi, mh]) | (refine ⟨vp_in_nI (by omega) (by omega), ?_⟩) | (refine ⟨fun zc => ?_, fun zc => ?_⟩ <;> try (exfalso; omega)) | fail)
    intro f2 g2 w1 w2 w3
    simp only [ky_aft, ky_vl, Nat.reduceAdd]
    rw [he'] at w2
    exact fin f2 g2 _ _ _ (fun j hj => (w1 j hj).trans (hg j hj)) w2 (kfr_tr hF w3 fun j hj => ⟨hj, hj⟩)
  have hF0 : kfr a f (ky_up f (a 170) (.inr (9, [.int (g 0), .ref (a 171), .ref (a 172), .ref (a 173), .ref (a 174), .ref (a 175), .ref (a 176), .ref (a 177), .int (g 1), .ref (a 178), .ref (a 179), .ref (a 180), .ref (a 181), .int 0, .ref (a 182), .int (g 3), .int (g 4), .int (g 5), .int (g 6), .int (g 7), .int (g 8), .int (g 9), .int (g 10), .ref (a 183), .int (g 11), .ref (a 184), .ref (a 185), .ref (a 186), .int (g 12)]))) kAdF := kfr_up ha kfr_rf (by unfold kAdF; omega)
  have hL0 : kLy a (ky_up f (a 170) (.inr (9, [.int (g 0), .ref (a 171), .ref (a 172), .ref (a 173), .ref (a 174), .ref (a 175), .ref (a 176), .ref (a 177), .int (g 1), .ref (a 178), .ref (a 179), .ref (a 180), .ref (a 181), .int 0, .ref (a 182), .int (g 3), .int (g 4), .int (g 5), .int (g 6), .int (g 7), .int (g 8), .int (g 9), .int (g 10), .ref (a 183), .int (g 11), .ref (a 184), .ref (a 185), .ref (a 186), .int (g 12)]))) (upd g 2 0) p M [] := ⟨by unfold kMo; rw [kz_same]; rfl, rfl, M, (kz_ne fun w => absurd (ha _ _ w) (by omega)).trans h178, fun t ht => absurd ht (Nat.not_lt_zero t), fun _ _ => rfl⟩
  have hg0 : ∀ j, j ≠ 2 → upd g 2 0 j = g j := fun j hj => by unfold upd; rw [if_neg hj]
  have mh := hM; unfold kMo at mh
  refine ⟨Nat.le_of_ble_eq_true rfl, fun z => absurd z (by decide), ?_⟩; show ky_ok adK 194 0 [some (.ref (a 170)), some (.int (nI p)), none, none, none] [] f 0 0 _
  repeat' (first | (refine ky_ok_stp rfl ?_; simp (disch := first | omega | assumption) only [ky_stp, ky_inv, ky_ldi, ky_ldl, ky_ldd, ky_lda, ky_cl2, ky_st1, ky_st2, ky_s1i, ky_s2i, ky_s1l, ky_s2l, ky_sli, ky_s1f, ky_s2f, ky_s1d, ky_s2d, ky_sr, ky_sai, ky_sasi, ky_sasl, ky_sasr, ky_svr, ky_sv, ky_sv2, ky_s1, ky_cs, ky_pop, ky_nth, ky_snt, ky_obj, ky_ari, ky_arl, ky_arr, ky_arn, ky_fv, ky_rcv, List.map_cons, List.map_nil, List.drop_succ_cons, List.drop_zero, Value.category, Nat.reduceAdd, Nat.reduceSub, true_and, and_true, true_or, or_true, reduceCtorEq, ite_true, ite_false, eq_self, Nat.reduceEqDiff, Nat.reduceLeDiff, nI_add, nI_1, nI_leI, nI_ltI, nI_eq, nI_clamp, kz_m1, kz_mn, kz_mn2, kz_n0, kz_0n, kz_0, kz_le0, kz_0lt, false_implies, true_implies, not_false_eq_true, not_true_eq_false, Nat.zero_le, kb_0, kz_10, kz_of, ky_sw, kz_mx, kz_mi, mh, kz_same]) | (refine ⟨vp_in_nI (by omega) (by omega), ?_⟩) | (rw [if_neg (by decide)]; refine ⟨by decide, by decide, ?_⟩) | (refine ⟨by decide, by decide, ?_⟩) | (refine ⟨fun zc => ?_, fun zc => ?_⟩ <;> try (exfalso; omega)) | fail)
  generalize (ky_up f (a 170) (.inr (9, [.int (g 0), .ref (a 171), .ref (a 172), .ref (a 173), .ref (a 174), .ref (a 175), .ref (a 176), .ref (a 177), .int (g 1), .ref (a 178), .ref (a 179), .ref (a 180), .ref (a 181), .int 0, .ref (a 182), .int (g 3), .int (g 4), .int (g 5), .int (g 6), .int (g 7), .int (g 8), .int (g 9), .int (g 10), .ref (a 183), .int (g 11), .ref (a 184), .ref (a 185), .ref (a 186), .int (g 12)]))) = f0 at hF0 hL0 ⊢
  clear mh
  have hM0 := hL0.1
  have mh := hM0; unfold kMo at mh
  refine kx187 hM0 (hs' hF0) ho hR hp ?_
  simp only [ky_aft, ky_vl, Nat.reduceAdd]
  by_cases hk : kNmd z p
  case neg =>
    have e0 : kCO z p = 0 := if_neg hk
    have en := kNO_0 hk
    rw [e0, show kct 0 = -1 from rfl]
    repeat' (first | (refine fin f0 (upd g 2 0) _ _ _ hg0 (by rw [en]; exact hL0) hF0) | (refine ky_ok_stp rfl ?_; simp (disch := first | omega | assumption) only [ky_stp, ky_inv, ky_ldi, ky_ldl, ky_ldd, ky_lda, ky_cl2, ky_st1, ky_st2, ky_s1i, ky_s2i, ky_s1l, ky_s2l, ky_sli, ky_s1f, ky_s2f, ky_s1d, ky_s2d, ky_sr, ky_sai, ky_sasi, ky_sasl, ky_sasr, ky_svr, ky_sv, ky_sv2, ky_s1, ky_cs, ky_pop, ky_nth, ky_snt, ky_obj, ky_ari, ky_arl, ky_arr, ky_arn, ky_fv, ky_rcv, List.map_cons, List.map_nil, List.drop_succ_cons, List.drop_zero, Value.category, Nat.reduceAdd, Nat.reduceSub, true_and, and_true, true_or, or_true, reduceCtorEq, ite_true, ite_false, eq_self, Nat.reduceEqDiff, Nat.reduceLeDiff, nI_add, nI_1, nI_leI, nI_ltI, nI_eq, nI_clamp, kz_m1, kz_mn, kz_mn2, kz_n0, kz_0n, kz_0, kz_le0, kz_0lt, false_implies, true_implies, not_false_eq_true, not_true_eq_false, Nat.zero_le, kb_0, kz_10, kz_of, ky_sw, kz_mx, kz_mi]) | (refine ⟨vp_in_nI (by omega) (by omega), ?_⟩) | (rw [if_neg (by decide)]; refine ⟨by decide, by decide, ?_⟩) | (refine ⟨by decide, by decide, ?_⟩) | (refine ⟨fun zc => ?_, fun zc => ?_⟩ <;> try (exfalso; omega)) | fail)
  obtain ⟨c1, c2⟩ := kCO_s ho hp hk
  have ec : kct (kCO z p) = nI (kCO z p) := if_neg (by omega)
  have em : (nI (kCO z p) = -1) = False := kz_nm (by omega)
  have hPl := kLt_P ho l1 l6 p hp (Nat.le_refl _)
  have hns := kNO_s ho hp
  rw [ec]
  have e12 : (nI 0 : Int32) = 0 := rfl
  rcases kP_sp (kL z.R) (kL z.R p) p with ⟨k0, -⟩ | ⟨q, k0, k1, k2, k3⟩
  · have e0 : kPF z p = 0 := if_neg fun w => w.2.2.1 (by rw [hPl, ← hl]; exact k0)
    rw [if_pos e0] at hns
    have hsg := sgnl f0 (upd g 2 0) [] (some (.int (-1))) none hk (Nat.zero_le _) hns.symm hg0 hL0 hF0
    repeat' (first | (refine kx178 hM0 (hs' hF0) hL hp ?_; simp only [ky_aft, ky_vl, Nat.reduceAdd]) | (exact hsg) | (refine ky_ok_stp rfl ?_; simp (disch := first | omega | assumption) only [ky_stp, ky_inv, ky_ldi, ky_ldl, ky_ldd, ky_lda, ky_cl2, ky_st1, ky_st2, ky_s1i, ky_s2i, ky_s1l, ky_s2l, ky_sli, ky_s1f, ky_s2f, ky_s1d, ky_s2d, ky_sr, ky_sai, ky_sasi, ky_sasl, ky_sasr, ky_svr, ky_sv, ky_sv2, ky_s1, ky_cs, ky_pop, ky_nth, ky_snt, ky_obj, ky_ari, ky_arl, ky_arr, ky_arn, ky_fv, ky_rcv, List.map_cons, List.map_nil, List.drop_succ_cons, List.drop_zero, Value.category, Nat.reduceAdd, Nat.reduceSub, true_and, and_true, true_or, or_true, reduceCtorEq, ite_true, ite_false, eq_self, Nat.reduceEqDiff, Nat.reduceLeDiff, nI_add, nI_1, nI_leI, nI_ltI, nI_eq, nI_clamp, kz_m1, kz_mn, kz_mn2, kz_n0, kz_0n, kz_0, kz_le0, kz_0lt, false_implies, true_implies, not_false_eq_true, not_true_eq_false, Nat.zero_le, kb_0, kz_10, kz_of, ky_sw, kz_mx, kz_mi, mh, em, k0, kz_z, show ((-1 : Int32) < 0) = True from eq_true (by decide)]) | (refine ⟨vp_in_nI (by omega) (by omega), ?_⟩) | (rw [if_neg (by decide)]; refine ⟨by decide, by decide, ?_⟩) | (refine ⟨by decide, by decide, ?_⟩) | (refine ⟨fun zc => ?_, fun zc => ?_⟩ <;> try (exfalso; omega)) | fail)
  have hq : q < z.n := by omega
  have k0' := k0
  rw [hl] at k0'
  have hqd := hD q k1
  have e179 : f0 (a 179) = _ := (hF0 179 (by unfold kAdF; omega)).trans h179
  have hlt : kLt (kV z.R) p (kV z.R p - 1) = q + 1 := by rw [hPl, ← hl]; exact k0
  by_cases hkq : kNmd z q
  case neg =>
    have e0 : kPF z p = 0 := if_neg fun w => hkq (by
      have := w.2.2.2
      rw [hlt] at this
      exact this)
    rw [if_pos e0] at hns
    rw [kNO_0 hkq] at hqd
    have hsg := sgnl f0 (upd g 2 0) [] (some (.int (nI q))) none hk (Nat.zero_le _) hns.symm hg0 hL0 hF0
    have hEq : E q = 0 := hqd.1
    repeat' (first | (refine kx178 hM0 (hs' hF0) hL hp ?_; simp only [ky_aft, ky_vl, Nat.reduceAdd]) | (refine ⟨vp_in_nI (n := q) (by omega) (by omega), ?_⟩) | (exact hsg) | (refine ky_ok_stp rfl ?_; simp (disch := first | omega | assumption) only [ky_stp, ky_inv, ky_ldi, ky_ldl, ky_ldd, ky_lda, ky_cl2, ky_st1, ky_st2, ky_s1i, ky_s2i, ky_s1l, ky_s2l, ky_sli, ky_s1f, ky_s2f, ky_s1d, ky_s2d, ky_sr, ky_sai, ky_sasi, ky_sasl, ky_sasr, ky_svr, ky_sv, ky_sv2, ky_s1, ky_cs, ky_pop, ky_nth, ky_snt, ky_obj, ky_ari, ky_arl, ky_arr, ky_arn, ky_fv, ky_rcv, List.map_cons, List.map_nil, List.drop_succ_cons, List.drop_zero, Value.category, Nat.reduceAdd, Nat.reduceSub, true_and, and_true, true_or, or_true, reduceCtorEq, ite_true, ite_false, eq_self, Nat.reduceEqDiff, Nat.reduceLeDiff, nI_add, nI_1, nI_leI, nI_ltI, nI_eq, nI_clamp, kz_m1, kz_mn, kz_mn2, kz_n0, kz_0n, kz_0, kz_le0, kz_0lt, false_implies, true_implies, not_false_eq_true, not_true_eq_false, Nat.zero_le, kb_0, kz_10, kz_of, ky_sw, kz_mx, kz_mi, mh, em, k0, nI_pred, e179, hEq, Int32.le_refl]) | (refine ⟨vp_in_nI (by omega) (by omega), ?_⟩) | (rw [if_neg (by decide)]; refine ⟨by decide, by decide, ?_⟩) | (refine ⟨by decide, by decide, ?_⟩) | (refine ⟨fun zc => ?_, fun zc => ?_⟩ <;> try (exfalso; omega)) | fail)
  have hne : (kNO z q).length ≠ 0 := fun w => kNO_n ho hq hkq (List.length_eq_zero_iff.mp w)
  have hl45 := kNO_l ho 6 q hq (ho.lv q hq).2.2
  have hVq : kV z.R q + 1 = kV z.R p := by
    have := kLt_V (kV z.R) p (kV z.R p - 1) (by rw [hlt]; omega)
    rw [hlt] at this
    have : kV z.R q = kV z.R p - 1 := this
    omega
  by_cases h2 : z.S 2 (kV z.R p) = 0
  case neg =>
    have e0 : kPF z p = 0 := if_neg fun w => h2 w.2.1
    rw [if_pos e0] at hns
    have hsg := sgnl f0 (upd g 2 0) [] (some (.int (nI q))) none hk (Nat.zero_le _) hns.symm hg0 hL0 hF0
    repeat' (first | (refine kx178 hM0 (hs' hF0) hL hp ?_; simp only [ky_aft, ky_vl, Nat.reduceAdd]) | (refine ⟨vp_in_nI (n := q) (by omega) (by omega), ?_⟩) | (refine kx175 hM0 (hs' hF0) (show p < 60 by omega) ?_; simp only [ky_aft, ky_vl, Nat.reduceAdd]) | ((refine kx176 (w := 12) hM0 (hs' hF0) l1 l6 (by decide) ?_; simp only [ky_aft, ky_vl, Nat.reduceAdd])) | (exact hsg) | (refine ky_ok_stp rfl ?_; simp (disch := first | omega | assumption) only [ky_stp, ky_inv, ky_ldi, ky_ldl, ky_ldd, ky_lda, ky_cl2, ky_st1, ky_st2, ky_s1i, ky_s2i, ky_s1l, ky_s2l, ky_sli, ky_s1f, ky_s2f, ky_s1d, ky_s2d, ky_sr, ky_sai, ky_sasi, ky_sasl, ky_sasr, ky_svr, ky_sv, ky_sv2, ky_s1, ky_cs, ky_pop, ky_nth, ky_snt, ky_obj, ky_ari, ky_arl, ky_arr, ky_arn, ky_fv, ky_rcv, List.map_cons, List.map_nil, List.drop_succ_cons, List.drop_zero, Value.category, Nat.reduceAdd, Nat.reduceSub, true_and, and_true, true_or, or_true, reduceCtorEq, ite_true, ite_false, eq_self, Nat.reduceEqDiff, Nat.reduceLeDiff, nI_add, nI_1, nI_leI, nI_ltI, nI_eq, nI_clamp, kz_m1, kz_mn, kz_mn2, kz_n0, kz_0n, kz_0, kz_le0, kz_0lt, false_implies, true_implies, not_false_eq_true, not_true_eq_false, Nat.zero_le, kb_0, kz_10, kz_of, ky_sw, kz_mx, kz_mi, mh, em, k0, k0', nI_pred, e179, hqd.1, eq_false hne, r0, hl, hS2, eq_false h2]) | (refine ⟨vp_in_nI (by omega) (by omega), ?_⟩) | (rw [if_neg (by decide)]; refine ⟨by decide, by decide, ?_⟩) | (refine ⟨by decide, by decide, ?_⟩) | (refine ⟨fun zc => ?_, fun zc => ?_⟩ <;> try (exfalso; omega)) | fail)
  have e0 : kPF z p = q + 1 := by
    have : kPF z p = kLt (kV z.R) p (kV z.R p - 1) := if_pos ⟨hk, h2, by rw [hlt]; omega, by rw [hlt]; exact hkq⟩
    rw [this, hlt]
  rw [if_neg (by omega), e0] at hns
  have hns : (kNO z q ++ [46]) ++ sgn (kKD z p) (kCO z p) = kNO z p := hns.symm
  have loop : ∀ m i f1 g1, i + m = (kNO z q).length → (∀ j, j ≠ 2 → g1 j = g j) → kLy a f1 g1 p M ((kNO z q).take i) → kfr a f f1 kAdF → ky_ok adK 194 52 [some (.ref (a 170)), some (.int (nI p)), some (.int (nI (kCO z p))), some (.int (nI q)), some (.int (nI i))] [] f1 0 0 Q := by
    intro m
    induction m with
    | zero =>
      intro i f1 g1 hi hg h hF
      have e179 : f1 (a 179) = _ := (hF 179 (by unfold kAdF; omega)).trans h179
      have hM1 := h.1
      have ei : i = (kNO z q).length := by omega
      rw [ei, List.take_length] at h
      have mh := hM1; unfold kMo at mh
      repeat' (first | (refine ⟨vp_in_nI (n := q) (by omega) (by omega), ?_⟩) | (refine kx188 (b := 46) ha h (by omega) (show p < 60 by omega) ?_) | (refine ky_ok_stp rfl ?_; simp (disch := first | omega | assumption) only [ky_stp, ky_inv, ky_ldi, ky_ldl, ky_ldd, ky_lda, ky_cl2, ky_st1, ky_st2, ky_s1i, ky_s2i, ky_s1l, ky_s2l, ky_sli, ky_s1f, ky_s2f, ky_s1d, ky_s2d, ky_sr, ky_sai, ky_sasi, ky_sasl, ky_sasr, ky_svr, ky_sv, ky_sv2, ky_s1, ky_cs, ky_pop, ky_nth, ky_snt, ky_obj, ky_ari, ky_arl, ky_arr, ky_arn, ky_fv, ky_rcv, List.map_cons, List.map_nil, List.drop_succ_cons, List.drop_zero, Value.category, Nat.reduceAdd, Nat.reduceSub, true_and, and_true, true_or, or_true, reduceCtorEq, ite_true, ite_false, eq_self, Nat.reduceEqDiff, Nat.reduceLeDiff, nI_add, nI_1, nI_leI, nI_ltI, nI_eq, nI_clamp, kz_m1, kz_mn, kz_mn2, kz_n0, kz_0n, kz_0, kz_le0, kz_0lt, false_implies, true_implies, not_false_eq_true, not_true_eq_false, Nat.zero_le, kb_0, kz_10, kz_of, ky_sw, kz_mx, kz_mi, mh, e179, hqd.1, ei]) | (refine ⟨vp_in_nI (by omega) (by omega), ?_⟩) | (rw [if_neg (by decide)]; refine ⟨by decide, by decide, ?_⟩) | (refine ⟨by decide, by decide, ?_⟩) | (refine ⟨fun zc => ?_, fun zc => ?_⟩ <;> try (exfalso; omega)) | fail)
      intro f2 g2 w1 w2 w3
      simp only [ky_aft, ky_vl, Nat.reduceAdd]
      exact sgnl f2 g2 _ _ _ hk (by rw [List.length_append, List.length_singleton]; omega) hns (fun j hj => (w1 j hj).trans (hg j hj)) w2 (kfr_tr hF w3 fun j hj => ⟨hj, hj⟩)
    | succ m ih =>
      intro i f1 g1 hi hg h hF
      have e179 : f1 (a 179) = _ := (hF 179 (by unfold kAdF; omega)).trans h179
      have hM1 := h.1
      obtain ⟨-, -, M1, e178, -, hM3⟩ := id h
      have hMi : M1 (60 * q + i) = nI ((kNO z q).getD i 0) := (hM3 _ (by omega)).trans (hqd.2 i (by omega))
      have mh := hM1; unfold kMo at mh
      repeat' (first | (refine ⟨vp_in_nI (n := q) (by omega) (by omega), ?_⟩) | (refine ⟨vp_in_nI (n := 60 * q + i) (by omega) (by omega), ?_⟩) | (refine kx188 ha h (by rw [List.length_take]; omega) (show p < 60 by omega) ?_) | (refine ky_ok_stp rfl ?_; simp (disch := first | omega | assumption) only [ky_stp, ky_inv, ky_ldi, ky_ldl, ky_ldd, ky_lda, ky_cl2, ky_st1, ky_st2, ky_s1i, ky_s2i, ky_s1l, ky_s2l, ky_sli, ky_s1f, ky_s2f, ky_s1d, ky_s2d, ky_sr, ky_sai, ky_sasi, ky_sasl, ky_sasr, ky_svr, ky_sv, ky_sv2, ky_s1, ky_cs, ky_pop, ky_nth, ky_snt, ky_obj, ky_ari, ky_arl, ky_arr, ky_arn, ky_fv, ky_rcv, List.map_cons, List.map_nil, List.drop_succ_cons, List.drop_zero, Value.category, Nat.reduceAdd, Nat.reduceSub, true_and, and_true, true_or, or_true, reduceCtorEq, ite_true, ite_false, eq_self, Nat.reduceEqDiff, Nat.reduceLeDiff, nI_add, nI_1, nI_leI, nI_ltI, nI_eq, nI_clamp, kz_m1, kz_mn, kz_mn2, kz_n0, kz_0n, kz_0, kz_le0, kz_0lt, false_implies, true_implies, not_false_eq_true, not_true_eq_false, Nat.zero_le, kb_0, kz_10, kz_of, ky_sw, kz_mx, kz_mi, mh, e179, e178, hMi, hqd.1, kz_60, nI_mul]) | (refine ⟨vp_in_nI (by omega) (by omega), ?_⟩) | (rw [if_neg (by decide)]; refine ⟨by decide, by decide, ?_⟩) | (refine ⟨by decide, by decide, ?_⟩) | (refine ⟨fun zc => ?_, fun zc => ?_⟩ <;> try (exfalso; omega)) | fail)
      intro f2 g2 w1 w2 w3
      simp only [ky_aft, ky_vl, Nat.reduceAdd]
      rw [ktk (by omega)] at w2
      have hi' := ih (i + 1) f2 g2 (by omega) (fun j hj => (w1 j hj).trans (hg j hj)) w2 (kfr_tr hF w3 fun j hj => ⟨hj, hj⟩)
      repeat' (first | (exact hi') | (refine ky_ok_stp rfl ?_; simp (disch := first | omega | assumption) only [ky_stp, ky_inv, ky_ldi, ky_ldl, ky_ldd, ky_lda, ky_cl2, ky_st1, ky_st2, ky_s1i, ky_s2i, ky_s1l, ky_s2l, ky_sli, ky_s1f, ky_s2f, ky_s1d, ky_s2d, ky_sr, ky_sai, ky_sasi, ky_sasl, ky_sasr, ky_svr, ky_sv, ky_sv2, ky_s1, ky_cs, ky_pop, ky_nth, ky_snt, ky_obj, ky_ari, ky_arl, ky_arr, ky_arn, ky_fv, ky_rcv, List.map_cons, List.map_nil, List.drop_succ_cons, List.drop_zero, Value.category, Nat.reduceAdd, Nat.reduceSub, true_and, and_true, true_or, or_true, reduceCtorEq, ite_true, ite_false, eq_self, Nat.reduceEqDiff, Nat.reduceLeDiff, nI_add, nI_1, nI_leI, nI_ltI, nI_eq, nI_clamp, kz_m1, kz_mn, kz_mn2, kz_n0, kz_0n, kz_0, kz_le0, kz_0lt, false_implies, true_implies, not_false_eq_true, not_true_eq_false, Nat.zero_le, kb_0, kz_10, kz_of, ky_sw, kz_mx, kz_mi]) | (refine ⟨vp_in_nI (by omega) (by omega), ?_⟩) | (rw [if_neg (by decide)]; refine ⟨by decide, by decide, ?_⟩) | (refine ⟨by decide, by decide, ?_⟩) | (refine ⟨fun zc => ?_, fun zc => ?_⟩ <;> try (exfalso; omega)) | fail)
  have hlp := loop (kNO z q).length 0 f0 (upd g 2 0) (by omega) hg0 (by rw [List.take_zero]; exact hL0) hF0
  repeat' (first | (refine kx178 hM0 (hs' hF0) hL hp ?_; simp only [ky_aft, ky_vl, Nat.reduceAdd]) | (refine ⟨vp_in_nI (n := q) (by omega) (by omega), ?_⟩) | (refine kx175 hM0 (hs' hF0) (show p < 60 by omega) ?_; simp only [ky_aft, ky_vl, Nat.reduceAdd]) | ((refine kx176 (w := 12) hM0 (hs' hF0) l1 l6 (by decide) ?_; simp only [ky_aft, ky_vl, Nat.reduceAdd])) | (exact hlp) | (refine ky_ok_stp rfl ?_; simp (disch := first | omega | assumption) only [ky_stp, ky_inv, ky_ldi, ky_ldl, ky_ldd, ky_lda, ky_cl2, ky_st1, ky_st2, ky_s1i, ky_s2i, ky_s1l, ky_s2l, ky_sli, ky_s1f, ky_s2f, ky_s1d, ky_s2d, ky_sr, ky_sai, ky_sasi, ky_sasl, ky_sasr, ky_svr, ky_sv, ky_sv2, ky_s1, ky_cs, ky_pop, ky_nth, ky_snt, ky_obj, ky_ari, ky_arl, ky_arr, ky_arn, ky_fv, ky_rcv, List.map_cons, List.map_nil, List.drop_succ_cons, List.drop_zero, Value.category, Nat.reduceAdd, Nat.reduceSub, true_and, and_true, true_or, or_true, reduceCtorEq, ite_true, ite_false, eq_self, Nat.reduceEqDiff, Nat.reduceLeDiff, nI_add, nI_1, nI_leI, nI_ltI, nI_eq, nI_clamp, kz_m1, kz_mn, kz_mn2, kz_n0, kz_0n, kz_0, kz_le0, kz_0lt, false_implies, true_implies, not_false_eq_true, not_true_eq_false, Nat.zero_le, kb_0, kz_10, kz_of, ky_sw, kz_mx, kz_mi, mh, em, k0, k0', nI_pred, e179, hqd.1, eq_false hne, r0, hl, hS2, h2]) | (refine ⟨vp_in_nI (by omega) (by omega), ?_⟩) | (rw [if_neg (by decide)]; refine ⟨by decide, by decide, ?_⟩) | (refine ⟨by decide, by decide, ?_⟩) | (refine ⟨fun zc => ?_, fun zc => ?_⟩ <;> try (exfalso; omega)) | fail)
end KXM
