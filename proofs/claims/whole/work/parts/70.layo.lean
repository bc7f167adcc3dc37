/-! ## the reference: one NUMBER is laid -/
def kLnF (j : Nat) : Prop := j = 170 ∨ j = 178 ∨ j = 179
section KXM
variable {adK a : Nat → Nat} {f : ky_H} {Q : ky_Q} {g : Nat → Int32} {s r N : Nat → Int32} {p w n l b c sh : Nat} {x lo hi v : Int32} {z : kZ} {o : List Nat}
theorem kx194 (ha : kI a) (hM : kMo a f g) (hs : f (a 171) = some (.inl (1, 388, .inl s))) (ho : kZo z) (hR : kRw s z) (hp : p < z.n) (hD : kLd a f z p) (hQ : ∀ f' g', (∀ j, j ≠ 2 → g' j = g j) → kMo a f' g' → kLd a f' z (p + 1) → kfr a f f' kLnF → Q (.inl none) f') : ky_cl adK 194 [.ref (a 170), .int (nI p)] f Q := by
  have h60 := ho.n60
  have hL := kRw_l ho hR
  obtain ⟨hl, l1, l6⟩ := ho.lv p hp
  obtain ⟨r0, -⟩ := hR.2.1 p hp
  have hS2 := hR.2.2 2 (kV z.R p) (by decide) l1 l6
  rw [show 3 + 6 * 2 + kV z.R p = 3 + 12 + kV z.R p by omega] at hS2
  obtain ⟨M, E, h178, h179, hD⟩ := hD
  have hlen : (kNO z p).length ≤ 54 := kNo_len (kZo_w ho) hp
  -- the end
  have fin : ∀ f1 g1 x2 x3 x4, (∀ j, j ≠ 2 → g1 j = g j) → kLy a f1 g1 p M (kNO z p) → kfr a f f1 kAdF → ky_ok adK 194 99 [some (.ref (a 170)), some (.int (nI p)), x2, x3, x4] [] f1 0 0 Q := by
    intro f1 g1 x2 x3 x4 hg h hF
    obtain ⟨hM1, hg2, M1, e178, hM2, hM3⟩ := h
    have e179 : f1 (a 179) = _ := (hF 179 (by unfold kAdF; omega)).trans h179
    have mh := hM1; unfold kMo at mh
    repeat' (first | (refine ⟨vp_in_nI (n := p) (by omega) (by omega), ?_⟩) | (refine ky_ok_stp rfl ?_; simp (disch := first | omega | assumption) only [ky_stp, ky_inv, ky_ldi, ky_ldl, ky_ldd, ky_lda, ky_cl2, ky_st1, ky_st2, ky_s1i, ky_s2i, ky_s1l, ky_s2l, ky_sli, ky_s1f, ky_s2f, ky_s1d, ky_s2d, ky_sr, ky_sai, ky_sasi, ky_sasl, ky_sasr, ky_svr, ky_sv, ky_sv2, ky_s1, ky_cs, ky_pop, ky_nth, ky_snt, ky_obj, ky_ari, ky_arl, ky_arr, ky_arn, ky_fv, ky_rcv, List.map_cons, List.map_nil, List.drop_succ_cons, List.drop_zero, Value.category, Nat.reduceAdd, Nat.reduceSub, true_and, and_true, true_or, or_true, reduceCtorEq, ite_true, ite_false, eq_self, Nat.reduceEqDiff, Nat.reduceLeDiff, nI_add, nI_1, nI_leI, nI_ltI, nI_eq, nI_clamp, kz_m1, kz_mn, kz_mn2, kz_n0, kz_0n, kz_0, kz_le0, kz_0lt, false_implies, true_implies, not_false_eq_true, not_true_eq_false, Nat.zero_le, kb_0, kz_10, kz_of, ky_sw, kz_mx, kz_mi, mh, e179, hg2]) | (refine ⟨vp_in_nI (by omega) (by omega), ?_⟩) | (refine ⟨fun zc => ?_, fun zc => ?_⟩ <;> try (exfalso; omega)) | fail)
    refine hQ _ g1 hg (kMo_fr hM1 (kz_ne fun w => absurd (ha _ _ w) (by omega))) ⟨M1, upd E p (nI (kNO z p).length), (kz_ne fun w => absurd (ha _ _ w) (by omega)).trans e178, kz_same, fun i hi => ?_⟩ ?_
    · by_cases e : i = p
      · subst e
        exact ⟨by unfold upd; rw [if_pos rfl], hM2⟩
      · have hd := hD i (by omega)
        refine ⟨by unfold upd; rw [if_neg e]; exact hd.1, fun t ht => ?_⟩
        have := kNo_len (kZo_w ho) (show i < z.n by omega)
        have ht' : t < 54 := Nat.lt_of_lt_of_le ht this
        rw [hM3 _ (by omega)]
        exact hd.2 t ht
    · intro j hj
      unfold kLnF at hj
      exact (kz_ne fun w => hj (by have := ha _ _ w; omega)).trans (hF j (by unfold kAdF; omega))
  have hs' : ∀ {f1}, kfr a f f1 kAdF → f1 (a 171) = some (.inl (1, 388, .inl s)) := fun hF => (hF 171 (by unfold kAdF; omega)).trans hs
  -- from the sign on
  have sgnl : ∀ f1 g1 o x3 x4, kNmd z p → o.length ≤ 49 → o ++ sgn (kKD z p) (kCO z p) = kNO z p → (∀ j, j ≠ 2 → g1 j = g j) → kLy a f1 g1 p M o → kfr a f f1 kAdF → ky_ok adK 194 93 [some (.ref (a 170)), some (.int (nI p)), some (.int (nI (kCO z p))), x3, x4] [] f1 0 0 Q := by
    intro f1 g1 o x3 x4 hk hol he hg h hF
    obtain ⟨c1, c2⟩ := kCO_s ho hp hk
    have hM1 := h.1
    have mh := hM1; unfold kMo at mh
    have he' : o ++ sg (ksk z.S (kV z.R p)) (kCO z p) = kNO z p := by
      rw [← he]; unfold sgn; rw [if_neg (by omega)]; rfl
    repeat' (first | (refine kx193 ha h (hs' hF) ho hR hol hp c2 c1 hk ?_) | (refine ky_ok_stp rfl ?_; simp (disch := first | omega | assumption) only [ky_stp, ky_inv, ky_ldi, ky_ldl, ky_ldd, ky_lda, ky_cl2, ky_st1, ky_st2, ky_s1i, ky_s2i, ky_s1l, ky_s2l, ky_sli, ky_s1f, ky_s2f, ky_s1d, ky_s2d, ky_sr, ky_sai, ky_sasi, ky_sasl, ky_sasr, ky_svr, ky_sv, ky_sv2, ky_s1, ky_cs, ky_pop, ky_nth, ky_snt, ky_obj, ky_ari, ky_arl, ky_arr, ky_arn, ky_fv, ky_rcv, List.map_cons, List.map_nil, List.drop_succ_cons, List.drop_zero, Value.category, Nat.reduceAdd, Nat.reduceSub, true_and, and_true, true_or, or_true, reduceCtorEq, ite_true, ite_false, eq_self, Nat.reduceEqDiff, Nat.reduceLeDiff, nI_add, nI_1, nI_leI, nI_ltI, nI_eq, nI_clamp, kz_m1, kz_mn, kz_mn2, kz_n0, kz_0n, kz_0, kz_le0, kz_0lt, false_implies, true_implies, not_false_eq_true, not_true_eq_false, Nat.zero_le, kb_0, kz_10, kz_of, ky_sw, kz_mx, kz_mi, mh]) | (refine ⟨vp_in_nI (by omega) (by omega), ?_⟩) | (refine ⟨fun zc => ?_, fun zc => ?_⟩ <;> try (exfalso; omega)) | fail)
    intro f2 g2 w1 w2 w3
    simp only [ky_aft, ky_vl, Nat.reduceAdd]
    rw [he'] at w2
    exact fin f2 g2 _ _ _ (fun j hj => (w1 j hj).trans (hg j hj)) w2 (kfr_tr hF w3 fun j hj => ⟨hj, hj⟩)
  have hF0 : kfr a f (ky_up f (a 170) (.inr (9, [.int (g 0), .ref (a 171), .ref (a 172), .ref (a 173), .ref (a 174), .ref (a 175), .ref (a 176), .ref (a 177), .int (g 1), .ref (a 178), .ref (a 179), .ref (a 180), .ref (a 181), .int 0, .ref (a 182), .int (g 3), .int (g 4), .int (g 5), .int (g 6), .int (g 7), .int (g 8), .int (g 9), .int (g 10), .ref (a 183), .int (g 11), .ref (a 184), .ref (a 185), .ref (a 186), .int (g 12)]))) kAdF := kfr_up ha kfr_rf (by unfold kAdF; omega)
  have hL0 : kLy a (ky_up f (a 170) (.inr (9, [.int (g 0), .ref (a 171), .ref (a 172), .ref (a 173), .ref (a 174), .ref (a 175), .ref (a 176), .ref (a 177), .int (g 1), .ref (a 178), .ref (a 179), .ref (a 180), .ref (a 181), .int 0, .ref (a 182), .int (g 3), .int (g 4), .int (g 5), .int (g 6), .int (g 7), .int (g 8), .int (g 9), .int (g 10), .ref (a 183), .int (g 11), .ref (a 184), .ref (a 185), .ref (a 186), .int (g 12)]))) (upd g 2 0) p M [] := ⟨by unfold kMo; rw [kz_same]; rfl, rfl, M, (kz_ne fun w => absurd (ha _ _ w) (by omega)).trans h178, fun t ht => absurd ht (Nat.not_lt_zero t), fun _ _ => rfl⟩
  have hg0 : ∀ j, j ≠ 2 → upd g 2 0 j = g j := fun j hj => by unfold upd; rw [if_neg hj]
  have mh := hM; unfold kMo at mh
  refine ⟨Nat.le_of_ble_eq_true rfl, fun z => absurd z (by decide), ?_⟩; show ky_ok adK 194 0 [some (.ref (a 170)), some (.int (nI p)), none, none, none] [] f 0 0 _
  repeat' (first | (refine ky_ok_stp rfl ?_; simp (disch := first | omega | assumption) only [ky_stp, ky_inv, ky_ldi, ky_ldl, ky_ldd, ky_lda, ky_cl2, ky_st1, ky_st2, ky_s1i, ky_s2i, ky_s1l, ky_s2l, ky_sli, ky_s1f, ky_s2f, ky_s1d, ky_s2d, ky_sr, ky_sai, ky_sasi, ky_sasl, ky_sasr, ky_svr, ky_sv, ky_sv2, ky_s1, ky_cs, ky_pop, ky_nth, ky_snt, ky_obj, ky_ari, ky_arl, ky_arr, ky_arn, ky_fv, ky_rcv, List.map_cons, List.map_nil, List.drop_succ_cons, List.drop_zero, Value.category, Nat.reduceAdd, Nat.reduceSub, true_and, and_true, true_or, or_true, reduceCtorEq, ite_true, ite_false, eq_self, Nat.reduceEqDiff, Nat.reduceLeDiff, nI_add, nI_1, nI_leI, nI_ltI, nI_eq, nI_clamp, kz_m1, kz_mn, kz_mn2, kz_n0, kz_0n, kz_0, kz_le0, kz_0lt, false_implies, true_implies, not_false_eq_true, not_true_eq_false, Nat.zero_le, kb_0, kz_10, kz_of, ky_sw, kz_mx, kz_mi, mh, kz_same]) | (refine ⟨vp_in_nI (by omega) (by omega), ?_⟩) | (rw [if_neg (by decide)]; refine ⟨by decide, by decide, ?_⟩) | (refine ⟨by decide, by decide, ?_⟩) | (refine ⟨fun zc => ?_, fun zc => ?_⟩ <;> try (exfalso; omega)) | fail)
  generalize (ky_up f (a 170) (.inr (9, [.int (g 0), .ref (a 171), .ref (a 172), .ref (a 173), .ref (a 174), .ref (a 175), .ref (a 176), .ref (a 177), .int (g 1), .ref (a 178), .ref (a 179), .ref (a 180), .ref (a 181), .int 0, .ref (a 182), .int (g 3), .int (g 4), .int (g 5), .int (g 6), .int (g 7), .int (g 8), .int (g 9), .int (g 10), .ref (a 183), .int (g 11), .ref (a 184), .ref (a 185), .ref (a 186), .int (g 12)]))) = f0 at hF0 hL0 ⊢
  clear mh
  have hM0 := hL0.1
  have mh := hM0; unfold kMo at mh
  refine kx187 hM0 (hs' hF0) ho hR hp ?_
  simp only [ky_aft, ky_vl, Nat.reduceAdd]
  by_cases hk : kNmd z p
  case neg =>
    have e0 : kCO z p = 0 := if_neg hk
    have en := kNO_0 hk
    rw [e0, show kct 0 = -1 from rfl]
    repeat' (first | (refine fin f0 (upd g 2 0) _ _ _ hg0 (by rw [en]; exact hL0) hF0) | (refine ky_ok_stp rfl ?_; simp (disch := first | omega | assumption) only [ky_stp, ky_inv, ky_ldi, ky_ldl, ky_ldd, ky_lda, ky_cl2, ky_st1, ky_st2, ky_s1i, ky_s2i, ky_s1l, ky_s2l, ky_sli, ky_s1f, ky_s2f, ky_s1d, ky_s2d, ky_sr, ky_sai, ky_sasi, ky_sasl, ky_sasr, ky_svr, ky_sv, ky_sv2, ky_s1, ky_cs, ky_pop, ky_nth, ky_snt, ky_obj, ky_ari, ky_arl, ky_arr, ky_arn, ky_fv, ky_rcv, List.map_cons, List.map_nil, List.drop_succ_cons, List.drop_zero, Value.category, Nat.reduceAdd, Nat.reduceSub, true_and, and_true, true_or, or_true, reduceCtorEq, ite_true, ite_false, eq_self, Nat.reduceEqDiff, Nat.reduceLeDiff, nI_add, nI_1, nI_leI, nI_ltI, nI_eq, nI_clamp, kz_m1, kz_mn, kz_mn2, kz_n0, kz_0n, kz_0, kz_le0, kz_0lt, false_implies, true_implies, not_false_eq_true, not_true_eq_false, Nat.zero_le, kb_0, kz_10, kz_of, ky_sw, kz_mx, kz_mi]) | (refine ⟨vp_in_nI (by omega) (by omega), ?_⟩) | (rw [if_neg (by decide)]; refine ⟨by decide, by decide, ?_⟩) | (refine ⟨by decide, by decide, ?_⟩) | (refine ⟨fun zc => ?_, fun zc => ?_⟩ <;> try (exfalso; omega)) | fail)
  obtain ⟨c1, c2⟩ := kCO_s ho hp hk
  have ec : kct (kCO z p) = nI (kCO z p) := if_neg (by omega)
  have em : (nI (kCO z p) = -1) = False := kz_nm (by omega)
  have hPl := kLt_P ho l1 l6 p hp (Nat.le_refl _)
  have hns := kNO_s ho hp
  rw [ec]
  sorry
end KXM
