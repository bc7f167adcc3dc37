/-! ## the reference: its rows -/
/-- half of a name -/
def kHf (w : List Nat) (t : Nat) : Int32 := nI (27 * (27 * (27 * (w.getD t 0 - 96) + (w.getD (t + 1) 0 - 96)) + (w.getD (t + 2) 0 - 96)) + (w.getD (t + 3) 0 - 96))
/-- the rows tell an outline -/
def kRw (s : Nat → Int32) (z : kZ) : Prop := s 0 = nI z.n ∧ (∀ i, i < z.n → s (28 + 6 * i) = kL z.R i ∧ s (28 + 6 * i + 1) = kPl z.R i ∧ s (28 + 6 * i + 2) = kFo z.R i ∧ ∃ w, kN z.R i = kNW w ∧ kWd w ∧ s (28 + 6 * i + 3) = kHf w 0 ∧ s (28 + 6 * i + 4) = kHf w 4) ∧ ∀ c l, c < 4 → 1 ≤ l → l ≤ 6 → s (3 + 6 * c + l) = z.S c l
theorem kRw_l {s : Nat → Int32} {z : kZ} (ho : kZo z) (h : kRw s z) : kRlv s z.n (kL z.R) := ⟨ho.n60, h.1, fun i hi => (h.2.1 i hi).1⟩
theorem kRw_e {s : Nat → Int32} {z z' : kZ} (h : kRw s z) (he : kZe z z') : kRw s z' := by
  obtain ⟨e1, e2, e3⟩ := he
  refine ⟨by rw [e1]; exact h.1, fun i hi => ?_, fun c l hc h1 h6 => ?_⟩
  · have hi' : i < z.n := by omega
    have w := h.2.1 i hi'
    have er := e2 i hi'
    unfold kL kPl kFo kN at w ⊢
    rw [er]
    exact w
  · obtain ⟨q0, q1, q2, q3⟩ := e3 l h1 h6
    have w := h.2.2 c l hc h1 h6
    rw [w]
    match c, hc with
    | 0, _ => exact q0.symm
    | 1, _ => exact q1.symm
    | 2, _ => exact q2.symm
    | 3, _ => exact q3.symm
/-- no heading that holds it in its branch is folded -/
def kVis (L F : Nat → Int32) (p : Nat) : Prop := ∀ q, q < p → (∀ t, q < t → t ≤ p → L q < L t) → ¬ F q = 1
/-- counted -/
def kNmd (z : kZ) (i : Nat) : Prop := kPl z.R i = 0 ∧ ¬ z.S 0 (kV z.R i) = 5
section KXM
variable {adK a : Nat → Nat} {f : ky_H} {Q : ky_Q} {g : Nat → Int32} {s r : Nat → Int32} {p w n l : Nat} {x lo hi v : Int32} {z : kZ}
theorem kx185 (hM : kMo a f g) (hs : f (a 171) = some (.inl (1, 388, .inl s))) (ho : kZo z) (hR : kRw s z) (hp : p < z.n) (hy : kNmd z p → Q (.inl (some (.int 1))) f) (hn : ¬ kNmd z p → Q (.inl (some (.int 0))) f) : ky_cl adK 185 [.ref (a 170), .int (nI p)] f Q := by
  have h60 := ho.n60
  obtain ⟨hl, h1, h6⟩ := ho.lv p hp
  obtain ⟨r0, r1, r2, -⟩ := hR.2.1 p hp
  have hS := hR.2.2 0 (kV z.R p) (by decide) h1 h6
  rw [show 3 + 6 * 0 + kV z.R p = 3 + 0 + kV z.R p by omega] at hS
  have mh := hM; unfold kMo at mh
  refine ⟨Nat.le_of_ble_eq_true rfl, fun z => absurd z (by decide), ?_⟩; show ky_ok adK 185 0 [some (.ref (a 170)), some (.int (nI p))] [] f 0 0 _
  unfold kNmd at hy hn
  by_cases c1 : kPl z.R p = 0
  · by_cases c2 : z.S 0 (kV z.R p) = 5
    · have hq := hn fun z => z.2 c2
      repeat' (first | ((refine kx173 (w := 1) hM hs (show p < 60 by omega) (by decide) ?_; simp only [ky_aft, ky_vl, Nat.reduceAdd])) | (refine kx175 hM hs (show p < 60 by omega) ?_; simp only [ky_aft, ky_vl, Nat.reduceAdd]) | ((refine kx176 (w := 0) hM hs h1 h6 (by decide) ?_; simp only [ky_aft, ky_vl, Nat.reduceAdd])) | (refine ky_ok_stp rfl ?_; simp (disch := first | omega | assumption) only [ky_stp, ky_inv, ky_ldi, ky_ldl, ky_ldd, ky_lda, ky_cl2, ky_st1, ky_st2, ky_s1i, ky_s2i, ky_s1l, ky_s2l, ky_sli, ky_s1f, ky_s2f, ky_s1d, ky_s2d, ky_sr, ky_sai, ky_sasi, ky_sasl, ky_sasr, ky_svr, ky_sv, ky_sv2, ky_s1, ky_cs, ky_pop, ky_nth, ky_snt, ky_obj, ky_ari, ky_arl, ky_arr, ky_arn, ky_fv, ky_rcv, List.map_cons, List.map_nil, List.drop_succ_cons, List.drop_zero, Value.category, Nat.reduceAdd, Nat.reduceSub, true_and, and_true, true_or, or_true, reduceCtorEq, ite_true, ite_false, eq_self, Nat.reduceEqDiff, Nat.reduceLeDiff, nI_add, nI_1, nI_leI, nI_ltI, nI_eq, nI_clamp, kz_m1, kz_mn, kz_mn2, kz_n0, kz_0n, kz_0, kz_le0, kz_0lt, false_implies, true_implies, not_false_eq_true, not_true_eq_false, Nat.zero_le, kb_0, kz_10, kz_of, ky_sw, kz_mx, kz_mi, mh, r0, r1, hl, hS, c1, c2]) | (refine ⟨vp_in_nI (by omega) (by omega), ?_⟩) | (refine ⟨fun zc => ?_, fun zc => ?_⟩ <;> try (exfalso; omega)) | fail)
      exact hq
    · have hq := hy ⟨c1, c2⟩
      repeat' (first | ((refine kx173 (w := 1) hM hs (show p < 60 by omega) (by decide) ?_; simp only [ky_aft, ky_vl, Nat.reduceAdd])) | (refine kx175 hM hs (show p < 60 by omega) ?_; simp only [ky_aft, ky_vl, Nat.reduceAdd]) | ((refine kx176 (w := 0) hM hs h1 h6 (by decide) ?_; simp only [ky_aft, ky_vl, Nat.reduceAdd])) | (refine ky_ok_stp rfl ?_; simp (disch := first | omega | assumption) only [ky_stp, ky_inv, ky_ldi, ky_ldl, ky_ldd, ky_lda, ky_cl2, ky_st1, ky_st2, ky_s1i, ky_s2i, ky_s1l, ky_s2l, ky_sli, ky_s1f, ky_s2f, ky_s1d, ky_s2d, ky_sr, ky_sai, ky_sasi, ky_sasl, ky_sasr, ky_svr, ky_sv, ky_sv2, ky_s1, ky_cs, ky_pop, ky_nth, ky_snt, ky_obj, ky_ari, ky_arl, ky_arr, ky_arn, ky_fv, ky_rcv, List.map_cons, List.map_nil, List.drop_succ_cons, List.drop_zero, Value.category, Nat.reduceAdd, Nat.reduceSub, true_and, and_true, true_or, or_true, reduceCtorEq, ite_true, ite_false, eq_self, Nat.reduceEqDiff, Nat.reduceLeDiff, nI_add, nI_1, nI_leI, nI_ltI, nI_eq, nI_clamp, kz_m1, kz_mn, kz_mn2, kz_n0, kz_0n, kz_0, kz_le0, kz_0lt, false_implies, true_implies, not_false_eq_true, not_true_eq_false, Nat.zero_le, kb_0, kz_10, kz_of, ky_sw, kz_mx, kz_mi, mh, r0, r1, hl, hS, c1, eq_false c2]) | (refine ⟨vp_in_nI (by omega) (by omega), ?_⟩) | (refine ⟨fun zc => ?_, fun zc => ?_⟩ <;> try (exfalso; omega)) | fail)
      exact hq
  · have hq := hn fun z => c1 z.1
    repeat' (first | ((refine kx173 (w := 1) hM hs (show p < 60 by omega) (by decide) ?_; simp only [ky_aft, ky_vl, Nat.reduceAdd])) | (refine ky_ok_stp rfl ?_; simp (disch := first | omega | assumption) only [ky_stp, ky_inv, ky_ldi, ky_ldl, ky_ldd, ky_lda, ky_cl2, ky_st1, ky_st2, ky_s1i, ky_s2i, ky_s1l, ky_s2l, ky_sli, ky_s1f, ky_s2f, ky_s1d, ky_s2d, ky_sr, ky_sai, ky_sasi, ky_sasl, ky_sasr, ky_svr, ky_sv, ky_sv2, ky_s1, ky_cs, ky_pop, ky_nth, ky_snt, ky_obj, ky_ari, ky_arl, ky_arr, ky_arn, ky_fv, ky_rcv, List.map_cons, List.map_nil, List.drop_succ_cons, List.drop_zero, Value.category, Nat.reduceAdd, Nat.reduceSub, true_and, and_true, true_or, or_true, reduceCtorEq, ite_true, ite_false, eq_self, Nat.reduceEqDiff, Nat.reduceLeDiff, nI_add, nI_1, nI_leI, nI_ltI, nI_eq, nI_clamp, kz_m1, kz_mn, kz_mn2, kz_n0, kz_0n, kz_0, kz_le0, kz_0lt, false_implies, true_implies, not_false_eq_true, not_true_eq_false, Nat.zero_le, kb_0, kz_10, kz_of, ky_sw, kz_mx, kz_mi, mh, r0, r1, eq_false c1]) | (refine ⟨vp_in_nI (by omega) (by omega), ?_⟩) | (refine ⟨fun zc => ?_, fun zc => ?_⟩ <;> try (exfalso; omega)) | fail)
    exact hq
end KXM
