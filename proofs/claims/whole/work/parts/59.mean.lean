/-! ## the mean -/
set_option maxRecDepth 100000 in
theorem kz_dbl : ∀ n, n < 61 → 0 < n → ∀ v, v < 361 → vf_n64 (FP.ddiv (FP.i2d (nI v)) (FP.i2d (nI n))) := by
  unfold vf_n64
  decide +kernel
theorem kSu_nI {z : kZ} (h : kZo z) : ∀ m i v, i + m ≤ z.n → v ≤ 6 * i → ∃ w, w ≤ 6 * (i + m) ∧ kSu (kL z.R) i m (nI v) = nI w
  | 0, i, v, _, hv => ⟨v, hv, rfl⟩
  | m + 1, i, v, hi, hv => by
    have hl := h.lv i (by omega)
    obtain ⟨w, h1, h2⟩ := kSu_nI h m (i + 1) (v + kV z.R i) (by omega) (by omega)
    refine ⟨w, by omega, ?_⟩
    rw [kSu, hl.1, nI_add]
    exact h2
section KXV
variable {adK a : Nat → Nat} {f : ky_H} {s : kSt} {Q : ky_Q} {x y v : Int32} {p t w i e l j k b : Nat}
noncomputable def kMean (z : kZ) : UInt64 := if z.n = 0 then 0 else FP.ddiv (FP.i2d (kSu (kL z.R) 0 z.n 0)) (FP.i2d (nI z.n))
theorem kx106 (h : kK a f s) (hy : Q (.inl (some (.double (kMean s.o)))) f) : ky_cl adK 106 [.ref (a 0)] f Q := by
  obtain ⟨kh0, kh1, kh2, kh23, kh30, kh40, kh42, ⟨_, kh37⟩, ⟨_, kh44⟩, ⟨_, kh46⟩, kh47, ⟨_, kh48⟩, ⟨_, kh12⟩, kh53⟩ := kK_hd h
  obtain ⟨G, hW⟩ := h.2.1.z.1
  have hn := h.2.2.2.o.n60
  obtain ⟨w, hw, e⟩ := kSu_nI h.2.2.2.o s.o.n 0 0 (by omega) (by omega)
  have e : kSu (kL s.o.R) 0 s.o.n 0 = nI w := e
  unfold kMean at hy
  refine ⟨Nat.le_of_ble_eq_true rfl, fun z => absurd z (by decide), ?_⟩; show ky_ok adK 106 0 [some (.ref (a 0))] [] f 0 0 _
  by_cases h0 : s.o.n = 0
  · rw [if_pos h0] at hy
    repeat' (first | (refine ky_ok_stp rfl ?_; simp (disch := first | omega | assumption) only [ky_stp, ky_inv, ky_ldi, ky_ldl, ky_ldd, ky_lda, ky_cl2, ky_st1, ky_st2, ky_s1i, ky_s2i, ky_s1l, ky_s2l, ky_sli, ky_s1f, ky_s2f, ky_s1d, ky_s2d, ky_sr, ky_sai, ky_sasi, ky_sasl, ky_sasr, ky_svr, ky_sv, ky_sv2, ky_s1, ky_cs, ky_pop, ky_nth, ky_snt, ky_obj, ky_ari, ky_arl, ky_arr, ky_arn, ky_fv, ky_rcv, List.map_cons, List.map_nil, List.drop_succ_cons, List.drop_zero, Value.category, Nat.reduceAdd, Nat.reduceSub, true_and, and_true, true_or, or_true, reduceCtorEq, ite_true, ite_false, eq_self, Nat.reduceEqDiff, Nat.reduceLeDiff, nI_add, nI_1, nI_leI, nI_ltI, nI_eq, nI_clamp, kz_m1, kz_mn, kz_mn2, kz_n0, kz_0n, kz_0, kz_le0, kz_0lt, false_implies, true_implies, not_false_eq_true, not_true_eq_false, Nat.zero_le, kb_0, kz_10, kz_of, ky_sw, kz_mx, kz_mi, kh0, kh1, kh2, kh23, kh30, kh40, kh42, kh37, kh44, kh46, kh47, kh48, kh12, kh53, h0]) | (refine ⟨vp_in_nI (by omega) (by omega), ?_⟩) | (rw [if_neg (by decide)]; refine ⟨by decide, by decide, ?_⟩) | (refine ⟨by decide, by decide, ?_⟩) | (refine ⟨fun zc => ?_, fun zc => ?_⟩ <;> try (exfalso; omega)) | fail)
    exact hy
  · rw [if_neg h0] at hy
    have hd := kz_dbl s.o.n (by omega) (by omega) w (by omega)
    rw [e] at hy
    repeat' (first | (refine kx34 hW.1 hn ?_) | (rw [e]) | (refine ⟨hd, ?_⟩) | (refine ky_ok_stp rfl ?_; simp (disch := first | omega | assumption) only [ky_stp, ky_inv, ky_ldi, ky_ldl, ky_ldd, ky_lda, ky_cl2, ky_st1, ky_st2, ky_s1i, ky_s2i, ky_s1l, ky_s2l, ky_sli, ky_s1f, ky_s2f, ky_s1d, ky_s2d, ky_sr, ky_sai, ky_sasi, ky_sasl, ky_sasr, ky_svr, ky_sv, ky_sv2, ky_s1, ky_cs, ky_pop, ky_nth, ky_snt, ky_obj, ky_ari, ky_arl, ky_arr, ky_arn, ky_fv, ky_rcv, List.map_cons, List.map_nil, List.drop_succ_cons, List.drop_zero, Value.category, Nat.reduceAdd, Nat.reduceSub, true_and, and_true, true_or, or_true, reduceCtorEq, ite_true, ite_false, eq_self, Nat.reduceEqDiff, Nat.reduceLeDiff, nI_add, nI_1, nI_leI, nI_ltI, nI_eq, nI_clamp, kz_m1, kz_mn, kz_mn2, kz_n0, kz_0n, kz_0, kz_le0, kz_0lt, false_implies, true_implies, not_false_eq_true, not_true_eq_false, Nat.zero_le, kb_0, kz_10, kz_of, ky_sw, kz_mx, kz_mi, kh0, kh1, kh2, kh23, kh30, kh40, kh42, kh37, kh44, kh46, kh47, kh48, kh12, kh53, eq_false h0]) | (refine ⟨vp_in_nI (by omega) (by omega), ?_⟩) | (rw [if_neg (by decide)]; refine ⟨by decide, by decide, ?_⟩) | (refine ⟨by decide, by decide, ?_⟩) | (refine ⟨fun zc => ?_, fun zc => ?_⟩ <;> try (exfalso; omega)) | fail)
    exact hy
end KXV
