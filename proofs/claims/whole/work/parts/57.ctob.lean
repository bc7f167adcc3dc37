/-! ## constructors: the keeper's things -/
section KXC
variable {adK a : Nat → Nat} {f : ky_H} {Q : ky_Q}
theorem kx0 {k lim : Nat} {e00 : ky_E} (h00 : f (a 0) = some e00) (ha : kI a) (h1 : 0 < lim) (hl : lim ≤ 4260) (h0 : f (a k) = some (.inr (0, [.int 0, .null]))) (hQ : ∀ a' f', kAl a f a' f' (fun j => k ≤ j ∧ j ≤ k + 1) → a' k = a k → kB a' k f' lim 0 (fun _ => 0) → Q (.inl none) f') : ky_cl adK 0 [.ref (a k), .int (nI lim)] f Q := by
  refine ⟨Nat.le_of_ble_eq_true rfl, fun _ => trivial, ?_⟩; show ky_ok adK 0 0 [some (.ref (a k)), some (.int (nI lim))] [] f 0 0 _
  have hso : ky_so 0 = 4260 := rfl
  have h1' : ¬ lim = 0 := by omega
  have hm : lim ≤ 1000000 := by omega
  have hid := kz_id h0
  repeat' (first | (refine ⟨by decide, by rw [hso]; omega, ?_⟩) | (refine ky_ok_stp rfl ?_; simp (disch := first | omega | assumption) only [ky_stp, ky_inv, ky_ldi, ky_ldl, ky_ldd, ky_lda, ky_cl2, ky_st1, ky_st2, ky_s1i, ky_s2i, ky_s1l, ky_s2l, ky_sli, ky_s1f, ky_s2f, ky_s1d, ky_s2d, ky_sr, ky_sai, ky_sasi, ky_sasl, ky_sasr, ky_svr, ky_sv, ky_sv2, ky_s1, ky_cs, ky_pop, ky_nth, ky_snt, ky_obj, ky_ari, ky_arl, ky_arr, ky_arn, ky_fv, ky_rcv, List.map_cons, List.map_nil, List.drop_succ_cons, List.drop_zero, Value.category, Nat.reduceAdd, Nat.reduceSub, true_and, and_true, true_or, or_true, reduceCtorEq, ite_true, ite_false, eq_self, Nat.reduceEqDiff, Nat.reduceLeDiff, nI_add, nI_1, nI_leI, nI_ltI, nI_eq, nI_clamp, kz_m1, kz_mn, kz_mn2, kz_n0, kz_0n, kz_0, kz_le0, kz_0lt, false_implies, true_implies, not_false_eq_true, not_true_eq_false, Nat.zero_le, kb_0, kz_10, kz_of, ky_sw, kz_mx, kz_mi, h0, kz_same, hid, h1', hm]) | (refine ⟨vp_in_nI (by omega) (by omega), ?_⟩) | (rw [if_neg (by decide)]; refine ⟨by decide, by decide, ?_⟩) | (refine ⟨by decide, by decide, ?_⟩) | (refine ⟨fun zc => ?_, fun zc => ?_⟩ <;> try (exfalso; omega)) | fail)
  intro q hq
  obtain ⟨b, hB, e⟩ := kI_sw (t := k + 1) ha hq h00 (by omega) (.inl (0, ky_z 0 lim))
  subst e
  have t0 := kAl_at hB (show ¬ k = k + 1 by omega) h0
  simp only [← t0.1]
  repeat' (first | (refine ky_ok_stp rfl ?_; simp (disch := first | omega | assumption) only [ky_stp, ky_inv, ky_ldi, ky_ldl, ky_ldd, ky_lda, ky_cl2, ky_st1, ky_st2, ky_s1i, ky_s2i, ky_s1l, ky_s2l, ky_sli, ky_s1f, ky_s2f, ky_s1d, ky_s2d, ky_sr, ky_sai, ky_sasi, ky_sasl, ky_sasr, ky_svr, ky_sv, ky_sv2, ky_s1, ky_cs, ky_pop, ky_nth, ky_snt, ky_obj, ky_ari, ky_arl, ky_arr, ky_arn, ky_fv, ky_rcv, List.map_cons, List.map_nil, List.drop_succ_cons, List.drop_zero, Value.category, Nat.reduceAdd, Nat.reduceSub, true_and, and_true, true_or, or_true, reduceCtorEq, ite_true, ite_false, eq_self, Nat.reduceEqDiff, Nat.reduceLeDiff, nI_add, nI_1, nI_leI, nI_ltI, nI_eq, nI_clamp, kz_m1, kz_mn, kz_mn2, kz_n0, kz_0n, kz_0, kz_le0, kz_0lt, false_implies, true_implies, not_false_eq_true, not_true_eq_false, Nat.zero_le, kb_0, kz_10, kz_of, ky_sw, kz_mx, kz_mi, t0.2, kz_same, kz_uu]) | (refine ⟨vp_in_nI (by omega) (by omega), ?_⟩) | (rw [if_neg (by decide)]; refine ⟨by decide, by decide, ?_⟩) | (refine ⟨by decide, by decide, ?_⟩) | (refine ⟨fun zc => ?_, fun zc => ?_⟩ <;> try (exfalso; omega)) | fail)
  exact hQ b _ (kAl_tr hB (kAl_fr hB.1 (kfr_up (S := fun j => j = k) hB.1 kfr_rf rfl)) fun j hj => ⟨by omega, by omega⟩) t0.1 ⟨fun _ => 0, kz_same, (kz_ne (fun z => absurd (hB.1 _ _ z) (by omega))).trans kz_same, Nat.zero_le _, fun i hi => absurd hi (Nat.not_lt_zero i), fun i hi => absurd hi (Nat.not_lt_zero i)⟩
theorem kx5 {u : Nat → kZ} {e00 : ky_E} (h00 : f (a 0) = some e00) (ha : kI a) (h0 : f (a 37) = some (.inr (1, [.int 0, .int 0, .null]))) (hQ : ∀ a' f', kAl a f a' f' (fun j => j = 37 ∨ j = 38) → a' 37 = a 37 → kHi a' f' 0 u → Q (.inl none) f') : ky_cl adK 5 [.ref (a 37)] f Q := by
  refine ⟨Nat.le_of_ble_eq_true rfl, fun _ => trivial, ?_⟩; show ky_ok adK 5 0 [some (.ref (a 37))] [] f 0 0 _
  have hid := kz_id h0
  repeat' (first | (refine ky_ok_stp rfl ?_; simp (disch := first | omega | assumption) only [ky_stp, ky_inv, ky_ldi, ky_ldl, ky_ldd, ky_lda, ky_cl2, ky_st1, ky_st2, ky_s1i, ky_s2i, ky_s1l, ky_s2l, ky_sli, ky_s1f, ky_s2f, ky_s1d, ky_s2d, ky_sr, ky_sai, ky_sasi, ky_sasl, ky_sasr, ky_svr, ky_sv, ky_sv2, ky_s1, ky_cs, ky_pop, ky_nth, ky_snt, ky_obj, ky_ari, ky_arl, ky_arr, ky_arn, ky_fv, ky_rcv, List.map_cons, List.map_nil, List.drop_succ_cons, List.drop_zero, Value.category, Nat.reduceAdd, Nat.reduceSub, true_and, and_true, true_or, or_true, reduceCtorEq, ite_true, ite_false, eq_self, Nat.reduceEqDiff, Nat.reduceLeDiff, nI_add, nI_1, nI_leI, nI_ltI, nI_eq, nI_clamp, kz_m1, kz_mn, kz_mn2, kz_n0, kz_0n, kz_0, kz_le0, kz_0lt, false_implies, true_implies, not_false_eq_true, not_true_eq_false, Nat.zero_le, kb_0, kz_10, kz_of, ky_sw, kz_mx, kz_mi, h0, kz_same, hid, kz_8]) | (refine ⟨vp_in_nI (by omega) (by omega), ?_⟩) | (rw [if_neg (by decide)]; refine ⟨by decide, by decide, ?_⟩) | (refine ⟨by decide, by decide, ?_⟩) | (refine ⟨fun zc => ?_, fun zc => ?_⟩ <;> try (exfalso; omega)) | fail)
  intro q hq
  obtain ⟨b, hB, e⟩ := kI_sw (t := 38) ha hq h00 (by omega) (.inl (4, 8, .inr (.inr (.inr (.inr fun _ => none)))))
  subst e
  have t0 := kAl_at hB (show ¬ 37 = 38 by omega) h0
  simp only [← t0.1]
  repeat' (first | (refine ky_ok_stp rfl ?_; simp (disch := first | omega | assumption) only [ky_stp, ky_inv, ky_ldi, ky_ldl, ky_ldd, ky_lda, ky_cl2, ky_st1, ky_st2, ky_s1i, ky_s2i, ky_s1l, ky_s2l, ky_sli, ky_s1f, ky_s2f, ky_s1d, ky_s2d, ky_sr, ky_sai, ky_sasi, ky_sasl, ky_sasr, ky_svr, ky_sv, ky_sv2, ky_s1, ky_cs, ky_pop, ky_nth, ky_snt, ky_obj, ky_ari, ky_arl, ky_arr, ky_arn, ky_fv, ky_rcv, List.map_cons, List.map_nil, List.drop_succ_cons, List.drop_zero, Value.category, Nat.reduceAdd, Nat.reduceSub, true_and, and_true, true_or, or_true, reduceCtorEq, ite_true, ite_false, eq_self, Nat.reduceEqDiff, Nat.reduceLeDiff, nI_add, nI_1, nI_leI, nI_ltI, nI_eq, nI_clamp, kz_m1, kz_mn, kz_mn2, kz_n0, kz_0n, kz_0, kz_le0, kz_0lt, false_implies, true_implies, not_false_eq_true, not_true_eq_false, Nat.zero_le, kb_0, kz_10, kz_of, ky_sw, kz_mx, kz_mi, t0.2, kz_same, kz_uu]) | (refine ⟨vp_in_nI (by omega) (by omega), ?_⟩) | (rw [if_neg (by decide)]; refine ⟨by decide, by decide, ?_⟩) | (refine ⟨by decide, by decide, ?_⟩) | (refine ⟨fun zc => ?_, fun zc => ?_⟩ <;> try (exfalso; omega)) | fail)
  exact hQ b _ (kAl_tr hB (kAl_fr hB.1 (kfr_up (S := fun j => j = 37) hB.1 kfr_rf rfl)) fun j hj => ⟨by omega, by omega⟩) t0.1 ⟨0, fun _ => none, by decide, by decide, kz_same, (kz_ne (fun z => absurd (hB.1 _ _ z) (by omega))).trans kz_same, fun i hi => Or.inl rfl, fun j hj => absurd hj (Nat.not_lt_zero j)⟩
theorem kx52 (ha : kI a) (h0 : f (a 47) = some (.inr (4, [.null]))) (hQ : Q (.inl none) (ky_up f (a 47) (.inr (4, [.ref (a 46)])))) : ky_cl adK 52 [.ref (a 47), .ref (a 46)] f Q := by
  refine ⟨Nat.le_of_ble_eq_true rfl, fun _ => trivial, ?_⟩; show ky_ok adK 52 0 [some (.ref (a 47)), some (.ref (a 46))] [] f 0 0 _
  repeat' (first | (refine ky_ok_stp rfl ?_; simp (disch := first | omega | assumption) only [ky_stp, ky_inv, ky_ldi, ky_ldl, ky_ldd, ky_lda, ky_cl2, ky_st1, ky_st2, ky_s1i, ky_s2i, ky_s1l, ky_s2l, ky_sli, ky_s1f, ky_s2f, ky_s1d, ky_s2d, ky_sr, ky_sai, ky_sasi, ky_sasl, ky_sasr, ky_svr, ky_sv, ky_sv2, ky_s1, ky_cs, ky_pop, ky_nth, ky_snt, ky_obj, ky_ari, ky_arl, ky_arr, ky_arn, ky_fv, ky_rcv, List.map_cons, List.map_nil, List.drop_succ_cons, List.drop_zero, Value.category, Nat.reduceAdd, Nat.reduceSub, true_and, and_true, true_or, or_true, reduceCtorEq, ite_true, ite_false, eq_self, Nat.reduceEqDiff, Nat.reduceLeDiff, nI_add, nI_1, nI_leI, nI_ltI, nI_eq, nI_clamp, kz_m1, kz_mn, kz_mn2, kz_n0, kz_0n, kz_0, kz_le0, kz_0lt, false_implies, true_implies, not_false_eq_true, not_true_eq_false, Nat.zero_le, kb_0, kz_10, kz_of, ky_sw, kz_mx, kz_mi, h0, kz_same]) | (refine ⟨vp_in_nI (by omega) (by omega), ?_⟩) | (rw [if_neg (by decide)]; refine ⟨by decide, by decide, ?_⟩) | (refine ⟨by decide, by decide, ?_⟩) | (refine ⟨fun zc => ?_, fun zc => ?_⟩ <;> try (exfalso; omega)) | fail)
  exact hQ
theorem kx75 (ha : kI a) (h0 : f (a 46) = some (.inr (7, [.int 0, .int 0, .long 0, .int 0, .int 0, .null]))) (hQ : Q (.inl none) (ky_up f (a 46) (.inr (7, [.int 0, .int 0, .long 0, .int 0, .int 0, .ref (a 40)])))) : ky_cl adK 75 [.ref (a 46), .ref (a 40)] f Q := by
  refine ⟨Nat.le_of_ble_eq_true rfl, fun _ => trivial, ?_⟩; show ky_ok adK 75 0 [some (.ref (a 46)), some (.ref (a 40))] [] f 0 0 _
  have hid := kz_id h0
  repeat' (first | (refine ky_ok_stp rfl ?_; simp (disch := first | omega | assumption) only [ky_stp, ky_inv, ky_ldi, ky_ldl, ky_ldd, ky_lda, ky_cl2, ky_st1, ky_st2, ky_s1i, ky_s2i, ky_s1l, ky_s2l, ky_sli, ky_s1f, ky_s2f, ky_s1d, ky_s2d, ky_sr, ky_sai, ky_sasi, ky_sasl, ky_sasr, ky_svr, ky_sv, ky_sv2, ky_s1, ky_cs, ky_pop, ky_nth, ky_snt, ky_obj, ky_ari, ky_arl, ky_arr, ky_arn, ky_fv, ky_rcv, List.map_cons, List.map_nil, List.drop_succ_cons, List.drop_zero, Value.category, Nat.reduceAdd, Nat.reduceSub, true_and, and_true, true_or, or_true, reduceCtorEq, ite_true, ite_false, eq_self, Nat.reduceEqDiff, Nat.reduceLeDiff, nI_add, nI_1, nI_leI, nI_ltI, nI_eq, nI_clamp, kz_m1, kz_mn, kz_mn2, kz_n0, kz_0n, kz_0, kz_le0, kz_0lt, false_implies, true_implies, not_false_eq_true, not_true_eq_false, Nat.zero_le, kb_0, kz_10, kz_of, ky_sw, kz_mx, kz_mi, h0, kz_same, hid]) | (refine ⟨vp_in_nI (by omega) (by omega), ?_⟩) | (rw [if_neg (by decide)]; refine ⟨by decide, by decide, ?_⟩) | (refine ⟨by decide, by decide, ?_⟩) | (refine ⟨fun zc => ?_, fun zc => ?_⟩ <;> try (exfalso; omega)) | fail)
  exact hQ
theorem kx56 {e00 : ky_E} {e46 : ky_E} (h00 : f (a 0) = some e00) (h46o : f (a (46)) = some (e46)) (ha : kI a) (h0 : f (a (48)) = some (.inr (5, [.int 0, .null, .null, .null, .null, .null]))) (hQ : ∀ a' f', kAl a f a' f' (fun j => 48 ≤ j ∧ j ≤ 52) → a' (48) = a (48) → (a' (46) = a (46) ∧ kSc0 a' f') → Q (.inl none) f') : ky_cl adK 56 [.ref (a (48)), .ref (a (46))] f Q := by
  have r0 : kAl a f a f (fun j => 48 ≤ j ∧ j ≤ 52) := kAl_fr ha kfr_rf
  have e0 : a (48) = a (48) := rfl
  refine ⟨Nat.le_of_ble_eq_true rfl, fun _ => trivial, ?_⟩; show ky_ok adK 56 0 [some (.ref (a (48))), some (.ref (a (46)))] [] f 0 0 _
  have h46 := h46o
  repeat' (first | (refine ky_ok_stp rfl ?_; simp (disch := first | omega | assumption) only [ky_stp, ky_inv, ky_ldi, ky_ldl, ky_ldd, ky_lda, ky_cl2, ky_st1, ky_st2, ky_s1i, ky_s2i, ky_s1l, ky_s2l, ky_sli, ky_s1f, ky_s2f, ky_s1d, ky_s2d, ky_sr, ky_sai, ky_sasi, ky_sasl, ky_sasr, ky_svr, ky_sv, ky_sv2, ky_s1, ky_cs, ky_pop, ky_nth, ky_snt, ky_obj, ky_ari, ky_arl, ky_arr, ky_arn, ky_fv, ky_rcv, List.map_cons, List.map_nil, List.drop_succ_cons, List.drop_zero, Value.category, Nat.reduceAdd, Nat.reduceSub, true_and, and_true, true_or, or_true, reduceCtorEq, ite_true, ite_false, eq_self, Nat.reduceEqDiff, Nat.reduceLeDiff, nI_add, nI_1, nI_leI, nI_ltI, nI_eq, nI_clamp, kz_m1, kz_mn, kz_mn2, kz_n0, kz_0n, kz_0, kz_le0, kz_0lt, false_implies, true_implies, not_false_eq_true, not_true_eq_false, Nat.zero_le, kb_0, kz_10, kz_of, ky_sw, kz_mx, kz_mi, h0, kz_7, kz_60, kz_same, kz_uu, show (40 : Int32) = nI 40 from rfl]) | (refine ⟨vp_in_nI (by omega) (by omega), ?_⟩) | (rw [if_neg (by decide)]; refine ⟨by decide, by decide, ?_⟩) | (refine ⟨by decide, by decide, ?_⟩) | (refine ⟨fun zc => ?_, fun zc => ?_⟩ <;> try (exfalso; omega)) | fail)
  have h0 : (ky_up f (a (48)) (.inr (5, [.int 0, .null, .null, .null, .null, .null]))) (a (48)) = some (.inr (5, [.int 0, .null, .null, .null, .null, .null])) := kz_same
  have r0 : kAl a f a (ky_up f (a (48)) (.inr (5, [.int 0, .null, .null, .null, .null, .null]))) (fun j => 48 ≤ j ∧ j ≤ 52) := kAl_fr ha (kfr_up ha kfr_rf (by omega))
  have h00 : (ky_up f (a (48)) (.inr (5, [.int 0, .null, .null, .null, .null, .null]))) (a (0)) = some (e00) := (kz_ne (fun z => absurd (ha _ _ z) (by omega))).trans h00
  have h46 : (ky_up f (a (48)) (.inr (5, [.int 0, .null, .null, .null, .null, .null]))) (a (46)) = some (e46) := (kz_ne (fun z => absurd (ha _ _ z) (by omega))).trans h46
  generalize (ky_up f (a (48)) (.inr (5, [.int 0, .null, .null, .null, .null, .null]))) = g0 at h0 r0 h00 h46 ⊢
  intro q hq
  obtain ⟨b0, hB, e⟩ := kI_sw (t := 49) r0.1 hq h00 (by omega) (.inl (1, ky_z 1 40))
  subst e
  have t0 := kAl_at hB (show ¬ (48) = (49) by omega) h0
  have v_h00 := kAl_at hB (show ¬ (0) = (49) by omega) h00
  have v_h46 := kAl_at hB (show ¬ (46) = (49) by omega) h46
  have hb := hB.1
  have rr : kAl a f b0 _ (fun j => 48 ≤ j ∧ j ≤ 52) := kAl_tr r0 hB fun j hj => ⟨hj, by omega⟩
  have ee : b0 (48) = a (48) := t0.1.trans e0
  simp only [← t0.1, ← v_h00.1, ← v_h46.1]
  have t02 := t0.2
  repeat' (first | (refine ky_ok_stp rfl ?_; simp (disch := first | omega | assumption) only [ky_stp, ky_inv, ky_ldi, ky_ldl, ky_ldd, ky_lda, ky_cl2, ky_st1, ky_st2, ky_s1i, ky_s2i, ky_s1l, ky_s2l, ky_sli, ky_s1f, ky_s2f, ky_s1d, ky_s2d, ky_sr, ky_sai, ky_sasi, ky_sasl, ky_sasr, ky_svr, ky_sv, ky_sv2, ky_s1, ky_cs, ky_pop, ky_nth, ky_snt, ky_obj, ky_ari, ky_arl, ky_arr, ky_arn, ky_fv, ky_rcv, List.map_cons, List.map_nil, List.drop_succ_cons, List.drop_zero, Value.category, Nat.reduceAdd, Nat.reduceSub, true_and, and_true, true_or, or_true, reduceCtorEq, ite_true, ite_false, eq_self, Nat.reduceEqDiff, Nat.reduceLeDiff, nI_add, nI_1, nI_leI, nI_ltI, nI_eq, nI_clamp, kz_m1, kz_mn, kz_mn2, kz_n0, kz_0n, kz_0, kz_le0, kz_0lt, false_implies, true_implies, not_false_eq_true, not_true_eq_false, Nat.zero_le, kb_0, kz_10, kz_of, ky_sw, kz_mx, kz_mi, t02, kz_7, kz_60, kz_same, kz_uu, show (40 : Int32) = nI 40 from rfl]) | (refine ⟨vp_in_nI (by omega) (by omega), ?_⟩) | (rw [if_neg (by decide)]; refine ⟨by decide, by decide, ?_⟩) | (refine ⟨by decide, by decide, ?_⟩) | (refine ⟨fun zc => ?_, fun zc => ?_⟩ <;> try (exfalso; omega)) | fail)
  have w0 : (ky_up (ky_up g0 (b0 (49)) (.inl (1, ky_z 1 40))) (b0 (48)) (.inr (5, [.int 0, .ref (b0 (49)), .null, .null, .null, .null]))) (b0 (48)) = some (.inr (5, [.int 0, .ref (b0 (49)), .null, .null, .null, .null])) := kz_same
  have d0 : (ky_up (ky_up g0 (b0 (49)) (.inl (1, ky_z 1 40))) (b0 (48)) (.inr (5, [.int 0, .ref (b0 (49)), .null, .null, .null, .null]))) (b0 (49)) = some (.inl (1, ky_z 1 40)) := (kz_ne (fun z => absurd (hb _ _ z) (show ¬ (49) = (48) by omega))).trans kz_same
  have h00 : (ky_up (ky_up g0 (b0 (49)) (.inl (1, ky_z 1 40))) (b0 (48)) (.inr (5, [.int 0, .ref (b0 (49)), .null, .null, .null, .null]))) (b0 (0)) = some (e00) := (kz_ne (fun z => absurd (hb _ _ z) (show ¬ (0) = (48) by omega))).trans v_h00.2
  have h46 : (ky_up (ky_up g0 (b0 (49)) (.inl (1, ky_z 1 40))) (b0 (48)) (.inr (5, [.int 0, .ref (b0 (49)), .null, .null, .null, .null]))) (b0 (46)) = some (e46) := (kz_ne (fun z => absurd (hb _ _ z) (show ¬ (46) = (48) by omega))).trans v_h46.2
  have r1 : kAl a f b0 (ky_up (ky_up g0 (b0 (49)) (.inl (1, ky_z 1 40))) (b0 (48)) (.inr (5, [.int 0, .ref (b0 (49)), .null, .null, .null, .null]))) (fun j => 48 ≤ j ∧ j ≤ 52) := kAl_tr rr (kAl_fr hb (kfr_up (S := fun j => j = 48) hb kfr_rf rfl)) fun j hj => ⟨hj, by omega⟩
  have e1 := ee
  generalize (ky_up (ky_up g0 (b0 (49)) (.inl (1, ky_z 1 40))) (b0 (48)) (.inr (5, [.int 0, .ref (b0 (49)), .null, .null, .null, .null]))) = g1 at w0 d0 h00 h46 r1 ⊢
  intro q hq
  obtain ⟨b1, hB, e⟩ := kI_sw (t := 50) r1.1 hq h00 (by omega) (.inl (1, ky_z 1 40))
  subst e
  have t0 := kAl_at hB (show ¬ (48) = (50) by omega) w0
  have u0 := kAl_at hB (show ¬ (49) = (50) by omega) d0
  have v_h00 := kAl_at hB (show ¬ (0) = (50) by omega) h00
  have v_h46 := kAl_at hB (show ¬ (46) = (50) by omega) h46
  have hb := hB.1
  have rr : kAl a f b1 _ (fun j => 48 ≤ j ∧ j ≤ 52) := kAl_tr r1 hB fun j hj => ⟨hj, by omega⟩
  have ee : b1 (48) = a (48) := t0.1.trans e1
  simp only [← t0.1, ← v_h00.1, ← v_h46.1]
  have t02 := t0.2
  rw [← u0.1] at t02
  repeat' (first | (refine ky_ok_stp rfl ?_; simp (disch := first | omega | assumption) only [ky_stp, ky_inv, ky_ldi, ky_ldl, ky_ldd, ky_lda, ky_cl2, ky_st1, ky_st2, ky_s1i, ky_s2i, ky_s1l, ky_s2l, ky_sli, ky_s1f, ky_s2f, ky_s1d, ky_s2d, ky_sr, ky_sai, ky_sasi, ky_sasl, ky_sasr, ky_svr, ky_sv, ky_sv2, ky_s1, ky_cs, ky_pop, ky_nth, ky_snt, ky_obj, ky_ari, ky_arl, ky_arr, ky_arn, ky_fv, ky_rcv, List.map_cons, List.map_nil, List.drop_succ_cons, List.drop_zero, Value.category, Nat.reduceAdd, Nat.reduceSub, true_and, and_true, true_or, or_true, reduceCtorEq, ite_true, ite_false, eq_self, Nat.reduceEqDiff, Nat.reduceLeDiff, nI_add, nI_1, nI_leI, nI_ltI, nI_eq, nI_clamp, kz_m1, kz_mn, kz_mn2, kz_n0, kz_0n, kz_0, kz_le0, kz_0lt, false_implies, true_implies, not_false_eq_true, not_true_eq_false, Nat.zero_le, kb_0, kz_10, kz_of, ky_sw, kz_mx, kz_mi, t02, kz_7, kz_60, kz_same, kz_uu, show (40 : Int32) = nI 40 from rfl]) | (refine ⟨vp_in_nI (by omega) (by omega), ?_⟩) | (rw [if_neg (by decide)]; refine ⟨by decide, by decide, ?_⟩) | (refine ⟨by decide, by decide, ?_⟩) | (refine ⟨fun zc => ?_, fun zc => ?_⟩ <;> try (exfalso; omega)) | fail)
  have w0 : (ky_up (ky_up g1 (b1 (50)) (.inl (1, ky_z 1 40))) (b1 (48)) (.inr (5, [.int 0, .ref (b1 (49)), .ref (b1 (50)), .null, .null, .null]))) (b1 (48)) = some (.inr (5, [.int 0, .ref (b1 (49)), .ref (b1 (50)), .null, .null, .null])) := kz_same
  have d0 : (ky_up (ky_up g1 (b1 (50)) (.inl (1, ky_z 1 40))) (b1 (48)) (.inr (5, [.int 0, .ref (b1 (49)), .ref (b1 (50)), .null, .null, .null]))) (b1 (49)) = some (.inl (1, ky_z 1 40)) := (kz_ne (fun z => absurd (hb _ _ z) (show ¬ (49) = (48) by omega))).trans u0.2
  have d1 : (ky_up (ky_up g1 (b1 (50)) (.inl (1, ky_z 1 40))) (b1 (48)) (.inr (5, [.int 0, .ref (b1 (49)), .ref (b1 (50)), .null, .null, .null]))) (b1 (50)) = some (.inl (1, ky_z 1 40)) := (kz_ne (fun z => absurd (hb _ _ z) (show ¬ (50) = (48) by omega))).trans kz_same
  have h00 : (ky_up (ky_up g1 (b1 (50)) (.inl (1, ky_z 1 40))) (b1 (48)) (.inr (5, [.int 0, .ref (b1 (49)), .ref (b1 (50)), .null, .null, .null]))) (b1 (0)) = some (e00) := (kz_ne (fun z => absurd (hb _ _ z) (show ¬ (0) = (48) by omega))).trans v_h00.2
  have h46 : (ky_up (ky_up g1 (b1 (50)) (.inl (1, ky_z 1 40))) (b1 (48)) (.inr (5, [.int 0, .ref (b1 (49)), .ref (b1 (50)), .null, .null, .null]))) (b1 (46)) = some (e46) := (kz_ne (fun z => absurd (hb _ _ z) (show ¬ (46) = (48) by omega))).trans v_h46.2
  have r2 : kAl a f b1 (ky_up (ky_up g1 (b1 (50)) (.inl (1, ky_z 1 40))) (b1 (48)) (.inr (5, [.int 0, .ref (b1 (49)), .ref (b1 (50)), .null, .null, .null]))) (fun j => 48 ≤ j ∧ j ≤ 52) := kAl_tr rr (kAl_fr hb (kfr_up (S := fun j => j = 48) hb kfr_rf rfl)) fun j hj => ⟨hj, by omega⟩
  have e2 := ee
  generalize (ky_up (ky_up g1 (b1 (50)) (.inl (1, ky_z 1 40))) (b1 (48)) (.inr (5, [.int 0, .ref (b1 (49)), .ref (b1 (50)), .null, .null, .null]))) = g2 at w0 d0 d1 h00 h46 r2 ⊢
  intro q hq
  obtain ⟨b2, hB, e⟩ := kI_sw (t := 51) r2.1 hq h00 (by omega) (.inl (1, ky_z 1 40))
  subst e
  have t0 := kAl_at hB (show ¬ (48) = (51) by omega) w0
  have u0 := kAl_at hB (show ¬ (49) = (51) by omega) d0
  have u1 := kAl_at hB (show ¬ (50) = (51) by omega) d1
  have v_h00 := kAl_at hB (show ¬ (0) = (51) by omega) h00
  have v_h46 := kAl_at hB (show ¬ (46) = (51) by omega) h46
  have hb := hB.1
  have rr : kAl a f b2 _ (fun j => 48 ≤ j ∧ j ≤ 52) := kAl_tr r2 hB fun j hj => ⟨hj, by omega⟩
  have ee : b2 (48) = a (48) := t0.1.trans e2
  simp only [← t0.1, ← v_h00.1, ← v_h46.1]
  have t02 := t0.2
  rw [← u0.1, ← u1.1] at t02
  repeat' (first | (refine ky_ok_stp rfl ?_; simp (disch := first | omega | assumption) only [ky_stp, ky_inv, ky_ldi, ky_ldl, ky_ldd, ky_lda, ky_cl2, ky_st1, ky_st2, ky_s1i, ky_s2i, ky_s1l, ky_s2l, ky_sli, ky_s1f, ky_s2f, ky_s1d, ky_s2d, ky_sr, ky_sai, ky_sasi, ky_sasl, ky_sasr, ky_svr, ky_sv, ky_sv2, ky_s1, ky_cs, ky_pop, ky_nth, ky_snt, ky_obj, ky_ari, ky_arl, ky_arr, ky_arn, ky_fv, ky_rcv, List.map_cons, List.map_nil, List.drop_succ_cons, List.drop_zero, Value.category, Nat.reduceAdd, Nat.reduceSub, true_and, and_true, true_or, or_true, reduceCtorEq, ite_true, ite_false, eq_self, Nat.reduceEqDiff, Nat.reduceLeDiff, nI_add, nI_1, nI_leI, nI_ltI, nI_eq, nI_clamp, kz_m1, kz_mn, kz_mn2, kz_n0, kz_0n, kz_0, kz_le0, kz_0lt, false_implies, true_implies, not_false_eq_true, not_true_eq_false, Nat.zero_le, kb_0, kz_10, kz_of, ky_sw, kz_mx, kz_mi, t02, kz_7, kz_60, kz_same, kz_uu, show (40 : Int32) = nI 40 from rfl]) | (refine ⟨vp_in_nI (by omega) (by omega), ?_⟩) | (rw [if_neg (by decide)]; refine ⟨by decide, by decide, ?_⟩) | (refine ⟨by decide, by decide, ?_⟩) | (refine ⟨fun zc => ?_, fun zc => ?_⟩ <;> try (exfalso; omega)) | fail)
  have w0 : (ky_up (ky_up g2 (b2 (51)) (.inl (1, ky_z 1 40))) (b2 (48)) (.inr (5, [.int 0, .ref (b2 (49)), .ref (b2 (50)), .ref (b2 (51)), .null, .null]))) (b2 (48)) = some (.inr (5, [.int 0, .ref (b2 (49)), .ref (b2 (50)), .ref (b2 (51)), .null, .null])) := kz_same
  have d0 : (ky_up (ky_up g2 (b2 (51)) (.inl (1, ky_z 1 40))) (b2 (48)) (.inr (5, [.int 0, .ref (b2 (49)), .ref (b2 (50)), .ref (b2 (51)), .null, .null]))) (b2 (49)) = some (.inl (1, ky_z 1 40)) := (kz_ne (fun z => absurd (hb _ _ z) (show ¬ (49) = (48) by omega))).trans u0.2
  have d1 : (ky_up (ky_up g2 (b2 (51)) (.inl (1, ky_z 1 40))) (b2 (48)) (.inr (5, [.int 0, .ref (b2 (49)), .ref (b2 (50)), .ref (b2 (51)), .null, .null]))) (b2 (50)) = some (.inl (1, ky_z 1 40)) := (kz_ne (fun z => absurd (hb _ _ z) (show ¬ (50) = (48) by omega))).trans u1.2
  have d2 : (ky_up (ky_up g2 (b2 (51)) (.inl (1, ky_z 1 40))) (b2 (48)) (.inr (5, [.int 0, .ref (b2 (49)), .ref (b2 (50)), .ref (b2 (51)), .null, .null]))) (b2 (51)) = some (.inl (1, ky_z 1 40)) := (kz_ne (fun z => absurd (hb _ _ z) (show ¬ (51) = (48) by omega))).trans kz_same
  have h00 : (ky_up (ky_up g2 (b2 (51)) (.inl (1, ky_z 1 40))) (b2 (48)) (.inr (5, [.int 0, .ref (b2 (49)), .ref (b2 (50)), .ref (b2 (51)), .null, .null]))) (b2 (0)) = some (e00) := (kz_ne (fun z => absurd (hb _ _ z) (show ¬ (0) = (48) by omega))).trans v_h00.2
  have h46 : (ky_up (ky_up g2 (b2 (51)) (.inl (1, ky_z 1 40))) (b2 (48)) (.inr (5, [.int 0, .ref (b2 (49)), .ref (b2 (50)), .ref (b2 (51)), .null, .null]))) (b2 (46)) = some (e46) := (kz_ne (fun z => absurd (hb _ _ z) (show ¬ (46) = (48) by omega))).trans v_h46.2
  have r3 : kAl a f b2 (ky_up (ky_up g2 (b2 (51)) (.inl (1, ky_z 1 40))) (b2 (48)) (.inr (5, [.int 0, .ref (b2 (49)), .ref (b2 (50)), .ref (b2 (51)), .null, .null]))) (fun j => 48 ≤ j ∧ j ≤ 52) := kAl_tr rr (kAl_fr hb (kfr_up (S := fun j => j = 48) hb kfr_rf rfl)) fun j hj => ⟨hj, by omega⟩
  have e3 := ee
  generalize (ky_up (ky_up g2 (b2 (51)) (.inl (1, ky_z 1 40))) (b2 (48)) (.inr (5, [.int 0, .ref (b2 (49)), .ref (b2 (50)), .ref (b2 (51)), .null, .null]))) = g3 at w0 d0 d1 d2 h00 h46 r3 ⊢
  intro q hq
  obtain ⟨b3, hB, e⟩ := kI_sw (t := 52) r3.1 hq h00 (by omega) (.inl (1, ky_z 1 40))
  subst e
  have t0 := kAl_at hB (show ¬ (48) = (52) by omega) w0
  have u0 := kAl_at hB (show ¬ (49) = (52) by omega) d0
  have u1 := kAl_at hB (show ¬ (50) = (52) by omega) d1
  have u2 := kAl_at hB (show ¬ (51) = (52) by omega) d2
  have v_h00 := kAl_at hB (show ¬ (0) = (52) by omega) h00
  have v_h46 := kAl_at hB (show ¬ (46) = (52) by omega) h46
  have hb := hB.1
  have rr : kAl a f b3 _ (fun j => 48 ≤ j ∧ j ≤ 52) := kAl_tr r3 hB fun j hj => ⟨hj, by omega⟩
  have ee : b3 (48) = a (48) := t0.1.trans e3
  simp only [← t0.1, ← v_h00.1, ← v_h46.1]
  have t02 := t0.2
  rw [← u0.1, ← u1.1, ← u2.1] at t02
  repeat' (first | (refine ky_ok_stp rfl ?_; simp (disch := first | omega | assumption) only [ky_stp, ky_inv, ky_ldi, ky_ldl, ky_ldd, ky_lda, ky_cl2, ky_st1, ky_st2, ky_s1i, ky_s2i, ky_s1l, ky_s2l, ky_sli, ky_s1f, ky_s2f, ky_s1d, ky_s2d, ky_sr, ky_sai, ky_sasi, ky_sasl, ky_sasr, ky_svr, ky_sv, ky_sv2, ky_s1, ky_cs, ky_pop, ky_nth, ky_snt, ky_obj, ky_ari, ky_arl, ky_arr, ky_arn, ky_fv, ky_rcv, List.map_cons, List.map_nil, List.drop_succ_cons, List.drop_zero, Value.category, Nat.reduceAdd, Nat.reduceSub, true_and, and_true, true_or, or_true, reduceCtorEq, ite_true, ite_false, eq_self, Nat.reduceEqDiff, Nat.reduceLeDiff, nI_add, nI_1, nI_leI, nI_ltI, nI_eq, nI_clamp, kz_m1, kz_mn, kz_mn2, kz_n0, kz_0n, kz_0, kz_le0, kz_0lt, false_implies, true_implies, not_false_eq_true, not_true_eq_false, Nat.zero_le, kb_0, kz_10, kz_of, ky_sw, kz_mx, kz_mi, t02, kz_7, kz_60, kz_same, kz_uu, show (40 : Int32) = nI 40 from rfl]) | (refine ⟨vp_in_nI (by omega) (by omega), ?_⟩) | (rw [if_neg (by decide)]; refine ⟨by decide, by decide, ?_⟩) | (refine ⟨by decide, by decide, ?_⟩) | (refine ⟨fun zc => ?_, fun zc => ?_⟩ <;> try (exfalso; omega)) | fail)
  have w0 : (ky_up (ky_up g3 (b3 (52)) (.inl (1, ky_z 1 40))) (b3 (48)) (.inr (5, [.int 0, .ref (b3 (49)), .ref (b3 (50)), .ref (b3 (51)), .ref (b3 (52)), .ref (b3 (46))]))) (b3 (48)) = some (.inr (5, [.int 0, .ref (b3 (49)), .ref (b3 (50)), .ref (b3 (51)), .ref (b3 (52)), .ref (b3 (46))])) := kz_same
  have d0 : (ky_up (ky_up g3 (b3 (52)) (.inl (1, ky_z 1 40))) (b3 (48)) (.inr (5, [.int 0, .ref (b3 (49)), .ref (b3 (50)), .ref (b3 (51)), .ref (b3 (52)), .ref (b3 (46))]))) (b3 (49)) = some (.inl (1, ky_z 1 40)) := (kz_ne (fun z => absurd (hb _ _ z) (show ¬ (49) = (48) by omega))).trans u0.2
  have d1 : (ky_up (ky_up g3 (b3 (52)) (.inl (1, ky_z 1 40))) (b3 (48)) (.inr (5, [.int 0, .ref (b3 (49)), .ref (b3 (50)), .ref (b3 (51)), .ref (b3 (52)), .ref (b3 (46))]))) (b3 (50)) = some (.inl (1, ky_z 1 40)) := (kz_ne (fun z => absurd (hb _ _ z) (show ¬ (50) = (48) by omega))).trans u1.2
  have d2 : (ky_up (ky_up g3 (b3 (52)) (.inl (1, ky_z 1 40))) (b3 (48)) (.inr (5, [.int 0, .ref (b3 (49)), .ref (b3 (50)), .ref (b3 (51)), .ref (b3 (52)), .ref (b3 (46))]))) (b3 (51)) = some (.inl (1, ky_z 1 40)) := (kz_ne (fun z => absurd (hb _ _ z) (show ¬ (51) = (48) by omega))).trans u2.2
  have d3 : (ky_up (ky_up g3 (b3 (52)) (.inl (1, ky_z 1 40))) (b3 (48)) (.inr (5, [.int 0, .ref (b3 (49)), .ref (b3 (50)), .ref (b3 (51)), .ref (b3 (52)), .ref (b3 (46))]))) (b3 (52)) = some (.inl (1, ky_z 1 40)) := (kz_ne (fun z => absurd (hb _ _ z) (show ¬ (52) = (48) by omega))).trans kz_same
  have h00 : (ky_up (ky_up g3 (b3 (52)) (.inl (1, ky_z 1 40))) (b3 (48)) (.inr (5, [.int 0, .ref (b3 (49)), .ref (b3 (50)), .ref (b3 (51)), .ref (b3 (52)), .ref (b3 (46))]))) (b3 (0)) = some (e00) := (kz_ne (fun z => absurd (hb _ _ z) (show ¬ (0) = (48) by omega))).trans v_h00.2
  have h46 : (ky_up (ky_up g3 (b3 (52)) (.inl (1, ky_z 1 40))) (b3 (48)) (.inr (5, [.int 0, .ref (b3 (49)), .ref (b3 (50)), .ref (b3 (51)), .ref (b3 (52)), .ref (b3 (46))]))) (b3 (46)) = some (e46) := (kz_ne (fun z => absurd (hb _ _ z) (show ¬ (46) = (48) by omega))).trans v_h46.2
  have r4 : kAl a f b3 (ky_up (ky_up g3 (b3 (52)) (.inl (1, ky_z 1 40))) (b3 (48)) (.inr (5, [.int 0, .ref (b3 (49)), .ref (b3 (50)), .ref (b3 (51)), .ref (b3 (52)), .ref (b3 (46))]))) (fun j => 48 ≤ j ∧ j ≤ 52) := kAl_tr rr (kAl_fr hb (kfr_up (S := fun j => j = 48) hb kfr_rf rfl)) fun j hj => ⟨hj, by omega⟩
  have e4 := ee
  generalize (ky_up (ky_up g3 (b3 (52)) (.inl (1, ky_z 1 40))) (b3 (48)) (.inr (5, [.int 0, .ref (b3 (49)), .ref (b3 (50)), .ref (b3 (51)), .ref (b3 (52)), .ref (b3 (46))]))) = g4 at w0 d0 d1 d2 d3 h00 h46 r4 ⊢
  refine hQ b3 g4 r4 e4 ?_
  exact ⟨(kAl_at r4 (by omega) h46o).1, 0, _, _, _, _, w0, d0, d1, d2, d3⟩
end KXC
