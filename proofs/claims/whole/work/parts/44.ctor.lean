/-! ## constructors -/
section KXC
variable {adK a : Nat → Nat} {f : ky_H} {Q : ky_Q}
theorem kx66 {e00 : ky_E} {k : Nat} (h00 : f (a 0) = some e00) (ha : kI a) (h0 : f (a (k + 1)) = some (.inr (6, [.null, .null, .null, .null]))) (hQ : ∀ a' f', kAl a f a' f' (fun j => k + 1 ≤ j ∧ j ≤ k + 5) → a' (k + 1) = a (k + 1) → (∃ S, kS a' k f' S) → Q (.inl none) f') : ky_cl adK 66 [.ref (a (k + 1))] f Q := by
  have r0 : kAl a f a f (fun j => k + 1 ≤ j ∧ j ≤ k + 5) := kAl_fr ha kfr_rf
  have e0 : a (k + 1) = a (k + 1) := rfl
  refine ⟨Nat.le_of_ble_eq_true rfl, fun _ => trivial, ?_⟩; show ky_ok adK 66 0 [some (.ref (a (k + 1)))] [] f 0 0 _
  repeat' (first | (refine ky_ok_stp rfl ?_; simp (disch := first | omega | assumption) only [ky_stp, ky_inv, ky_ldi, ky_ldl, ky_ldd, ky_lda, ky_cl2, ky_st1, ky_st2, ky_s1i, ky_s2i, ky_s1l, ky_s2l, ky_sli, ky_s1f, ky_s2f, ky_s1d, ky_s2d, ky_sr, ky_sai, ky_sasi, ky_sasl, ky_sasr, ky_svr, ky_sv, ky_sv2, ky_s1, ky_cs, ky_pop, ky_nth, ky_snt, ky_obj, ky_ari, ky_arl, ky_arr, ky_arn, ky_fv, ky_rcv, List.map_cons, List.map_nil, List.drop_succ_cons, List.drop_zero, Value.category, Nat.reduceAdd, Nat.reduceSub, true_and, and_true, true_or, or_true, reduceCtorEq, ite_true, ite_false, eq_self, Nat.reduceEqDiff, Nat.reduceLeDiff, nI_add, nI_1, nI_leI, nI_ltI, nI_eq, nI_clamp, kz_m1, kz_mn, kz_mn2, kz_n0, kz_0n, kz_0, kz_le0, kz_0lt, false_implies, true_implies, not_false_eq_true, not_true_eq_false, Nat.zero_le, kb_0, kz_10, kz_of, ky_sw, kz_mx, kz_mi, h0, kz_7, kz_60, kz_same, kz_uu]) | (refine ⟨vp_in_nI (by omega) (by omega), ?_⟩) | (rw [if_neg (by decide)]; refine ⟨by decide, by decide, ?_⟩) | (refine ⟨by decide, by decide, ?_⟩) | (refine ⟨fun zc => ?_, fun zc => ?_⟩ <;> try (exfalso; omega)) | fail)
  intro q hq
  obtain ⟨b0, hB, e⟩ := kI_sw (t := k + 2) r0.1 hq h00 (by omega) (.inl (1, ky_z 1 7))
  subst e
  have t0 := kAl_at hB (show ¬ (k + 1) = (k + 2) by omega) h0
  have v_h00 := kAl_at hB (show ¬ (0) = (k + 2) by omega) h00
  have hb := hB.1
  have rr : kAl a f b0 _ (fun j => k + 1 ≤ j ∧ j ≤ k + 5) := kAl_tr r0 hB fun j hj => ⟨hj, by omega⟩
  have ee : b0 (k + 1) = a (k + 1) := t0.1.trans e0
  simp only [← t0.1, ← v_h00.1]
  have t02 := t0.2
  repeat' (first | (refine ky_ok_stp rfl ?_; simp (disch := first | omega | assumption) only [ky_stp, ky_inv, ky_ldi, ky_ldl, ky_ldd, ky_lda, ky_cl2, ky_st1, ky_st2, ky_s1i, ky_s2i, ky_s1l, ky_s2l, ky_sli, ky_s1f, ky_s2f, ky_s1d, ky_s2d, ky_sr, ky_sai, ky_sasi, ky_sasl, ky_sasr, ky_svr, ky_sv, ky_sv2, ky_s1, ky_cs, ky_pop, ky_nth, ky_snt, ky_obj, ky_ari, ky_arl, ky_arr, ky_arn, ky_fv, ky_rcv, List.map_cons, List.map_nil, List.drop_succ_cons, List.drop_zero, Value.category, Nat.reduceAdd, Nat.reduceSub, true_and, and_true, true_or, or_true, reduceCtorEq, ite_true, ite_false, eq_self, Nat.reduceEqDiff, Nat.reduceLeDiff, nI_add, nI_1, nI_leI, nI_ltI, nI_eq, nI_clamp, kz_m1, kz_mn, kz_mn2, kz_n0, kz_0n, kz_0, kz_le0, kz_0lt, false_implies, true_implies, not_false_eq_true, not_true_eq_false, Nat.zero_le, kb_0, kz_10, kz_of, ky_sw, kz_mx, kz_mi, t02, kz_7, kz_60, kz_same, kz_uu]) | (refine ⟨vp_in_nI (by omega) (by omega), ?_⟩) | (rw [if_neg (by decide)]; refine ⟨by decide, by decide, ?_⟩) | (refine ⟨by decide, by decide, ?_⟩) | (refine ⟨fun zc => ?_, fun zc => ?_⟩ <;> try (exfalso; omega)) | fail)
  have w0 : (ky_up (ky_up f (b0 (k + 2)) (.inl (1, ky_z 1 7))) (b0 (k + 1)) (.inr (6, [.ref (b0 (k + 2)), .null, .null, .null]))) (b0 (k + 1)) = some (.inr (6, [.ref (b0 (k + 2)), .null, .null, .null])) := kz_same
  have d0 : (ky_up (ky_up f (b0 (k + 2)) (.inl (1, ky_z 1 7))) (b0 (k + 1)) (.inr (6, [.ref (b0 (k + 2)), .null, .null, .null]))) (b0 (k + 2)) = some (.inl (1, ky_z 1 7)) := (kz_ne (fun z => absurd (hb _ _ z) (show ¬ (k + 2) = (k + 1) by omega))).trans kz_same
  have h00 : (ky_up (ky_up f (b0 (k + 2)) (.inl (1, ky_z 1 7))) (b0 (k + 1)) (.inr (6, [.ref (b0 (k + 2)), .null, .null, .null]))) (b0 (0)) = some (e00) := (kz_ne (fun z => absurd (hb _ _ z) (show ¬ (0) = (k + 1) by omega))).trans v_h00.2
  have r1 : kAl a f b0 (ky_up (ky_up f (b0 (k + 2)) (.inl (1, ky_z 1 7))) (b0 (k + 1)) (.inr (6, [.ref (b0 (k + 2)), .null, .null, .null]))) (fun j => k + 1 ≤ j ∧ j ≤ k + 5) := kAl_tr rr (kAl_fr hb (kfr_up (S := fun j => j = k + 1) hb kfr_rf rfl)) fun j hj => ⟨hj, by omega⟩
  have e1 := ee
  generalize (ky_up (ky_up f (b0 (k + 2)) (.inl (1, ky_z 1 7))) (b0 (k + 1)) (.inr (6, [.ref (b0 (k + 2)), .null, .null, .null]))) = g1 at w0 d0 h00 r1 ⊢
  intro q hq
  obtain ⟨b1, hB, e⟩ := kI_sw (t := k + 3) r1.1 hq h00 (by omega) (.inl (1, ky_z 1 7))
  subst e
  have t0 := kAl_at hB (show ¬ (k + 1) = (k + 3) by omega) w0
  have u0 := kAl_at hB (show ¬ (k + 2) = (k + 3) by omega) d0
  have v_h00 := kAl_at hB (show ¬ (0) = (k + 3) by omega) h00
  have hb := hB.1
  have rr : kAl a f b1 _ (fun j => k + 1 ≤ j ∧ j ≤ k + 5) := kAl_tr r1 hB fun j hj => ⟨hj, by omega⟩
  have ee : b1 (k + 1) = a (k + 1) := t0.1.trans e1
  simp only [← t0.1, ← v_h00.1]
  have t02 := t0.2
  rw [← u0.1] at t02
  repeat' (first | (refine ky_ok_stp rfl ?_; simp (disch := first | omega | assumption) only [ky_stp, ky_inv, ky_ldi, ky_ldl, ky_ldd, ky_lda, ky_cl2, ky_st1, ky_st2, ky_s1i, ky_s2i, ky_s1l, ky_s2l, ky_sli, ky_s1f, ky_s2f, ky_s1d, ky_s2d, ky_sr, ky_sai, ky_sasi, ky_sasl, ky_sasr, ky_svr, ky_sv, ky_sv2, ky_s1, ky_cs, ky_pop, ky_nth, ky_snt, ky_obj, ky_ari, ky_arl, ky_arr, ky_arn, ky_fv, ky_rcv, List.map_cons, List.map_nil, List.drop_succ_cons, List.drop_zero, Value.category, Nat.reduceAdd, Nat.reduceSub, true_and, and_true, true_or, or_true, reduceCtorEq, ite_true, ite_false, eq_self, Nat.reduceEqDiff, Nat.reduceLeDiff, nI_add, nI_1, nI_leI, nI_ltI, nI_eq, nI_clamp, kz_m1, kz_mn, kz_mn2, kz_n0, kz_0n, kz_0, kz_le0, kz_0lt, false_implies, true_implies, not_false_eq_true, not_true_eq_false, Nat.zero_le, kb_0, kz_10, kz_of, ky_sw, kz_mx, kz_mi, t02, kz_7, kz_60, kz_same, kz_uu]) | (refine ⟨vp_in_nI (by omega) (by omega), ?_⟩) | (rw [if_neg (by decide)]; refine ⟨by decide, by decide, ?_⟩) | (refine ⟨by decide, by decide, ?_⟩) | (refine ⟨fun zc => ?_, fun zc => ?_⟩ <;> try (exfalso; omega)) | fail)
  have w0 : (ky_up (ky_up g1 (b1 (k + 3)) (.inl (1, ky_z 1 7))) (b1 (k + 1)) (.inr (6, [.ref (b1 (k + 2)), .ref (b1 (k + 3)), .null, .null]))) (b1 (k + 1)) = some (.inr (6, [.ref (b1 (k + 2)), .ref (b1 (k + 3)), .null, .null])) := kz_same
  have d0 : (ky_up (ky_up g1 (b1 (k + 3)) (.inl (1, ky_z 1 7))) (b1 (k + 1)) (.inr (6, [.ref (b1 (k + 2)), .ref (b1 (k + 3)), .null, .null]))) (b1 (k + 2)) = some (.inl (1, ky_z 1 7)) := (kz_ne (fun z => absurd (hb _ _ z) (show ¬ (k + 2) = (k + 1) by omega))).trans u0.2
  have d1 : (ky_up (ky_up g1 (b1 (k + 3)) (.inl (1, ky_z 1 7))) (b1 (k + 1)) (.inr (6, [.ref (b1 (k + 2)), .ref (b1 (k + 3)), .null, .null]))) (b1 (k + 3)) = some (.inl (1, ky_z 1 7)) := (kz_ne (fun z => absurd (hb _ _ z) (show ¬ (k + 3) = (k + 1) by omega))).trans kz_same
  have h00 : (ky_up (ky_up g1 (b1 (k + 3)) (.inl (1, ky_z 1 7))) (b1 (k + 1)) (.inr (6, [.ref (b1 (k + 2)), .ref (b1 (k + 3)), .null, .null]))) (b1 (0)) = some (e00) := (kz_ne (fun z => absurd (hb _ _ z) (show ¬ (0) = (k + 1) by omega))).trans v_h00.2
  have r2 : kAl a f b1 (ky_up (ky_up g1 (b1 (k + 3)) (.inl (1, ky_z 1 7))) (b1 (k + 1)) (.inr (6, [.ref (b1 (k + 2)), .ref (b1 (k + 3)), .null, .null]))) (fun j => k + 1 ≤ j ∧ j ≤ k + 5) := kAl_tr rr (kAl_fr hb (kfr_up (S := fun j => j = k + 1) hb kfr_rf rfl)) fun j hj => ⟨hj, by omega⟩
  have e2 := ee
  generalize (ky_up (ky_up g1 (b1 (k + 3)) (.inl (1, ky_z 1 7))) (b1 (k + 1)) (.inr (6, [.ref (b1 (k + 2)), .ref (b1 (k + 3)), .null, .null]))) = g2 at w0 d0 d1 h00 r2 ⊢
  intro q hq
  obtain ⟨b2, hB, e⟩ := kI_sw (t := k + 4) r2.1 hq h00 (by omega) (.inl (3, ky_z 3 7))
  subst e
  have t0 := kAl_at hB (show ¬ (k + 1) = (k + 4) by omega) w0
  have u0 := kAl_at hB (show ¬ (k + 2) = (k + 4) by omega) d0
  have u1 := kAl_at hB (show ¬ (k + 3) = (k + 4) by omega) d1
  have v_h00 := kAl_at hB (show ¬ (0) = (k + 4) by omega) h00
  have hb := hB.1
  have rr : kAl a f b2 _ (fun j => k + 1 ≤ j ∧ j ≤ k + 5) := kAl_tr r2 hB fun j hj => ⟨hj, by omega⟩
  have ee : b2 (k + 1) = a (k + 1) := t0.1.trans e2
  simp only [← t0.1, ← v_h00.1]
  have t02 := t0.2
  rw [← u0.1, ← u1.1] at t02
  repeat' (first | (refine ky_ok_stp rfl ?_; simp (disch := first | omega | assumption) only [ky_stp, ky_inv, ky_ldi, ky_ldl, ky_ldd, ky_lda, ky_cl2, ky_st1, ky_st2, ky_s1i, ky_s2i, ky_s1l, ky_s2l, ky_sli, ky_s1f, ky_s2f, ky_s1d, ky_s2d, ky_sr, ky_sai, ky_sasi, ky_sasl, ky_sasr, ky_svr, ky_sv, ky_sv2, ky_s1, ky_cs, ky_pop, ky_nth, ky_snt, ky_obj, ky_ari, ky_arl, ky_arr, ky_arn, ky_fv, ky_rcv, List.map_cons, List.map_nil, List.drop_succ_cons, List.drop_zero, Value.category, Nat.reduceAdd, Nat.reduceSub, true_and, and_true, true_or, or_true, reduceCtorEq, ite_true, ite_false, eq_self, Nat.reduceEqDiff, Nat.reduceLeDiff, nI_add, nI_1, nI_leI, nI_ltI, nI_eq, nI_clamp, kz_m1, kz_mn, kz_mn2, kz_n0, kz_0n, kz_0, kz_le0, kz_0lt, false_implies, true_implies, not_false_eq_true, not_true_eq_false, Nat.zero_le, kb_0, kz_10, kz_of, ky_sw, kz_mx, kz_mi, t02, kz_7, kz_60, kz_same, kz_uu]) | (refine ⟨vp_in_nI (by omega) (by omega), ?_⟩) | (rw [if_neg (by decide)]; refine ⟨by decide, by decide, ?_⟩) | (refine ⟨by decide, by decide, ?_⟩) | (refine ⟨fun zc => ?_, fun zc => ?_⟩ <;> try (exfalso; omega)) | fail)
  have w0 : (ky_up (ky_up g2 (b2 (k + 4)) (.inl (3, ky_z 3 7))) (b2 (k + 1)) (.inr (6, [.ref (b2 (k + 2)), .ref (b2 (k + 3)), .ref (b2 (k + 4)), .null]))) (b2 (k + 1)) = some (.inr (6, [.ref (b2 (k + 2)), .ref (b2 (k + 3)), .ref (b2 (k + 4)), .null])) := kz_same
  have d0 : (ky_up (ky_up g2 (b2 (k + 4)) (.inl (3, ky_z 3 7))) (b2 (k + 1)) (.inr (6, [.ref (b2 (k + 2)), .ref (b2 (k + 3)), .ref (b2 (k + 4)), .null]))) (b2 (k + 2)) = some (.inl (1, ky_z 1 7)) := (kz_ne (fun z => absurd (hb _ _ z) (show ¬ (k + 2) = (k + 1) by omega))).trans u0.2
  have d1 : (ky_up (ky_up g2 (b2 (k + 4)) (.inl (3, ky_z 3 7))) (b2 (k + 1)) (.inr (6, [.ref (b2 (k + 2)), .ref (b2 (k + 3)), .ref (b2 (k + 4)), .null]))) (b2 (k + 3)) = some (.inl (1, ky_z 1 7)) := (kz_ne (fun z => absurd (hb _ _ z) (show ¬ (k + 3) = (k + 1) by omega))).trans u1.2
  have d2 : (ky_up (ky_up g2 (b2 (k + 4)) (.inl (3, ky_z 3 7))) (b2 (k + 1)) (.inr (6, [.ref (b2 (k + 2)), .ref (b2 (k + 3)), .ref (b2 (k + 4)), .null]))) (b2 (k + 4)) = some (.inl (3, ky_z 3 7)) := (kz_ne (fun z => absurd (hb _ _ z) (show ¬ (k + 4) = (k + 1) by omega))).trans kz_same
  have h00 : (ky_up (ky_up g2 (b2 (k + 4)) (.inl (3, ky_z 3 7))) (b2 (k + 1)) (.inr (6, [.ref (b2 (k + 2)), .ref (b2 (k + 3)), .ref (b2 (k + 4)), .null]))) (b2 (0)) = some (e00) := (kz_ne (fun z => absurd (hb _ _ z) (show ¬ (0) = (k + 1) by omega))).trans v_h00.2
  have r3 : kAl a f b2 (ky_up (ky_up g2 (b2 (k + 4)) (.inl (3, ky_z 3 7))) (b2 (k + 1)) (.inr (6, [.ref (b2 (k + 2)), .ref (b2 (k + 3)), .ref (b2 (k + 4)), .null]))) (fun j => k + 1 ≤ j ∧ j ≤ k + 5) := kAl_tr rr (kAl_fr hb (kfr_up (S := fun j => j = k + 1) hb kfr_rf rfl)) fun j hj => ⟨hj, by omega⟩
  have e3 := ee
  generalize (ky_up (ky_up g2 (b2 (k + 4)) (.inl (3, ky_z 3 7))) (b2 (k + 1)) (.inr (6, [.ref (b2 (k + 2)), .ref (b2 (k + 3)), .ref (b2 (k + 4)), .null]))) = g3 at w0 d0 d1 d2 h00 r3 ⊢
  intro q hq
  obtain ⟨b3, hB, e⟩ := kI_sw (t := k + 5) r3.1 hq h00 (by omega) (.inl (3, ky_z 3 7))
  subst e
  have t0 := kAl_at hB (show ¬ (k + 1) = (k + 5) by omega) w0
  have u0 := kAl_at hB (show ¬ (k + 2) = (k + 5) by omega) d0
  have u1 := kAl_at hB (show ¬ (k + 3) = (k + 5) by omega) d1
  have u2 := kAl_at hB (show ¬ (k + 4) = (k + 5) by omega) d2
  have v_h00 := kAl_at hB (show ¬ (0) = (k + 5) by omega) h00
  have hb := hB.1
  have rr : kAl a f b3 _ (fun j => k + 1 ≤ j ∧ j ≤ k + 5) := kAl_tr r3 hB fun j hj => ⟨hj, by omega⟩
  have ee : b3 (k + 1) = a (k + 1) := t0.1.trans e3
  simp only [← t0.1, ← v_h00.1]
  have t02 := t0.2
  rw [← u0.1, ← u1.1, ← u2.1] at t02
  repeat' (first | (refine ky_ok_stp rfl ?_; simp (disch := first | omega | assumption) only [ky_stp, ky_inv, ky_ldi, ky_ldl, ky_ldd, ky_lda, ky_cl2, ky_st1, ky_st2, ky_s1i, ky_s2i, ky_s1l, ky_s2l, ky_sli, ky_s1f, ky_s2f, ky_s1d, ky_s2d, ky_sr, ky_sai, ky_sasi, ky_sasl, ky_sasr, ky_svr, ky_sv, ky_sv2, ky_s1, ky_cs, ky_pop, ky_nth, ky_snt, ky_obj, ky_ari, ky_arl, ky_arr, ky_arn, ky_fv, ky_rcv, List.map_cons, List.map_nil, List.drop_succ_cons, List.drop_zero, Value.category, Nat.reduceAdd, Nat.reduceSub, true_and, and_true, true_or, or_true, reduceCtorEq, ite_true, ite_false, eq_self, Nat.reduceEqDiff, Nat.reduceLeDiff, nI_add, nI_1, nI_leI, nI_ltI, nI_eq, nI_clamp, kz_m1, kz_mn, kz_mn2, kz_n0, kz_0n, kz_0, kz_le0, kz_0lt, false_implies, true_implies, not_false_eq_true, not_true_eq_false, Nat.zero_le, kb_0, kz_10, kz_of, ky_sw, kz_mx, kz_mi, t02, kz_7, kz_60, kz_same, kz_uu]) | (refine ⟨vp_in_nI (by omega) (by omega), ?_⟩) | (rw [if_neg (by decide)]; refine ⟨by decide, by decide, ?_⟩) | (refine ⟨by decide, by decide, ?_⟩) | (refine ⟨fun zc => ?_, fun zc => ?_⟩ <;> try (exfalso; omega)) | fail)
  have w0 : (ky_up (ky_up g3 (b3 (k + 5)) (.inl (3, ky_z 3 7))) (b3 (k + 1)) (.inr (6, [.ref (b3 (k + 2)), .ref (b3 (k + 3)), .ref (b3 (k + 4)), .ref (b3 (k + 5))]))) (b3 (k + 1)) = some (.inr (6, [.ref (b3 (k + 2)), .ref (b3 (k + 3)), .ref (b3 (k + 4)), .ref (b3 (k + 5))])) := kz_same
  have d0 : (ky_up (ky_up g3 (b3 (k + 5)) (.inl (3, ky_z 3 7))) (b3 (k + 1)) (.inr (6, [.ref (b3 (k + 2)), .ref (b3 (k + 3)), .ref (b3 (k + 4)), .ref (b3 (k + 5))]))) (b3 (k + 2)) = some (.inl (1, ky_z 1 7)) := (kz_ne (fun z => absurd (hb _ _ z) (show ¬ (k + 2) = (k + 1) by omega))).trans u0.2
  have d1 : (ky_up (ky_up g3 (b3 (k + 5)) (.inl (3, ky_z 3 7))) (b3 (k + 1)) (.inr (6, [.ref (b3 (k + 2)), .ref (b3 (k + 3)), .ref (b3 (k + 4)), .ref (b3 (k + 5))]))) (b3 (k + 3)) = some (.inl (1, ky_z 1 7)) := (kz_ne (fun z => absurd (hb _ _ z) (show ¬ (k + 3) = (k + 1) by omega))).trans u1.2
  have d2 : (ky_up (ky_up g3 (b3 (k + 5)) (.inl (3, ky_z 3 7))) (b3 (k + 1)) (.inr (6, [.ref (b3 (k + 2)), .ref (b3 (k + 3)), .ref (b3 (k + 4)), .ref (b3 (k + 5))]))) (b3 (k + 4)) = some (.inl (3, ky_z 3 7)) := (kz_ne (fun z => absurd (hb _ _ z) (show ¬ (k + 4) = (k + 1) by omega))).trans u2.2
  have d3 : (ky_up (ky_up g3 (b3 (k + 5)) (.inl (3, ky_z 3 7))) (b3 (k + 1)) (.inr (6, [.ref (b3 (k + 2)), .ref (b3 (k + 3)), .ref (b3 (k + 4)), .ref (b3 (k + 5))]))) (b3 (k + 5)) = some (.inl (3, ky_z 3 7)) := (kz_ne (fun z => absurd (hb _ _ z) (show ¬ (k + 5) = (k + 1) by omega))).trans kz_same
  have h00 : (ky_up (ky_up g3 (b3 (k + 5)) (.inl (3, ky_z 3 7))) (b3 (k + 1)) (.inr (6, [.ref (b3 (k + 2)), .ref (b3 (k + 3)), .ref (b3 (k + 4)), .ref (b3 (k + 5))]))) (b3 (0)) = some (e00) := (kz_ne (fun z => absurd (hb _ _ z) (show ¬ (0) = (k + 1) by omega))).trans v_h00.2
  have r4 : kAl a f b3 (ky_up (ky_up g3 (b3 (k + 5)) (.inl (3, ky_z 3 7))) (b3 (k + 1)) (.inr (6, [.ref (b3 (k + 2)), .ref (b3 (k + 3)), .ref (b3 (k + 4)), .ref (b3 (k + 5))]))) (fun j => k + 1 ≤ j ∧ j ≤ k + 5) := kAl_tr rr (kAl_fr hb (kfr_up (S := fun j => j = k + 1) hb kfr_rf rfl)) fun j hj => ⟨hj, by omega⟩
  have e4 := ee
  generalize (ky_up (ky_up g3 (b3 (k + 5)) (.inl (3, ky_z 3 7))) (b3 (k + 1)) (.inr (6, [.ref (b3 (k + 2)), .ref (b3 (k + 3)), .ref (b3 (k + 4)), .ref (b3 (k + 5))]))) = g4 at w0 d0 d1 d2 d3 h00 r4 ⊢
  refine hQ b3 g4 r4 e4 ?_
  exact ⟨fun _ _ => 0, w0, d0, d1, d2, d3, fun l => ⟨Or.inl rfl, Or.inl rfl⟩⟩
theorem kx9 {e00 : ky_E} {k : Nat} (h00 : f (a 0) = some e00) (hk0 : 1 ≤ k) (ha : kI a) (h0 : f (a (k)) = some (.inr (2, [.null, .null, .null, .null, .null, .null]))) (hQ : ∀ a' f', kAl a f a' f' (fun j => k ≤ j ∧ j ≤ k + 6) → a' (k) = a (k) → kNn a' k f' → Q (.inl none) f') : ky_cl adK 9 [.ref (a (k))] f Q := by
  have r0 : kAl a f a f (fun j => k ≤ j ∧ j ≤ k + 6) := kAl_fr ha kfr_rf
  have e0 : a (k) = a (k) := rfl
  refine ⟨Nat.le_of_ble_eq_true rfl, fun _ => trivial, ?_⟩; show ky_ok adK 9 0 [some (.ref (a (k)))] [] f 0 0 _
  repeat' (first | (refine ky_ok_stp rfl ?_; simp (disch := first | omega | assumption) only [ky_stp, ky_inv, ky_ldi, ky_ldl, ky_ldd, ky_lda, ky_cl2, ky_st1, ky_st2, ky_s1i, ky_s2i, ky_s1l, ky_s2l, ky_sli, ky_s1f, ky_s2f, ky_s1d, ky_s2d, ky_sr, ky_sai, ky_sasi, ky_sasl, ky_sasr, ky_svr, ky_sv, ky_sv2, ky_s1, ky_cs, ky_pop, ky_nth, ky_snt, ky_obj, ky_ari, ky_arl, ky_arr, ky_arn, ky_fv, ky_rcv, List.map_cons, List.map_nil, List.drop_succ_cons, List.drop_zero, Value.category, Nat.reduceAdd, Nat.reduceSub, true_and, and_true, true_or, or_true, reduceCtorEq, ite_true, ite_false, eq_self, Nat.reduceEqDiff, Nat.reduceLeDiff, nI_add, nI_1, nI_leI, nI_ltI, nI_eq, nI_clamp, kz_m1, kz_mn, kz_mn2, kz_n0, kz_0n, kz_0, kz_le0, kz_0lt, false_implies, true_implies, not_false_eq_true, not_true_eq_false, Nat.zero_le, kb_0, kz_10, kz_of, ky_sw, kz_mx, kz_mi, h0, kz_7, kz_60, kz_same, kz_uu, kz_6]) | (refine ⟨vp_in_nI (by omega) (by omega), ?_⟩) | (rw [if_neg (by decide)]; refine ⟨by decide, by decide, ?_⟩) | (refine ⟨by decide, by decide, ?_⟩) | (refine ⟨fun zc => ?_, fun zc => ?_⟩ <;> try (exfalso; omega)) | fail)
  intro q hq
  obtain ⟨b0, hB, e⟩ := kI_sw (t := k + 1) r0.1 hq h00 (by omega) (.inl (1, ky_z 1 60))
  subst e
  have t0 := kAl_at hB (show ¬ (k) = (k + 1) by omega) h0
  have v_h00 := kAl_at hB (show ¬ (0) = (k + 1) by omega) h00
  have hb := hB.1
  have rr : kAl a f b0 _ (fun j => k ≤ j ∧ j ≤ k + 6) := kAl_tr r0 hB fun j hj => ⟨hj, by omega⟩
  have ee : b0 (k) = a (k) := t0.1.trans e0
  simp only [← t0.1, ← v_h00.1]
  have t02 := t0.2
  repeat' (first | (refine ky_ok_stp rfl ?_; simp (disch := first | omega | assumption) only [ky_stp, ky_inv, ky_ldi, ky_ldl, ky_ldd, ky_lda, ky_cl2, ky_st1, ky_st2, ky_s1i, ky_s2i, ky_s1l, ky_s2l, ky_sli, ky_s1f, ky_s2f, ky_s1d, ky_s2d, ky_sr, ky_sai, ky_sasi, ky_sasl, ky_sasr, ky_svr, ky_sv, ky_sv2, ky_s1, ky_cs, ky_pop, ky_nth, ky_snt, ky_obj, ky_ari, ky_arl, ky_arr, ky_arn, ky_fv, ky_rcv, List.map_cons, List.map_nil, List.drop_succ_cons, List.drop_zero, Value.category, Nat.reduceAdd, Nat.reduceSub, true_and, and_true, true_or, or_true, reduceCtorEq, ite_true, ite_false, eq_self, Nat.reduceEqDiff, Nat.reduceLeDiff, nI_add, nI_1, nI_leI, nI_ltI, nI_eq, nI_clamp, kz_m1, kz_mn, kz_mn2, kz_n0, kz_0n, kz_0, kz_le0, kz_0lt, false_implies, true_implies, not_false_eq_true, not_true_eq_false, Nat.zero_le, kb_0, kz_10, kz_of, ky_sw, kz_mx, kz_mi, t02, kz_7, kz_60, kz_same, kz_uu, kz_6]) | (refine ⟨vp_in_nI (by omega) (by omega), ?_⟩) | (rw [if_neg (by decide)]; refine ⟨by decide, by decide, ?_⟩) | (refine ⟨by decide, by decide, ?_⟩) | (refine ⟨fun zc => ?_, fun zc => ?_⟩ <;> try (exfalso; omega)) | fail)
  have w0 : (ky_up (ky_up f (b0 (k + 1)) (.inl (1, ky_z 1 60))) (b0 (k)) (.inr (2, [.ref (b0 (k + 1)), .null, .null, .null, .null, .null]))) (b0 (k)) = some (.inr (2, [.ref (b0 (k + 1)), .null, .null, .null, .null, .null])) := kz_same
  have d0 : (ky_up (ky_up f (b0 (k + 1)) (.inl (1, ky_z 1 60))) (b0 (k)) (.inr (2, [.ref (b0 (k + 1)), .null, .null, .null, .null, .null]))) (b0 (k + 1)) = some (.inl (1, ky_z 1 60)) := (kz_ne (fun z => absurd (hb _ _ z) (show ¬ (k + 1) = (k) by omega))).trans kz_same
  have h00 : (ky_up (ky_up f (b0 (k + 1)) (.inl (1, ky_z 1 60))) (b0 (k)) (.inr (2, [.ref (b0 (k + 1)), .null, .null, .null, .null, .null]))) (b0 (0)) = some (e00) := (kz_ne (fun z => absurd (hb _ _ z) (show ¬ (0) = (k) by omega))).trans v_h00.2
  have r1 : kAl a f b0 (ky_up (ky_up f (b0 (k + 1)) (.inl (1, ky_z 1 60))) (b0 (k)) (.inr (2, [.ref (b0 (k + 1)), .null, .null, .null, .null, .null]))) (fun j => k ≤ j ∧ j ≤ k + 6) := kAl_tr rr (kAl_fr hb (kfr_up (S := fun j => j = k) hb kfr_rf rfl)) fun j hj => ⟨hj, by omega⟩
  have e1 := ee
  generalize (ky_up (ky_up f (b0 (k + 1)) (.inl (1, ky_z 1 60))) (b0 (k)) (.inr (2, [.ref (b0 (k + 1)), .null, .null, .null, .null, .null]))) = g1 at w0 d0 h00 r1 ⊢
  intro q hq
  obtain ⟨b1, hB, e⟩ := kI_sw (t := k + 2) r1.1 hq h00 (by omega) (.inl (1, ky_z 1 60))
  subst e
  have t0 := kAl_at hB (show ¬ (k) = (k + 2) by omega) w0
  have u0 := kAl_at hB (show ¬ (k + 1) = (k + 2) by omega) d0
  have v_h00 := kAl_at hB (show ¬ (0) = (k + 2) by omega) h00
  have hb := hB.1
  have rr : kAl a f b1 _ (fun j => k ≤ j ∧ j ≤ k + 6) := kAl_tr r1 hB fun j hj => ⟨hj, by omega⟩
  have ee : b1 (k) = a (k) := t0.1.trans e1
  simp only [← t0.1, ← v_h00.1]
  have t02 := t0.2
  rw [← u0.1] at t02
  repeat' (first | (refine ky_ok_stp rfl ?_; simp (disch := first | omega | assumption) only [ky_stp, ky_inv, ky_ldi, ky_ldl, ky_ldd, ky_lda, ky_cl2, ky_st1, ky_st2, ky_s1i, ky_s2i, ky_s1l, ky_s2l, ky_sli, ky_s1f, ky_s2f, ky_s1d, ky_s2d, ky_sr, ky_sai, ky_sasi, ky_sasl, ky_sasr, ky_svr, ky_sv, ky_sv2, ky_s1, ky_cs, ky_pop, ky_nth, ky_snt, ky_obj, ky_ari, ky_arl, ky_arr, ky_arn, ky_fv, ky_rcv, List.map_cons, List.map_nil, List.drop_succ_cons, List.drop_zero, Value.category, Nat.reduceAdd, Nat.reduceSub, true_and, and_true, true_or, or_true, reduceCtorEq, ite_true, ite_false, eq_self, Nat.reduceEqDiff, Nat.reduceLeDiff, nI_add, nI_1, nI_leI, nI_ltI, nI_eq, nI_clamp, kz_m1, kz_mn, kz_mn2, kz_n0, kz_0n, kz_0, kz_le0, kz_0lt, false_implies, true_implies, not_false_eq_true, not_true_eq_false, Nat.zero_le, kb_0, kz_10, kz_of, ky_sw, kz_mx, kz_mi, t02, kz_7, kz_60, kz_same, kz_uu, kz_6]) | (refine ⟨vp_in_nI (by omega) (by omega), ?_⟩) | (rw [if_neg (by decide)]; refine ⟨by decide, by decide, ?_⟩) | (refine ⟨by decide, by decide, ?_⟩) | (refine ⟨fun zc => ?_, fun zc => ?_⟩ <;> try (exfalso; omega)) | fail)
  have w0 : (ky_up (ky_up g1 (b1 (k + 2)) (.inl (1, ky_z 1 60))) (b1 (k)) (.inr (2, [.ref (b1 (k + 1)), .ref (b1 (k + 2)), .null, .null, .null, .null]))) (b1 (k)) = some (.inr (2, [.ref (b1 (k + 1)), .ref (b1 (k + 2)), .null, .null, .null, .null])) := kz_same
  have d0 : (ky_up (ky_up g1 (b1 (k + 2)) (.inl (1, ky_z 1 60))) (b1 (k)) (.inr (2, [.ref (b1 (k + 1)), .ref (b1 (k + 2)), .null, .null, .null, .null]))) (b1 (k + 1)) = some (.inl (1, ky_z 1 60)) := (kz_ne (fun z => absurd (hb _ _ z) (show ¬ (k + 1) = (k) by omega))).trans u0.2
  have d1 : (ky_up (ky_up g1 (b1 (k + 2)) (.inl (1, ky_z 1 60))) (b1 (k)) (.inr (2, [.ref (b1 (k + 1)), .ref (b1 (k + 2)), .null, .null, .null, .null]))) (b1 (k + 2)) = some (.inl (1, ky_z 1 60)) := (kz_ne (fun z => absurd (hb _ _ z) (show ¬ (k + 2) = (k) by omega))).trans kz_same
  have h00 : (ky_up (ky_up g1 (b1 (k + 2)) (.inl (1, ky_z 1 60))) (b1 (k)) (.inr (2, [.ref (b1 (k + 1)), .ref (b1 (k + 2)), .null, .null, .null, .null]))) (b1 (0)) = some (e00) := (kz_ne (fun z => absurd (hb _ _ z) (show ¬ (0) = (k) by omega))).trans v_h00.2
  have r2 : kAl a f b1 (ky_up (ky_up g1 (b1 (k + 2)) (.inl (1, ky_z 1 60))) (b1 (k)) (.inr (2, [.ref (b1 (k + 1)), .ref (b1 (k + 2)), .null, .null, .null, .null]))) (fun j => k ≤ j ∧ j ≤ k + 6) := kAl_tr rr (kAl_fr hb (kfr_up (S := fun j => j = k) hb kfr_rf rfl)) fun j hj => ⟨hj, by omega⟩
  have e2 := ee
  generalize (ky_up (ky_up g1 (b1 (k + 2)) (.inl (1, ky_z 1 60))) (b1 (k)) (.inr (2, [.ref (b1 (k + 1)), .ref (b1 (k + 2)), .null, .null, .null, .null]))) = g2 at w0 d0 d1 h00 r2 ⊢
  intro q hq
  obtain ⟨b2, hB, e⟩ := kI_sw (t := k + 3) r2.1 hq h00 (by omega) (.inl (1, ky_z 1 60))
  subst e
  have t0 := kAl_at hB (show ¬ (k) = (k + 3) by omega) w0
  have u0 := kAl_at hB (show ¬ (k + 1) = (k + 3) by omega) d0
  have u1 := kAl_at hB (show ¬ (k + 2) = (k + 3) by omega) d1
  have v_h00 := kAl_at hB (show ¬ (0) = (k + 3) by omega) h00
  have hb := hB.1
  have rr : kAl a f b2 _ (fun j => k ≤ j ∧ j ≤ k + 6) := kAl_tr r2 hB fun j hj => ⟨hj, by omega⟩
  have ee : b2 (k) = a (k) := t0.1.trans e2
  simp only [← t0.1, ← v_h00.1]
  have t02 := t0.2
  rw [← u0.1, ← u1.1] at t02
  repeat' (first | (refine ky_ok_stp rfl ?_; simp (disch := first | omega | assumption) only [ky_stp, ky_inv, ky_ldi, ky_ldl, ky_ldd, ky_lda, ky_cl2, ky_st1, ky_st2, ky_s1i, ky_s2i, ky_s1l, ky_s2l, ky_sli, ky_s1f, ky_s2f, ky_s1d, ky_s2d, ky_sr, ky_sai, ky_sasi, ky_sasl, ky_sasr, ky_svr, ky_sv, ky_sv2, ky_s1, ky_cs, ky_pop, ky_nth, ky_snt, ky_obj, ky_ari, ky_arl, ky_arr, ky_arn, ky_fv, ky_rcv, List.map_cons, List.map_nil, List.drop_succ_cons, List.drop_zero, Value.category, Nat.reduceAdd, Nat.reduceSub, true_and, and_true, true_or, or_true, reduceCtorEq, ite_true, ite_false, eq_self, Nat.reduceEqDiff, Nat.reduceLeDiff, nI_add, nI_1, nI_leI, nI_ltI, nI_eq, nI_clamp, kz_m1, kz_mn, kz_mn2, kz_n0, kz_0n, kz_0, kz_le0, kz_0lt, false_implies, true_implies, not_false_eq_true, not_true_eq_false, Nat.zero_le, kb_0, kz_10, kz_of, ky_sw, kz_mx, kz_mi, t02, kz_7, kz_60, kz_same, kz_uu, kz_6]) | (refine ⟨vp_in_nI (by omega) (by omega), ?_⟩) | (rw [if_neg (by decide)]; refine ⟨by decide, by decide, ?_⟩) | (refine ⟨by decide, by decide, ?_⟩) | (refine ⟨fun zc => ?_, fun zc => ?_⟩ <;> try (exfalso; omega)) | fail)
  have w0 : (ky_up (ky_up g2 (b2 (k + 3)) (.inl (1, ky_z 1 60))) (b2 (k)) (.inr (2, [.ref (b2 (k + 1)), .ref (b2 (k + 2)), .ref (b2 (k + 3)), .null, .null, .null]))) (b2 (k)) = some (.inr (2, [.ref (b2 (k + 1)), .ref (b2 (k + 2)), .ref (b2 (k + 3)), .null, .null, .null])) := kz_same
  have d0 : (ky_up (ky_up g2 (b2 (k + 3)) (.inl (1, ky_z 1 60))) (b2 (k)) (.inr (2, [.ref (b2 (k + 1)), .ref (b2 (k + 2)), .ref (b2 (k + 3)), .null, .null, .null]))) (b2 (k + 1)) = some (.inl (1, ky_z 1 60)) := (kz_ne (fun z => absurd (hb _ _ z) (show ¬ (k + 1) = (k) by omega))).trans u0.2
  have d1 : (ky_up (ky_up g2 (b2 (k + 3)) (.inl (1, ky_z 1 60))) (b2 (k)) (.inr (2, [.ref (b2 (k + 1)), .ref (b2 (k + 2)), .ref (b2 (k + 3)), .null, .null, .null]))) (b2 (k + 2)) = some (.inl (1, ky_z 1 60)) := (kz_ne (fun z => absurd (hb _ _ z) (show ¬ (k + 2) = (k) by omega))).trans u1.2
  have d2 : (ky_up (ky_up g2 (b2 (k + 3)) (.inl (1, ky_z 1 60))) (b2 (k)) (.inr (2, [.ref (b2 (k + 1)), .ref (b2 (k + 2)), .ref (b2 (k + 3)), .null, .null, .null]))) (b2 (k + 3)) = some (.inl (1, ky_z 1 60)) := (kz_ne (fun z => absurd (hb _ _ z) (show ¬ (k + 3) = (k) by omega))).trans kz_same
  have h00 : (ky_up (ky_up g2 (b2 (k + 3)) (.inl (1, ky_z 1 60))) (b2 (k)) (.inr (2, [.ref (b2 (k + 1)), .ref (b2 (k + 2)), .ref (b2 (k + 3)), .null, .null, .null]))) (b2 (0)) = some (e00) := (kz_ne (fun z => absurd (hb _ _ z) (show ¬ (0) = (k) by omega))).trans v_h00.2
  have r3 : kAl a f b2 (ky_up (ky_up g2 (b2 (k + 3)) (.inl (1, ky_z 1 60))) (b2 (k)) (.inr (2, [.ref (b2 (k + 1)), .ref (b2 (k + 2)), .ref (b2 (k + 3)), .null, .null, .null]))) (fun j => k ≤ j ∧ j ≤ k + 6) := kAl_tr rr (kAl_fr hb (kfr_up (S := fun j => j = k) hb kfr_rf rfl)) fun j hj => ⟨hj, by omega⟩
  have e3 := ee
  generalize (ky_up (ky_up g2 (b2 (k + 3)) (.inl (1, ky_z 1 60))) (b2 (k)) (.inr (2, [.ref (b2 (k + 1)), .ref (b2 (k + 2)), .ref (b2 (k + 3)), .null, .null, .null]))) = g3 at w0 d0 d1 d2 h00 r3 ⊢
  intro q hq
  obtain ⟨b3, hB, e⟩ := kI_sw (t := k + 4) r3.1 hq h00 (by omega) (.inl (1, ky_z 1 7))
  subst e
  have t0 := kAl_at hB (show ¬ (k) = (k + 4) by omega) w0
  have u0 := kAl_at hB (show ¬ (k + 1) = (k + 4) by omega) d0
  have u1 := kAl_at hB (show ¬ (k + 2) = (k + 4) by omega) d1
  have u2 := kAl_at hB (show ¬ (k + 3) = (k + 4) by omega) d2
  have v_h00 := kAl_at hB (show ¬ (0) = (k + 4) by omega) h00
  have hb := hB.1
  have rr : kAl a f b3 _ (fun j => k ≤ j ∧ j ≤ k + 6) := kAl_tr r3 hB fun j hj => ⟨hj, by omega⟩
  have ee : b3 (k) = a (k) := t0.1.trans e3
  simp only [← t0.1, ← v_h00.1]
  have t02 := t0.2
  rw [← u0.1, ← u1.1, ← u2.1] at t02
  repeat' (first | (refine ky_ok_stp rfl ?_; simp (disch := first | omega | assumption) only [ky_stp, ky_inv, ky_ldi, ky_ldl, ky_ldd, ky_lda, ky_cl2, ky_st1, ky_st2, ky_s1i, ky_s2i, ky_s1l, ky_s2l, ky_sli, ky_s1f, ky_s2f, ky_s1d, ky_s2d, ky_sr, ky_sai, ky_sasi, ky_sasl, ky_sasr, ky_svr, ky_sv, ky_sv2, ky_s1, ky_cs, ky_pop, ky_nth, ky_snt, ky_obj, ky_ari, ky_arl, ky_arr, ky_arn, ky_fv, ky_rcv, List.map_cons, List.map_nil, List.drop_succ_cons, List.drop_zero, Value.category, Nat.reduceAdd, Nat.reduceSub, true_and, and_true, true_or, or_true, reduceCtorEq, ite_true, ite_false, eq_self, Nat.reduceEqDiff, Nat.reduceLeDiff, nI_add, nI_1, nI_leI, nI_ltI, nI_eq, nI_clamp, kz_m1, kz_mn, kz_mn2, kz_n0, kz_0n, kz_0, kz_le0, kz_0lt, false_implies, true_implies, not_false_eq_true, not_true_eq_false, Nat.zero_le, kb_0, kz_10, kz_of, ky_sw, kz_mx, kz_mi, t02, kz_7, kz_60, kz_same, kz_uu, kz_6]) | (refine ⟨vp_in_nI (by omega) (by omega), ?_⟩) | (rw [if_neg (by decide)]; refine ⟨by decide, by decide, ?_⟩) | (refine ⟨by decide, by decide, ?_⟩) | (refine ⟨fun zc => ?_, fun zc => ?_⟩ <;> try (exfalso; omega)) | fail)
  have w0 : (ky_up (ky_up g3 (b3 (k + 4)) (.inl (1, ky_z 1 7))) (b3 (k)) (.inr (2, [.ref (b3 (k + 1)), .ref (b3 (k + 2)), .ref (b3 (k + 3)), .ref (b3 (k + 4)), .null, .null]))) (b3 (k)) = some (.inr (2, [.ref (b3 (k + 1)), .ref (b3 (k + 2)), .ref (b3 (k + 3)), .ref (b3 (k + 4)), .null, .null])) := kz_same
  have d0 : (ky_up (ky_up g3 (b3 (k + 4)) (.inl (1, ky_z 1 7))) (b3 (k)) (.inr (2, [.ref (b3 (k + 1)), .ref (b3 (k + 2)), .ref (b3 (k + 3)), .ref (b3 (k + 4)), .null, .null]))) (b3 (k + 1)) = some (.inl (1, ky_z 1 60)) := (kz_ne (fun z => absurd (hb _ _ z) (show ¬ (k + 1) = (k) by omega))).trans u0.2
  have d1 : (ky_up (ky_up g3 (b3 (k + 4)) (.inl (1, ky_z 1 7))) (b3 (k)) (.inr (2, [.ref (b3 (k + 1)), .ref (b3 (k + 2)), .ref (b3 (k + 3)), .ref (b3 (k + 4)), .null, .null]))) (b3 (k + 2)) = some (.inl (1, ky_z 1 60)) := (kz_ne (fun z => absurd (hb _ _ z) (show ¬ (k + 2) = (k) by omega))).trans u1.2
  have d2 : (ky_up (ky_up g3 (b3 (k + 4)) (.inl (1, ky_z 1 7))) (b3 (k)) (.inr (2, [.ref (b3 (k + 1)), .ref (b3 (k + 2)), .ref (b3 (k + 3)), .ref (b3 (k + 4)), .null, .null]))) (b3 (k + 3)) = some (.inl (1, ky_z 1 60)) := (kz_ne (fun z => absurd (hb _ _ z) (show ¬ (k + 3) = (k) by omega))).trans u2.2
  have d3 : (ky_up (ky_up g3 (b3 (k + 4)) (.inl (1, ky_z 1 7))) (b3 (k)) (.inr (2, [.ref (b3 (k + 1)), .ref (b3 (k + 2)), .ref (b3 (k + 3)), .ref (b3 (k + 4)), .null, .null]))) (b3 (k + 4)) = some (.inl (1, ky_z 1 7)) := (kz_ne (fun z => absurd (hb _ _ z) (show ¬ (k + 4) = (k) by omega))).trans kz_same
  have h00 : (ky_up (ky_up g3 (b3 (k + 4)) (.inl (1, ky_z 1 7))) (b3 (k)) (.inr (2, [.ref (b3 (k + 1)), .ref (b3 (k + 2)), .ref (b3 (k + 3)), .ref (b3 (k + 4)), .null, .null]))) (b3 (0)) = some (e00) := (kz_ne (fun z => absurd (hb _ _ z) (show ¬ (0) = (k) by omega))).trans v_h00.2
  have r4 : kAl a f b3 (ky_up (ky_up g3 (b3 (k + 4)) (.inl (1, ky_z 1 7))) (b3 (k)) (.inr (2, [.ref (b3 (k + 1)), .ref (b3 (k + 2)), .ref (b3 (k + 3)), .ref (b3 (k + 4)), .null, .null]))) (fun j => k ≤ j ∧ j ≤ k + 6) := kAl_tr rr (kAl_fr hb (kfr_up (S := fun j => j = k) hb kfr_rf rfl)) fun j hj => ⟨hj, by omega⟩
  have e4 := ee
  generalize (ky_up (ky_up g3 (b3 (k + 4)) (.inl (1, ky_z 1 7))) (b3 (k)) (.inr (2, [.ref (b3 (k + 1)), .ref (b3 (k + 2)), .ref (b3 (k + 3)), .ref (b3 (k + 4)), .null, .null]))) = g4 at w0 d0 d1 d2 d3 h00 r4 ⊢
  intro q hq
  obtain ⟨b4, hB, e⟩ := kI_sw (t := k + 5) r4.1 hq h00 (by omega) (.inl (1, ky_z 1 7))
  subst e
  have t0 := kAl_at hB (show ¬ (k) = (k + 5) by omega) w0
  have u0 := kAl_at hB (show ¬ (k + 1) = (k + 5) by omega) d0
  have u1 := kAl_at hB (show ¬ (k + 2) = (k + 5) by omega) d1
  have u2 := kAl_at hB (show ¬ (k + 3) = (k + 5) by omega) d2
  have u3 := kAl_at hB (show ¬ (k + 4) = (k + 5) by omega) d3
  have v_h00 := kAl_at hB (show ¬ (0) = (k + 5) by omega) h00
  have hb := hB.1
  have rr : kAl a f b4 _ (fun j => k ≤ j ∧ j ≤ k + 6) := kAl_tr r4 hB fun j hj => ⟨hj, by omega⟩
  have ee : b4 (k) = a (k) := t0.1.trans e4
  simp only [← t0.1, ← v_h00.1]
  have t02 := t0.2
  rw [← u0.1, ← u1.1, ← u2.1, ← u3.1] at t02
  repeat' (first | (refine ky_ok_stp rfl ?_; simp (disch := first | omega | assumption) only [ky_stp, ky_inv, ky_ldi, ky_ldl, ky_ldd, ky_lda, ky_cl2, ky_st1, ky_st2, ky_s1i, ky_s2i, ky_s1l, ky_s2l, ky_sli, ky_s1f, ky_s2f, ky_s1d, ky_s2d, ky_sr, ky_sai, ky_sasi, ky_sasl, ky_sasr, ky_svr, ky_sv, ky_sv2, ky_s1, ky_cs, ky_pop, ky_nth, ky_snt, ky_obj, ky_ari, ky_arl, ky_arr, ky_arn, ky_fv, ky_rcv, List.map_cons, List.map_nil, List.drop_succ_cons, List.drop_zero, Value.category, Nat.reduceAdd, Nat.reduceSub, true_and, and_true, true_or, or_true, reduceCtorEq, ite_true, ite_false, eq_self, Nat.reduceEqDiff, Nat.reduceLeDiff, nI_add, nI_1, nI_leI, nI_ltI, nI_eq, nI_clamp, kz_m1, kz_mn, kz_mn2, kz_n0, kz_0n, kz_0, kz_le0, kz_0lt, false_implies, true_implies, not_false_eq_true, not_true_eq_false, Nat.zero_le, kb_0, kz_10, kz_of, ky_sw, kz_mx, kz_mi, t02, kz_7, kz_60, kz_same, kz_uu, kz_6]) | (refine ⟨vp_in_nI (by omega) (by omega), ?_⟩) | (rw [if_neg (by decide)]; refine ⟨by decide, by decide, ?_⟩) | (refine ⟨by decide, by decide, ?_⟩) | (refine ⟨fun zc => ?_, fun zc => ?_⟩ <;> try (exfalso; omega)) | fail)
  have w0 : (ky_up (ky_up g4 (b4 (k + 5)) (.inl (1, ky_z 1 7))) (b4 (k)) (.inr (2, [.ref (b4 (k + 1)), .ref (b4 (k + 2)), .ref (b4 (k + 3)), .ref (b4 (k + 4)), .ref (b4 (k + 5)), .null]))) (b4 (k)) = some (.inr (2, [.ref (b4 (k + 1)), .ref (b4 (k + 2)), .ref (b4 (k + 3)), .ref (b4 (k + 4)), .ref (b4 (k + 5)), .null])) := kz_same
  have d0 : (ky_up (ky_up g4 (b4 (k + 5)) (.inl (1, ky_z 1 7))) (b4 (k)) (.inr (2, [.ref (b4 (k + 1)), .ref (b4 (k + 2)), .ref (b4 (k + 3)), .ref (b4 (k + 4)), .ref (b4 (k + 5)), .null]))) (b4 (k + 1)) = some (.inl (1, ky_z 1 60)) := (kz_ne (fun z => absurd (hb _ _ z) (show ¬ (k + 1) = (k) by omega))).trans u0.2
  have d1 : (ky_up (ky_up g4 (b4 (k + 5)) (.inl (1, ky_z 1 7))) (b4 (k)) (.inr (2, [.ref (b4 (k + 1)), .ref (b4 (k + 2)), .ref (b4 (k + 3)), .ref (b4 (k + 4)), .ref (b4 (k + 5)), .null]))) (b4 (k + 2)) = some (.inl (1, ky_z 1 60)) := (kz_ne (fun z => absurd (hb _ _ z) (show ¬ (k + 2) = (k) by omega))).trans u1.2
  have d2 : (ky_up (ky_up g4 (b4 (k + 5)) (.inl (1, ky_z 1 7))) (b4 (k)) (.inr (2, [.ref (b4 (k + 1)), .ref (b4 (k + 2)), .ref (b4 (k + 3)), .ref (b4 (k + 4)), .ref (b4 (k + 5)), .null]))) (b4 (k + 3)) = some (.inl (1, ky_z 1 60)) := (kz_ne (fun z => absurd (hb _ _ z) (show ¬ (k + 3) = (k) by omega))).trans u2.2
  have d3 : (ky_up (ky_up g4 (b4 (k + 5)) (.inl (1, ky_z 1 7))) (b4 (k)) (.inr (2, [.ref (b4 (k + 1)), .ref (b4 (k + 2)), .ref (b4 (k + 3)), .ref (b4 (k + 4)), .ref (b4 (k + 5)), .null]))) (b4 (k + 4)) = some (.inl (1, ky_z 1 7)) := (kz_ne (fun z => absurd (hb _ _ z) (show ¬ (k + 4) = (k) by omega))).trans u3.2
  have d4 : (ky_up (ky_up g4 (b4 (k + 5)) (.inl (1, ky_z 1 7))) (b4 (k)) (.inr (2, [.ref (b4 (k + 1)), .ref (b4 (k + 2)), .ref (b4 (k + 3)), .ref (b4 (k + 4)), .ref (b4 (k + 5)), .null]))) (b4 (k + 5)) = some (.inl (1, ky_z 1 7)) := (kz_ne (fun z => absurd (hb _ _ z) (show ¬ (k + 5) = (k) by omega))).trans kz_same
  have h00 : (ky_up (ky_up g4 (b4 (k + 5)) (.inl (1, ky_z 1 7))) (b4 (k)) (.inr (2, [.ref (b4 (k + 1)), .ref (b4 (k + 2)), .ref (b4 (k + 3)), .ref (b4 (k + 4)), .ref (b4 (k + 5)), .null]))) (b4 (0)) = some (e00) := (kz_ne (fun z => absurd (hb _ _ z) (show ¬ (0) = (k) by omega))).trans v_h00.2
  have r5 : kAl a f b4 (ky_up (ky_up g4 (b4 (k + 5)) (.inl (1, ky_z 1 7))) (b4 (k)) (.inr (2, [.ref (b4 (k + 1)), .ref (b4 (k + 2)), .ref (b4 (k + 3)), .ref (b4 (k + 4)), .ref (b4 (k + 5)), .null]))) (fun j => k ≤ j ∧ j ≤ k + 6) := kAl_tr rr (kAl_fr hb (kfr_up (S := fun j => j = k) hb kfr_rf rfl)) fun j hj => ⟨hj, by omega⟩
  have e5 := ee
  generalize (ky_up (ky_up g4 (b4 (k + 5)) (.inl (1, ky_z 1 7))) (b4 (k)) (.inr (2, [.ref (b4 (k + 1)), .ref (b4 (k + 2)), .ref (b4 (k + 3)), .ref (b4 (k + 4)), .ref (b4 (k + 5)), .null]))) = g5 at w0 d0 d1 d2 d3 d4 h00 r5 ⊢
  intro q hq
  obtain ⟨b5, hB, e⟩ := kI_sw (t := k + 6) r5.1 hq h00 (by omega) (.inl (1, ky_z 1 6))
  subst e
  have t0 := kAl_at hB (show ¬ (k) = (k + 6) by omega) w0
  have u0 := kAl_at hB (show ¬ (k + 1) = (k + 6) by omega) d0
  have u1 := kAl_at hB (show ¬ (k + 2) = (k + 6) by omega) d1
  have u2 := kAl_at hB (show ¬ (k + 3) = (k + 6) by omega) d2
  have u3 := kAl_at hB (show ¬ (k + 4) = (k + 6) by omega) d3
  have u4 := kAl_at hB (show ¬ (k + 5) = (k + 6) by omega) d4
  have v_h00 := kAl_at hB (show ¬ (0) = (k + 6) by omega) h00
  have hb := hB.1
  have rr : kAl a f b5 _ (fun j => k ≤ j ∧ j ≤ k + 6) := kAl_tr r5 hB fun j hj => ⟨hj, by omega⟩
  have ee : b5 (k) = a (k) := t0.1.trans e5
  simp only [← t0.1, ← v_h00.1]
  have t02 := t0.2
  rw [← u0.1, ← u1.1, ← u2.1, ← u3.1, ← u4.1] at t02
  repeat' (first | (refine ky_ok_stp rfl ?_; simp (disch := first | omega | assumption) only [ky_stp, ky_inv, ky_ldi, ky_ldl, ky_ldd, ky_lda, ky_cl2, ky_st1, ky_st2, ky_s1i, ky_s2i, ky_s1l, ky_s2l, ky_sli, ky_s1f, ky_s2f, ky_s1d, ky_s2d, ky_sr, ky_sai, ky_sasi, ky_sasl, ky_sasr, ky_svr, ky_sv, ky_sv2, ky_s1, ky_cs, ky_pop, ky_nth, ky_snt, ky_obj, ky_ari, ky_arl, ky_arr, ky_arn, ky_fv, ky_rcv, List.map_cons, List.map_nil, List.drop_succ_cons, List.drop_zero, Value.category, Nat.reduceAdd, Nat.reduceSub, true_and, and_true, true_or, or_true, reduceCtorEq, ite_true, ite_false, eq_self, Nat.reduceEqDiff, Nat.reduceLeDiff, nI_add, nI_1, nI_leI, nI_ltI, nI_eq, nI_clamp, kz_m1, kz_mn, kz_mn2, kz_n0, kz_0n, kz_0, kz_le0, kz_0lt, false_implies, true_implies, not_false_eq_true, not_true_eq_false, Nat.zero_le, kb_0, kz_10, kz_of, ky_sw, kz_mx, kz_mi, t02, kz_7, kz_60, kz_same, kz_uu, kz_6]) | (refine ⟨vp_in_nI (by omega) (by omega), ?_⟩) | (rw [if_neg (by decide)]; refine ⟨by decide, by decide, ?_⟩) | (refine ⟨by decide, by decide, ?_⟩) | (refine ⟨fun zc => ?_, fun zc => ?_⟩ <;> try (exfalso; omega)) | fail)
  have w0 : (ky_up (ky_up g5 (b5 (k + 6)) (.inl (1, ky_z 1 6))) (b5 (k)) (.inr (2, [.ref (b5 (k + 1)), .ref (b5 (k + 2)), .ref (b5 (k + 3)), .ref (b5 (k + 4)), .ref (b5 (k + 5)), .ref (b5 (k + 6))]))) (b5 (k)) = some (.inr (2, [.ref (b5 (k + 1)), .ref (b5 (k + 2)), .ref (b5 (k + 3)), .ref (b5 (k + 4)), .ref (b5 (k + 5)), .ref (b5 (k + 6))])) := kz_same
  have d0 : (ky_up (ky_up g5 (b5 (k + 6)) (.inl (1, ky_z 1 6))) (b5 (k)) (.inr (2, [.ref (b5 (k + 1)), .ref (b5 (k + 2)), .ref (b5 (k + 3)), .ref (b5 (k + 4)), .ref (b5 (k + 5)), .ref (b5 (k + 6))]))) (b5 (k + 1)) = some (.inl (1, ky_z 1 60)) := (kz_ne (fun z => absurd (hb _ _ z) (show ¬ (k + 1) = (k) by omega))).trans u0.2
  have d1 : (ky_up (ky_up g5 (b5 (k + 6)) (.inl (1, ky_z 1 6))) (b5 (k)) (.inr (2, [.ref (b5 (k + 1)), .ref (b5 (k + 2)), .ref (b5 (k + 3)), .ref (b5 (k + 4)), .ref (b5 (k + 5)), .ref (b5 (k + 6))]))) (b5 (k + 2)) = some (.inl (1, ky_z 1 60)) := (kz_ne (fun z => absurd (hb _ _ z) (show ¬ (k + 2) = (k) by omega))).trans u1.2
  have d2 : (ky_up (ky_up g5 (b5 (k + 6)) (.inl (1, ky_z 1 6))) (b5 (k)) (.inr (2, [.ref (b5 (k + 1)), .ref (b5 (k + 2)), .ref (b5 (k + 3)), .ref (b5 (k + 4)), .ref (b5 (k + 5)), .ref (b5 (k + 6))]))) (b5 (k + 3)) = some (.inl (1, ky_z 1 60)) := (kz_ne (fun z => absurd (hb _ _ z) (show ¬ (k + 3) = (k) by omega))).trans u2.2
  have d3 : (ky_up (ky_up g5 (b5 (k + 6)) (.inl (1, ky_z 1 6))) (b5 (k)) (.inr (2, [.ref (b5 (k + 1)), .ref (b5 (k + 2)), .ref (b5 (k + 3)), .ref (b5 (k + 4)), .ref (b5 (k + 5)), .ref (b5 (k + 6))]))) (b5 (k + 4)) = some (.inl (1, ky_z 1 7)) := (kz_ne (fun z => absurd (hb _ _ z) (show ¬ (k + 4) = (k) by omega))).trans u3.2
  have d4 : (ky_up (ky_up g5 (b5 (k + 6)) (.inl (1, ky_z 1 6))) (b5 (k)) (.inr (2, [.ref (b5 (k + 1)), .ref (b5 (k + 2)), .ref (b5 (k + 3)), .ref (b5 (k + 4)), .ref (b5 (k + 5)), .ref (b5 (k + 6))]))) (b5 (k + 5)) = some (.inl (1, ky_z 1 7)) := (kz_ne (fun z => absurd (hb _ _ z) (show ¬ (k + 5) = (k) by omega))).trans u4.2
  have d5 : (ky_up (ky_up g5 (b5 (k + 6)) (.inl (1, ky_z 1 6))) (b5 (k)) (.inr (2, [.ref (b5 (k + 1)), .ref (b5 (k + 2)), .ref (b5 (k + 3)), .ref (b5 (k + 4)), .ref (b5 (k + 5)), .ref (b5 (k + 6))]))) (b5 (k + 6)) = some (.inl (1, ky_z 1 6)) := (kz_ne (fun z => absurd (hb _ _ z) (show ¬ (k + 6) = (k) by omega))).trans kz_same
  have h00 : (ky_up (ky_up g5 (b5 (k + 6)) (.inl (1, ky_z 1 6))) (b5 (k)) (.inr (2, [.ref (b5 (k + 1)), .ref (b5 (k + 2)), .ref (b5 (k + 3)), .ref (b5 (k + 4)), .ref (b5 (k + 5)), .ref (b5 (k + 6))]))) (b5 (0)) = some (e00) := (kz_ne (fun z => absurd (hb _ _ z) (show ¬ (0) = (k) by omega))).trans v_h00.2
  have r6 : kAl a f b5 (ky_up (ky_up g5 (b5 (k + 6)) (.inl (1, ky_z 1 6))) (b5 (k)) (.inr (2, [.ref (b5 (k + 1)), .ref (b5 (k + 2)), .ref (b5 (k + 3)), .ref (b5 (k + 4)), .ref (b5 (k + 5)), .ref (b5 (k + 6))]))) (fun j => k ≤ j ∧ j ≤ k + 6) := kAl_tr rr (kAl_fr hb (kfr_up (S := fun j => j = k) hb kfr_rf rfl)) fun j hj => ⟨hj, by omega⟩
  have e6 := ee
  generalize (ky_up (ky_up g5 (b5 (k + 6)) (.inl (1, ky_z 1 6))) (b5 (k)) (.inr (2, [.ref (b5 (k + 1)), .ref (b5 (k + 2)), .ref (b5 (k + 3)), .ref (b5 (k + 4)), .ref (b5 (k + 5)), .ref (b5 (k + 6))]))) = g6 at w0 d0 d1 d2 d3 d4 d5 h00 r6 ⊢
  refine hQ b5 g6 r6 e6 ?_
  exact ⟨_, _, _, _, _, _, w0, d0, d1, d2, d3, d4, d5⟩
theorem kS_al {a' : Nat → Nat} {f' : ky_H} {k : Nat} {X : Nat → Prop} {S : Nat → Nat → Int32} (h : kS a k f S) (hA : kAl a f a' f' X) (hX : ∀ j, k + 1 ≤ j → j ≤ k + 5 → ¬ X j) : kS a' k f' S := by
  obtain ⟨s1, s2, s3, s4, s5, sb⟩ := h
  have e1 := kAl_at hA (hX (k + 1) (by omega) (by omega)) s1
  have e2 := kAl_at hA (hX (k + 2) (by omega) (by omega)) s2
  have e3 := kAl_at hA (hX (k + 3) (by omega) (by omega)) s3
  have e4 := kAl_at hA (hX (k + 4) (by omega) (by omega)) s4
  have e5 := kAl_at hA (hX (k + 5) (by omega) (by omega)) s5
  exact ⟨by rw [e1.2, e2.1, e3.1, e4.1, e5.1], e2.2, e3.2, e4.2, e5.2, sb⟩
theorem kx24 {e00 : ky_E} {k : Nat} (h00 : f (a 0) = some e00) (hk0 : 1 ≤ k) (ha : kI a) (h0 : f (a (k)) = some (.inr (3, [.int 0, .null, .null, .null, .null, .null, .null]))) (hQ : ∀ a' f', kAl a f a' f' (fun j => k ≤ j ∧ j ≤ k + 10) → a' (k) = a (k) → (∃ z, z.n = 0 ∧ kZb a' k f' z) → Q (.inl none) f') : ky_cl adK 24 [.ref (a (k))] f Q := by
  have r0 : kAl a f a f (fun j => k ≤ j ∧ j ≤ k + 10) := kAl_fr ha kfr_rf
  have e0 : a (k) = a (k) := rfl
  refine ⟨Nat.le_of_ble_eq_true rfl, fun _ => trivial, ?_⟩; show ky_ok adK 24 0 [some (.ref (a (k)))] [] f 0 0 _
  repeat' (first | (refine ky_ok_stp rfl ?_; simp (disch := first | omega | assumption) only [ky_stp, ky_inv, ky_ldi, ky_ldl, ky_ldd, ky_lda, ky_cl2, ky_st1, ky_st2, ky_s1i, ky_s2i, ky_s1l, ky_s2l, ky_sli, ky_s1f, ky_s2f, ky_s1d, ky_s2d, ky_sr, ky_sai, ky_sasi, ky_sasl, ky_sasr, ky_svr, ky_sv, ky_sv2, ky_s1, ky_cs, ky_pop, ky_nth, ky_snt, ky_obj, ky_ari, ky_arl, ky_arr, ky_arn, ky_fv, ky_rcv, List.map_cons, List.map_nil, List.drop_succ_cons, List.drop_zero, Value.category, Nat.reduceAdd, Nat.reduceSub, true_and, and_true, true_or, or_true, reduceCtorEq, ite_true, ite_false, eq_self, Nat.reduceEqDiff, Nat.reduceLeDiff, nI_add, nI_1, nI_leI, nI_ltI, nI_eq, nI_clamp, kz_m1, kz_mn, kz_mn2, kz_n0, kz_0n, kz_0, kz_le0, kz_0lt, false_implies, true_implies, not_false_eq_true, not_true_eq_false, Nat.zero_le, kb_0, kz_10, kz_of, ky_sw, kz_mx, kz_mi, h0, kz_7, kz_60, kz_same, kz_uu, show (ky_GG adK).2.2.getD 6 [] = [.null, .null, .null, .null] from rfl]) | (refine ⟨vp_in_nI (by omega) (by omega), ?_⟩) | (rw [if_neg (by decide)]; refine ⟨by decide, by decide, ?_⟩) | (refine ⟨by decide, by decide, ?_⟩) | (refine ⟨fun zc => ?_, fun zc => ?_⟩ <;> try (exfalso; omega)) | fail)
  have h0 : (ky_up f (a (k)) (.inr (3, [.int 0, .null, .null, .null, .null, .null, .null]))) (a (k)) = some (.inr (3, [.int 0, .null, .null, .null, .null, .null, .null])) := kz_same
  have r0 : kAl a f a (ky_up f (a (k)) (.inr (3, [.int 0, .null, .null, .null, .null, .null, .null]))) (fun j => k ≤ j ∧ j ≤ k + 10) := kAl_fr ha (kfr_up ha kfr_rf (by omega))
  have h00 : (ky_up f (a (k)) (.inr (3, [.int 0, .null, .null, .null, .null, .null, .null]))) (a (0)) = some (e00) := (kz_ne (fun z => absurd (ha _ _ z) (by omega))).trans h00
  generalize (ky_up f (a (k)) (.inr (3, [.int 0, .null, .null, .null, .null, .null, .null]))) = g0 at h0 r0 h00 ⊢
  intro q hq
  obtain ⟨b0, hB, e⟩ := kI_sw (t := k + 1) r0.1 hq h00 (by omega) (.inr (6, [.null, .null, .null, .null]))
  subst e
  have t0 := kAl_at hB (show ¬ (k) = (k + 1) by omega) h0
  have v_h00 := kAl_at hB (show ¬ (0) = (k + 1) by omega) h00
  have hb := hB.1
  have rr : kAl a f b0 _ (fun j => k ≤ j ∧ j ≤ k + 10) := kAl_tr r0 hB fun j hj => ⟨hj, by omega⟩
  have ee : b0 (k) = a (k) := t0.1.trans e0
  simp only [← t0.1, ← v_h00.1]
  have t02 := t0.2
  repeat' (first | (refine kx66 (k := k) v_h00.2 hb kz_same ?_) | (refine ky_ok_stp rfl ?_; simp (disch := first | omega | assumption) only [ky_stp, ky_inv, ky_ldi, ky_ldl, ky_ldd, ky_lda, ky_cl2, ky_st1, ky_st2, ky_s1i, ky_s2i, ky_s1l, ky_s2l, ky_sli, ky_s1f, ky_s2f, ky_s1d, ky_s2d, ky_sr, ky_sai, ky_sasi, ky_sasl, ky_sasr, ky_svr, ky_sv, ky_sv2, ky_s1, ky_cs, ky_pop, ky_nth, ky_snt, ky_obj, ky_ari, ky_arl, ky_arr, ky_arn, ky_fv, ky_rcv, List.map_cons, List.map_nil, List.drop_succ_cons, List.drop_zero, Value.category, Nat.reduceAdd, Nat.reduceSub, true_and, and_true, true_or, or_true, reduceCtorEq, ite_true, ite_false, eq_self, Nat.reduceEqDiff, Nat.reduceLeDiff, nI_add, nI_1, nI_leI, nI_ltI, nI_eq, nI_clamp, kz_m1, kz_mn, kz_mn2, kz_n0, kz_0n, kz_0, kz_le0, kz_0lt, false_implies, true_implies, not_false_eq_true, not_true_eq_false, Nat.zero_le, kb_0, kz_10, kz_of, ky_sw, kz_mx, kz_mi, t02, kz_7, kz_60, kz_same, kz_uu, show (ky_GG adK).2.2.getD 6 [] = [.null, .null, .null, .null] from rfl]) | (refine ⟨vp_in_nI (by omega) (by omega), ?_⟩) | (rw [if_neg (by decide)]; refine ⟨by decide, by decide, ?_⟩) | (refine ⟨by decide, by decide, ?_⟩) | (refine ⟨fun zc => ?_, fun zc => ?_⟩ <;> try (exfalso; omega)) | fail)
  intro c0 y0 hC hCk hCS
  simp only [ky_aft, ky_vl, Nat.reduceAdd]
  have t0 := kAl_at hC (show ¬ (k + 1 ≤ (k) ∧ (k) ≤ k + 5) by omega) t02
  have v_h00 := kAl_at hC (show ¬ (k + 1 ≤ (0) ∧ (0) ≤ k + 5) by omega) v_h00.2
  have hb := hC.1
  have rr : kAl a f c0 _ (fun j => k ≤ j ∧ j ≤ k + 10) := kAl_tr rr hC fun j hj => ⟨hj, by omega⟩
  have ee : c0 (k) = a (k) := t0.1.trans ee
  rw [← t0.1, ← hCk]
  have t02 := t0.2
  repeat' (first | (refine ky_ok_stp rfl ?_; simp (disch := first | omega | assumption) only [ky_stp, ky_inv, ky_ldi, ky_ldl, ky_ldd, ky_lda, ky_cl2, ky_st1, ky_st2, ky_s1i, ky_s2i, ky_s1l, ky_s2l, ky_sli, ky_s1f, ky_s2f, ky_s1d, ky_s2d, ky_sr, ky_sai, ky_sasi, ky_sasl, ky_sasr, ky_svr, ky_sv, ky_sv2, ky_s1, ky_cs, ky_pop, ky_nth, ky_snt, ky_obj, ky_ari, ky_arl, ky_arr, ky_arn, ky_fv, ky_rcv, List.map_cons, List.map_nil, List.drop_succ_cons, List.drop_zero, Value.category, Nat.reduceAdd, Nat.reduceSub, true_and, and_true, true_or, or_true, reduceCtorEq, ite_true, ite_false, eq_self, Nat.reduceEqDiff, Nat.reduceLeDiff, nI_add, nI_1, nI_leI, nI_ltI, nI_eq, nI_clamp, kz_m1, kz_mn, kz_mn2, kz_n0, kz_0n, kz_0, kz_le0, kz_0lt, false_implies, true_implies, not_false_eq_true, not_true_eq_false, Nat.zero_le, kb_0, kz_10, kz_of, ky_sw, kz_mx, kz_mi, t02, kz_7, kz_60, kz_same, kz_uu, show (ky_GG adK).2.2.getD 6 [] = [.null, .null, .null, .null] from rfl]) | (refine ⟨vp_in_nI (by omega) (by omega), ?_⟩) | (rw [if_neg (by decide)]; refine ⟨by decide, by decide, ?_⟩) | (refine ⟨by decide, by decide, ?_⟩) | (refine ⟨fun zc => ?_, fun zc => ?_⟩ <;> try (exfalso; omega)) | fail)
  have w0 : (ky_up y0 (c0 (k)) (.inr (3, [.int 0, .ref (c0 (k + 1)), .null, .null, .null, .null, .null]))) (c0 (k)) = some (.inr (3, [.int 0, .ref (c0 (k + 1)), .null, .null, .null, .null, .null])) := kz_same
  obtain ⟨S0, hS0⟩ := hCS
  have hS1 : kS c0 k (ky_up y0 (c0 (k)) (.inr (3, [.int 0, .ref (c0 (k + 1)), .null, .null, .null, .null, .null]))) S0 := kS_fr hS0 fun j z1 z2 => kz_ne fun z => absurd (hb _ _ z) (by omega)
  have h00 : (ky_up y0 (c0 (k)) (.inr (3, [.int 0, .ref (c0 (k + 1)), .null, .null, .null, .null, .null]))) (c0 (0)) = some (e00) := (kz_ne (fun z => absurd (hb _ _ z) (show ¬ (0) = (k) by omega))).trans v_h00.2
  have r1 : kAl a f c0 (ky_up y0 (c0 (k)) (.inr (3, [.int 0, .ref (c0 (k + 1)), .null, .null, .null, .null, .null]))) (fun j => k ≤ j ∧ j ≤ k + 10) := kAl_tr rr (kAl_fr hb (kfr_up (S := fun j => j = k) hb kfr_rf rfl)) fun j hj => ⟨hj, by omega⟩
  have e1 := ee
  generalize (ky_up y0 (c0 (k)) (.inr (3, [.int 0, .ref (c0 (k + 1)), .null, .null, .null, .null, .null]))) = g1 at w0 hS1 h00 r1 ⊢
  intro q hq
  obtain ⟨b1, hB, e⟩ := kI_sw (t := k + 6) r1.1 hq h00 (by omega) (.inl (2, ky_z 2 60))
  subst e
  have t0 := kAl_at hB (show ¬ (k) = (k + 6) by omega) w0
  have v_h00 := kAl_at hB (show ¬ (0) = (k + 6) by omega) h00
  have hb := hB.1
  have hS2 : kS b1 k _ S0 := kS_al hS1 hB (fun j z1 z2 => by omega)
  have rr : kAl a f b1 _ (fun j => k ≤ j ∧ j ≤ k + 10) := kAl_tr r1 hB fun j hj => ⟨hj, by omega⟩
  have ee : b1 (k) = a (k) := t0.1.trans e1
  simp only [← t0.1, ← v_h00.1]
  have t02 := t0.2
  have us := kAl_at hB (show ¬ (k + 1) = (k + 6) by omega) hS1.1
  rw [← us.1] at t02
  repeat' (first | (refine ky_ok_stp rfl ?_; simp (disch := first | omega | assumption) only [ky_stp, ky_inv, ky_ldi, ky_ldl, ky_ldd, ky_lda, ky_cl2, ky_st1, ky_st2, ky_s1i, ky_s2i, ky_s1l, ky_s2l, ky_sli, ky_s1f, ky_s2f, ky_s1d, ky_s2d, ky_sr, ky_sai, ky_sasi, ky_sasl, ky_sasr, ky_svr, ky_sv, ky_sv2, ky_s1, ky_cs, ky_pop, ky_nth, ky_snt, ky_obj, ky_ari, ky_arl, ky_arr, ky_arn, ky_fv, ky_rcv, List.map_cons, List.map_nil, List.drop_succ_cons, List.drop_zero, Value.category, Nat.reduceAdd, Nat.reduceSub, true_and, and_true, true_or, or_true, reduceCtorEq, ite_true, ite_false, eq_self, Nat.reduceEqDiff, Nat.reduceLeDiff, nI_add, nI_1, nI_leI, nI_ltI, nI_eq, nI_clamp, kz_m1, kz_mn, kz_mn2, kz_n0, kz_0n, kz_0, kz_le0, kz_0lt, false_implies, true_implies, not_false_eq_true, not_true_eq_false, Nat.zero_le, kb_0, kz_10, kz_of, ky_sw, kz_mx, kz_mi, t02, kz_7, kz_60, kz_same, kz_uu, show (ky_GG adK).2.2.getD 6 [] = [.null, .null, .null, .null] from rfl]) | (refine ⟨vp_in_nI (by omega) (by omega), ?_⟩) | (rw [if_neg (by decide)]; refine ⟨by decide, by decide, ?_⟩) | (refine ⟨by decide, by decide, ?_⟩) | (refine ⟨fun zc => ?_, fun zc => ?_⟩ <;> try (exfalso; omega)) | fail)
  have w0 : (ky_up (ky_up g1 (b1 (k + 6)) (.inl (2, ky_z 2 60))) (b1 (k)) (.inr (3, [.int 0, .ref (b1 (k + 1)), .ref (b1 (k + 6)), .null, .null, .null, .null]))) (b1 (k)) = some (.inr (3, [.int 0, .ref (b1 (k + 1)), .ref (b1 (k + 6)), .null, .null, .null, .null])) := kz_same
  have d0 : (ky_up (ky_up g1 (b1 (k + 6)) (.inl (2, ky_z 2 60))) (b1 (k)) (.inr (3, [.int 0, .ref (b1 (k + 1)), .ref (b1 (k + 6)), .null, .null, .null, .null]))) (b1 (k + 6)) = some (.inl (2, ky_z 2 60)) := (kz_ne (fun z => absurd (hb _ _ z) (show ¬ (k + 6) = (k) by omega))).trans kz_same
  have h00 : (ky_up (ky_up g1 (b1 (k + 6)) (.inl (2, ky_z 2 60))) (b1 (k)) (.inr (3, [.int 0, .ref (b1 (k + 1)), .ref (b1 (k + 6)), .null, .null, .null, .null]))) (b1 (0)) = some (e00) := (kz_ne (fun z => absurd (hb _ _ z) (show ¬ (0) = (k) by omega))).trans v_h00.2
  have r2 : kAl a f b1 (ky_up (ky_up g1 (b1 (k + 6)) (.inl (2, ky_z 2 60))) (b1 (k)) (.inr (3, [.int 0, .ref (b1 (k + 1)), .ref (b1 (k + 6)), .null, .null, .null, .null]))) (fun j => k ≤ j ∧ j ≤ k + 10) := kAl_tr rr (kAl_fr hb (kfr_up (S := fun j => j = k) hb kfr_rf rfl)) fun j hj => ⟨hj, by omega⟩
  have e2 := ee
  have hS1 : kS b1 k (ky_up (ky_up g1 (b1 (k + 6)) (.inl (2, ky_z 2 60))) (b1 (k)) (.inr (3, [.int 0, .ref (b1 (k + 1)), .ref (b1 (k + 6)), .null, .null, .null, .null]))) S0 := kS_fr hS2 fun j z1 z2 => kz_ne fun z => absurd (hb _ _ z) (by omega)
  generalize (ky_up (ky_up g1 (b1 (k + 6)) (.inl (2, ky_z 2 60))) (b1 (k)) (.inr (3, [.int 0, .ref (b1 (k + 1)), .ref (b1 (k + 6)), .null, .null, .null, .null]))) = g2 at hS1 w0 d0 h00 r2 ⊢
  intro q hq
  obtain ⟨b2, hB, e⟩ := kI_sw (t := k + 7) r2.1 hq h00 (by omega) (.inl (1, ky_z 1 60))
  subst e
  have t0 := kAl_at hB (show ¬ (k) = (k + 7) by omega) w0
  have u0 := kAl_at hB (show ¬ (k + 6) = (k + 7) by omega) d0
  have v_h00 := kAl_at hB (show ¬ (0) = (k + 7) by omega) h00
  have hb := hB.1
  have hS2 : kS b2 k _ S0 := kS_al hS1 hB (fun j z1 z2 => by omega)
  have rr : kAl a f b2 _ (fun j => k ≤ j ∧ j ≤ k + 10) := kAl_tr r2 hB fun j hj => ⟨hj, by omega⟩
  have ee : b2 (k) = a (k) := t0.1.trans e2
  simp only [← t0.1, ← v_h00.1]
  have t02 := t0.2
  have us := kAl_at hB (show ¬ (k + 1) = (k + 7) by omega) hS1.1
  rw [← us.1] at t02
  rw [← u0.1] at t02
  repeat' (first | (refine ky_ok_stp rfl ?_; simp (disch := first | omega | assumption) only [ky_stp, ky_inv, ky_ldi, ky_ldl, ky_ldd, ky_lda, ky_cl2, ky_st1, ky_st2, ky_s1i, ky_s2i, ky_s1l, ky_s2l, ky_sli, ky_s1f, ky_s2f, ky_s1d, ky_s2d, ky_sr, ky_sai, ky_sasi, ky_sasl, ky_sasr, ky_svr, ky_sv, ky_sv2, ky_s1, ky_cs, ky_pop, ky_nth, ky_snt, ky_obj, ky_ari, ky_arl, ky_arr, ky_arn, ky_fv, ky_rcv, List.map_cons, List.map_nil, List.drop_succ_cons, List.drop_zero, Value.category, Nat.reduceAdd, Nat.reduceSub, true_and, and_true, true_or, or_true, reduceCtorEq, ite_true, ite_false, eq_self, Nat.reduceEqDiff, Nat.reduceLeDiff, nI_add, nI_1, nI_leI, nI_ltI, nI_eq, nI_clamp, kz_m1, kz_mn, kz_mn2, kz_n0, kz_0n, kz_0, kz_le0, kz_0lt, false_implies, true_implies, not_false_eq_true, not_true_eq_false, Nat.zero_le, kb_0, kz_10, kz_of, ky_sw, kz_mx, kz_mi, t02, kz_7, kz_60, kz_same, kz_uu, show (ky_GG adK).2.2.getD 6 [] = [.null, .null, .null, .null] from rfl]) | (refine ⟨vp_in_nI (by omega) (by omega), ?_⟩) | (rw [if_neg (by decide)]; refine ⟨by decide, by decide, ?_⟩) | (refine ⟨by decide, by decide, ?_⟩) | (refine ⟨fun zc => ?_, fun zc => ?_⟩ <;> try (exfalso; omega)) | fail)
  have w0 : (ky_up (ky_up g2 (b2 (k + 7)) (.inl (1, ky_z 1 60))) (b2 (k)) (.inr (3, [.int 0, .ref (b2 (k + 1)), .ref (b2 (k + 6)), .ref (b2 (k + 7)), .null, .null, .null]))) (b2 (k)) = some (.inr (3, [.int 0, .ref (b2 (k + 1)), .ref (b2 (k + 6)), .ref (b2 (k + 7)), .null, .null, .null])) := kz_same
  have d0 : (ky_up (ky_up g2 (b2 (k + 7)) (.inl (1, ky_z 1 60))) (b2 (k)) (.inr (3, [.int 0, .ref (b2 (k + 1)), .ref (b2 (k + 6)), .ref (b2 (k + 7)), .null, .null, .null]))) (b2 (k + 6)) = some (.inl (2, ky_z 2 60)) := (kz_ne (fun z => absurd (hb _ _ z) (show ¬ (k + 6) = (k) by omega))).trans u0.2
  have d1 : (ky_up (ky_up g2 (b2 (k + 7)) (.inl (1, ky_z 1 60))) (b2 (k)) (.inr (3, [.int 0, .ref (b2 (k + 1)), .ref (b2 (k + 6)), .ref (b2 (k + 7)), .null, .null, .null]))) (b2 (k + 7)) = some (.inl (1, ky_z 1 60)) := (kz_ne (fun z => absurd (hb _ _ z) (show ¬ (k + 7) = (k) by omega))).trans kz_same
  have h00 : (ky_up (ky_up g2 (b2 (k + 7)) (.inl (1, ky_z 1 60))) (b2 (k)) (.inr (3, [.int 0, .ref (b2 (k + 1)), .ref (b2 (k + 6)), .ref (b2 (k + 7)), .null, .null, .null]))) (b2 (0)) = some (e00) := (kz_ne (fun z => absurd (hb _ _ z) (show ¬ (0) = (k) by omega))).trans v_h00.2
  have r3 : kAl a f b2 (ky_up (ky_up g2 (b2 (k + 7)) (.inl (1, ky_z 1 60))) (b2 (k)) (.inr (3, [.int 0, .ref (b2 (k + 1)), .ref (b2 (k + 6)), .ref (b2 (k + 7)), .null, .null, .null]))) (fun j => k ≤ j ∧ j ≤ k + 10) := kAl_tr rr (kAl_fr hb (kfr_up (S := fun j => j = k) hb kfr_rf rfl)) fun j hj => ⟨hj, by omega⟩
  have e3 := ee
  have hS1 : kS b2 k (ky_up (ky_up g2 (b2 (k + 7)) (.inl (1, ky_z 1 60))) (b2 (k)) (.inr (3, [.int 0, .ref (b2 (k + 1)), .ref (b2 (k + 6)), .ref (b2 (k + 7)), .null, .null, .null]))) S0 := kS_fr hS2 fun j z1 z2 => kz_ne fun z => absurd (hb _ _ z) (by omega)
  generalize (ky_up (ky_up g2 (b2 (k + 7)) (.inl (1, ky_z 1 60))) (b2 (k)) (.inr (3, [.int 0, .ref (b2 (k + 1)), .ref (b2 (k + 6)), .ref (b2 (k + 7)), .null, .null, .null]))) = g3 at hS1 w0 d0 d1 h00 r3 ⊢
  intro q hq
  obtain ⟨b3, hB, e⟩ := kI_sw (t := k + 8) r3.1 hq h00 (by omega) (.inl (3, ky_z 3 60))
  subst e
  have t0 := kAl_at hB (show ¬ (k) = (k + 8) by omega) w0
  have u0 := kAl_at hB (show ¬ (k + 6) = (k + 8) by omega) d0
  have u1 := kAl_at hB (show ¬ (k + 7) = (k + 8) by omega) d1
  have v_h00 := kAl_at hB (show ¬ (0) = (k + 8) by omega) h00
  have hb := hB.1
  have hS2 : kS b3 k _ S0 := kS_al hS1 hB (fun j z1 z2 => by omega)
  have rr : kAl a f b3 _ (fun j => k ≤ j ∧ j ≤ k + 10) := kAl_tr r3 hB fun j hj => ⟨hj, by omega⟩
  have ee : b3 (k) = a (k) := t0.1.trans e3
  simp only [← t0.1, ← v_h00.1]
  have t02 := t0.2
  have us := kAl_at hB (show ¬ (k + 1) = (k + 8) by omega) hS1.1
  rw [← us.1] at t02
  rw [← u0.1, ← u1.1] at t02
  repeat' (first | (refine ky_ok_stp rfl ?_; simp (disch := first | omega | assumption) only [ky_stp, ky_inv, ky_ldi, ky_ldl, ky_ldd, ky_lda, ky_cl2, ky_st1, ky_st2, ky_s1i, ky_s2i, ky_s1l, ky_s2l, ky_sli, ky_s1f, ky_s2f, ky_s1d, ky_s2d, ky_sr, ky_sai, ky_sasi, ky_sasl, ky_sasr, ky_svr, ky_sv, ky_sv2, ky_s1, ky_cs, ky_pop, ky_nth, ky_snt, ky_obj, ky_ari, ky_arl, ky_arr, ky_arn, ky_fv, ky_rcv, List.map_cons, List.map_nil, List.drop_succ_cons, List.drop_zero, Value.category, Nat.reduceAdd, Nat.reduceSub, true_and, and_true, true_or, or_true, reduceCtorEq, ite_true, ite_false, eq_self, Nat.reduceEqDiff, Nat.reduceLeDiff, nI_add, nI_1, nI_leI, nI_ltI, nI_eq, nI_clamp, kz_m1, kz_mn, kz_mn2, kz_n0, kz_0n, kz_0, kz_le0, kz_0lt, false_implies, true_implies, not_false_eq_true, not_true_eq_false, Nat.zero_le, kb_0, kz_10, kz_of, ky_sw, kz_mx, kz_mi, t02, kz_7, kz_60, kz_same, kz_uu, show (ky_GG adK).2.2.getD 6 [] = [.null, .null, .null, .null] from rfl]) | (refine ⟨vp_in_nI (by omega) (by omega), ?_⟩) | (rw [if_neg (by decide)]; refine ⟨by decide, by decide, ?_⟩) | (refine ⟨by decide, by decide, ?_⟩) | (refine ⟨fun zc => ?_, fun zc => ?_⟩ <;> try (exfalso; omega)) | fail)
  have w0 : (ky_up (ky_up g3 (b3 (k + 8)) (.inl (3, ky_z 3 60))) (b3 (k)) (.inr (3, [.int 0, .ref (b3 (k + 1)), .ref (b3 (k + 6)), .ref (b3 (k + 7)), .ref (b3 (k + 8)), .null, .null]))) (b3 (k)) = some (.inr (3, [.int 0, .ref (b3 (k + 1)), .ref (b3 (k + 6)), .ref (b3 (k + 7)), .ref (b3 (k + 8)), .null, .null])) := kz_same
  have d0 : (ky_up (ky_up g3 (b3 (k + 8)) (.inl (3, ky_z 3 60))) (b3 (k)) (.inr (3, [.int 0, .ref (b3 (k + 1)), .ref (b3 (k + 6)), .ref (b3 (k + 7)), .ref (b3 (k + 8)), .null, .null]))) (b3 (k + 6)) = some (.inl (2, ky_z 2 60)) := (kz_ne (fun z => absurd (hb _ _ z) (show ¬ (k + 6) = (k) by omega))).trans u0.2
  have d1 : (ky_up (ky_up g3 (b3 (k + 8)) (.inl (3, ky_z 3 60))) (b3 (k)) (.inr (3, [.int 0, .ref (b3 (k + 1)), .ref (b3 (k + 6)), .ref (b3 (k + 7)), .ref (b3 (k + 8)), .null, .null]))) (b3 (k + 7)) = some (.inl (1, ky_z 1 60)) := (kz_ne (fun z => absurd (hb _ _ z) (show ¬ (k + 7) = (k) by omega))).trans u1.2
  have d2 : (ky_up (ky_up g3 (b3 (k + 8)) (.inl (3, ky_z 3 60))) (b3 (k)) (.inr (3, [.int 0, .ref (b3 (k + 1)), .ref (b3 (k + 6)), .ref (b3 (k + 7)), .ref (b3 (k + 8)), .null, .null]))) (b3 (k + 8)) = some (.inl (3, ky_z 3 60)) := (kz_ne (fun z => absurd (hb _ _ z) (show ¬ (k + 8) = (k) by omega))).trans kz_same
  have h00 : (ky_up (ky_up g3 (b3 (k + 8)) (.inl (3, ky_z 3 60))) (b3 (k)) (.inr (3, [.int 0, .ref (b3 (k + 1)), .ref (b3 (k + 6)), .ref (b3 (k + 7)), .ref (b3 (k + 8)), .null, .null]))) (b3 (0)) = some (e00) := (kz_ne (fun z => absurd (hb _ _ z) (show ¬ (0) = (k) by omega))).trans v_h00.2
  have r4 : kAl a f b3 (ky_up (ky_up g3 (b3 (k + 8)) (.inl (3, ky_z 3 60))) (b3 (k)) (.inr (3, [.int 0, .ref (b3 (k + 1)), .ref (b3 (k + 6)), .ref (b3 (k + 7)), .ref (b3 (k + 8)), .null, .null]))) (fun j => k ≤ j ∧ j ≤ k + 10) := kAl_tr rr (kAl_fr hb (kfr_up (S := fun j => j = k) hb kfr_rf rfl)) fun j hj => ⟨hj, by omega⟩
  have e4 := ee
  have hS1 : kS b3 k (ky_up (ky_up g3 (b3 (k + 8)) (.inl (3, ky_z 3 60))) (b3 (k)) (.inr (3, [.int 0, .ref (b3 (k + 1)), .ref (b3 (k + 6)), .ref (b3 (k + 7)), .ref (b3 (k + 8)), .null, .null]))) S0 := kS_fr hS2 fun j z1 z2 => kz_ne fun z => absurd (hb _ _ z) (by omega)
  generalize (ky_up (ky_up g3 (b3 (k + 8)) (.inl (3, ky_z 3 60))) (b3 (k)) (.inr (3, [.int 0, .ref (b3 (k + 1)), .ref (b3 (k + 6)), .ref (b3 (k + 7)), .ref (b3 (k + 8)), .null, .null]))) = g4 at hS1 w0 d0 d1 d2 h00 r4 ⊢
  intro q hq
  obtain ⟨b4, hB, e⟩ := kI_sw (t := k + 9) r4.1 hq h00 (by omega) (.inl (3, ky_z 3 60))
  subst e
  have t0 := kAl_at hB (show ¬ (k) = (k + 9) by omega) w0
  have u0 := kAl_at hB (show ¬ (k + 6) = (k + 9) by omega) d0
  have u1 := kAl_at hB (show ¬ (k + 7) = (k + 9) by omega) d1
  have u2 := kAl_at hB (show ¬ (k + 8) = (k + 9) by omega) d2
  have v_h00 := kAl_at hB (show ¬ (0) = (k + 9) by omega) h00
  have hb := hB.1
  have hS2 : kS b4 k _ S0 := kS_al hS1 hB (fun j z1 z2 => by omega)
  have rr : kAl a f b4 _ (fun j => k ≤ j ∧ j ≤ k + 10) := kAl_tr r4 hB fun j hj => ⟨hj, by omega⟩
  have ee : b4 (k) = a (k) := t0.1.trans e4
  simp only [← t0.1, ← v_h00.1]
  have t02 := t0.2
  have us := kAl_at hB (show ¬ (k + 1) = (k + 9) by omega) hS1.1
  rw [← us.1] at t02
  rw [← u0.1, ← u1.1, ← u2.1] at t02
  repeat' (first | (refine ky_ok_stp rfl ?_; simp (disch := first | omega | assumption) only [ky_stp, ky_inv, ky_ldi, ky_ldl, ky_ldd, ky_lda, ky_cl2, ky_st1, ky_st2, ky_s1i, ky_s2i, ky_s1l, ky_s2l, ky_sli, ky_s1f, ky_s2f, ky_s1d, ky_s2d, ky_sr, ky_sai, ky_sasi, ky_sasl, ky_sasr, ky_svr, ky_sv, ky_sv2, ky_s1, ky_cs, ky_pop, ky_nth, ky_snt, ky_obj, ky_ari, ky_arl, ky_arr, ky_arn, ky_fv, ky_rcv, List.map_cons, List.map_nil, List.drop_succ_cons, List.drop_zero, Value.category, Nat.reduceAdd, Nat.reduceSub, true_and, and_true, true_or, or_true, reduceCtorEq, ite_true, ite_false, eq_self, Nat.reduceEqDiff, Nat.reduceLeDiff, nI_add, nI_1, nI_leI, nI_ltI, nI_eq, nI_clamp, kz_m1, kz_mn, kz_mn2, kz_n0, kz_0n, kz_0, kz_le0, kz_0lt, false_implies, true_implies, not_false_eq_true, not_true_eq_false, Nat.zero_le, kb_0, kz_10, kz_of, ky_sw, kz_mx, kz_mi, t02, kz_7, kz_60, kz_same, kz_uu, show (ky_GG adK).2.2.getD 6 [] = [.null, .null, .null, .null] from rfl]) | (refine ⟨vp_in_nI (by omega) (by omega), ?_⟩) | (rw [if_neg (by decide)]; refine ⟨by decide, by decide, ?_⟩) | (refine ⟨by decide, by decide, ?_⟩) | (refine ⟨fun zc => ?_, fun zc => ?_⟩ <;> try (exfalso; omega)) | fail)
  have w0 : (ky_up (ky_up g4 (b4 (k + 9)) (.inl (3, ky_z 3 60))) (b4 (k)) (.inr (3, [.int 0, .ref (b4 (k + 1)), .ref (b4 (k + 6)), .ref (b4 (k + 7)), .ref (b4 (k + 8)), .ref (b4 (k + 9)), .null]))) (b4 (k)) = some (.inr (3, [.int 0, .ref (b4 (k + 1)), .ref (b4 (k + 6)), .ref (b4 (k + 7)), .ref (b4 (k + 8)), .ref (b4 (k + 9)), .null])) := kz_same
  have d0 : (ky_up (ky_up g4 (b4 (k + 9)) (.inl (3, ky_z 3 60))) (b4 (k)) (.inr (3, [.int 0, .ref (b4 (k + 1)), .ref (b4 (k + 6)), .ref (b4 (k + 7)), .ref (b4 (k + 8)), .ref (b4 (k + 9)), .null]))) (b4 (k + 6)) = some (.inl (2, ky_z 2 60)) := (kz_ne (fun z => absurd (hb _ _ z) (show ¬ (k + 6) = (k) by omega))).trans u0.2
  have d1 : (ky_up (ky_up g4 (b4 (k + 9)) (.inl (3, ky_z 3 60))) (b4 (k)) (.inr (3, [.int 0, .ref (b4 (k + 1)), .ref (b4 (k + 6)), .ref (b4 (k + 7)), .ref (b4 (k + 8)), .ref (b4 (k + 9)), .null]))) (b4 (k + 7)) = some (.inl (1, ky_z 1 60)) := (kz_ne (fun z => absurd (hb _ _ z) (show ¬ (k + 7) = (k) by omega))).trans u1.2
  have d2 : (ky_up (ky_up g4 (b4 (k + 9)) (.inl (3, ky_z 3 60))) (b4 (k)) (.inr (3, [.int 0, .ref (b4 (k + 1)), .ref (b4 (k + 6)), .ref (b4 (k + 7)), .ref (b4 (k + 8)), .ref (b4 (k + 9)), .null]))) (b4 (k + 8)) = some (.inl (3, ky_z 3 60)) := (kz_ne (fun z => absurd (hb _ _ z) (show ¬ (k + 8) = (k) by omega))).trans u2.2
  have d3 : (ky_up (ky_up g4 (b4 (k + 9)) (.inl (3, ky_z 3 60))) (b4 (k)) (.inr (3, [.int 0, .ref (b4 (k + 1)), .ref (b4 (k + 6)), .ref (b4 (k + 7)), .ref (b4 (k + 8)), .ref (b4 (k + 9)), .null]))) (b4 (k + 9)) = some (.inl (3, ky_z 3 60)) := (kz_ne (fun z => absurd (hb _ _ z) (show ¬ (k + 9) = (k) by omega))).trans kz_same
  have h00 : (ky_up (ky_up g4 (b4 (k + 9)) (.inl (3, ky_z 3 60))) (b4 (k)) (.inr (3, [.int 0, .ref (b4 (k + 1)), .ref (b4 (k + 6)), .ref (b4 (k + 7)), .ref (b4 (k + 8)), .ref (b4 (k + 9)), .null]))) (b4 (0)) = some (e00) := (kz_ne (fun z => absurd (hb _ _ z) (show ¬ (0) = (k) by omega))).trans v_h00.2
  have r5 : kAl a f b4 (ky_up (ky_up g4 (b4 (k + 9)) (.inl (3, ky_z 3 60))) (b4 (k)) (.inr (3, [.int 0, .ref (b4 (k + 1)), .ref (b4 (k + 6)), .ref (b4 (k + 7)), .ref (b4 (k + 8)), .ref (b4 (k + 9)), .null]))) (fun j => k ≤ j ∧ j ≤ k + 10) := kAl_tr rr (kAl_fr hb (kfr_up (S := fun j => j = k) hb kfr_rf rfl)) fun j hj => ⟨hj, by omega⟩
  have e5 := ee
  have hS1 : kS b4 k (ky_up (ky_up g4 (b4 (k + 9)) (.inl (3, ky_z 3 60))) (b4 (k)) (.inr (3, [.int 0, .ref (b4 (k + 1)), .ref (b4 (k + 6)), .ref (b4 (k + 7)), .ref (b4 (k + 8)), .ref (b4 (k + 9)), .null]))) S0 := kS_fr hS2 fun j z1 z2 => kz_ne fun z => absurd (hb _ _ z) (by omega)
  generalize (ky_up (ky_up g4 (b4 (k + 9)) (.inl (3, ky_z 3 60))) (b4 (k)) (.inr (3, [.int 0, .ref (b4 (k + 1)), .ref (b4 (k + 6)), .ref (b4 (k + 7)), .ref (b4 (k + 8)), .ref (b4 (k + 9)), .null]))) = g5 at hS1 w0 d0 d1 d2 d3 h00 r5 ⊢
  intro q hq
  obtain ⟨b5, hB, e⟩ := kI_sw (t := k + 10) r5.1 hq h00 (by omega) (.inl (1, ky_z 1 60))
  subst e
  have t0 := kAl_at hB (show ¬ (k) = (k + 10) by omega) w0
  have u0 := kAl_at hB (show ¬ (k + 6) = (k + 10) by omega) d0
  have u1 := kAl_at hB (show ¬ (k + 7) = (k + 10) by omega) d1
  have u2 := kAl_at hB (show ¬ (k + 8) = (k + 10) by omega) d2
  have u3 := kAl_at hB (show ¬ (k + 9) = (k + 10) by omega) d3
  have v_h00 := kAl_at hB (show ¬ (0) = (k + 10) by omega) h00
  have hb := hB.1
  have hS2 : kS b5 k _ S0 := kS_al hS1 hB (fun j z1 z2 => by omega)
  have rr : kAl a f b5 _ (fun j => k ≤ j ∧ j ≤ k + 10) := kAl_tr r5 hB fun j hj => ⟨hj, by omega⟩
  have ee : b5 (k) = a (k) := t0.1.trans e5
  simp only [← t0.1, ← v_h00.1]
  have t02 := t0.2
  have us := kAl_at hB (show ¬ (k + 1) = (k + 10) by omega) hS1.1
  rw [← us.1] at t02
  rw [← u0.1, ← u1.1, ← u2.1, ← u3.1] at t02
  repeat' (first | (refine ky_ok_stp rfl ?_; simp (disch := first | omega | assumption) only [ky_stp, ky_inv, ky_ldi, ky_ldl, ky_ldd, ky_lda, ky_cl2, ky_st1, ky_st2, ky_s1i, ky_s2i, ky_s1l, ky_s2l, ky_sli, ky_s1f, ky_s2f, ky_s1d, ky_s2d, ky_sr, ky_sai, ky_sasi, ky_sasl, ky_sasr, ky_svr, ky_sv, ky_sv2, ky_s1, ky_cs, ky_pop, ky_nth, ky_snt, ky_obj, ky_ari, ky_arl, ky_arr, ky_arn, ky_fv, ky_rcv, List.map_cons, List.map_nil, List.drop_succ_cons, List.drop_zero, Value.category, Nat.reduceAdd, Nat.reduceSub, true_and, and_true, true_or, or_true, reduceCtorEq, ite_true, ite_false, eq_self, Nat.reduceEqDiff, Nat.reduceLeDiff, nI_add, nI_1, nI_leI, nI_ltI, nI_eq, nI_clamp, kz_m1, kz_mn, kz_mn2, kz_n0, kz_0n, kz_0, kz_le0, kz_0lt, false_implies, true_implies, not_false_eq_true, not_true_eq_false, Nat.zero_le, kb_0, kz_10, kz_of, ky_sw, kz_mx, kz_mi, t02, kz_7, kz_60, kz_same, kz_uu, show (ky_GG adK).2.2.getD 6 [] = [.null, .null, .null, .null] from rfl]) | (refine ⟨vp_in_nI (by omega) (by omega), ?_⟩) | (rw [if_neg (by decide)]; refine ⟨by decide, by decide, ?_⟩) | (refine ⟨by decide, by decide, ?_⟩) | (refine ⟨fun zc => ?_, fun zc => ?_⟩ <;> try (exfalso; omega)) | fail)
  have w0 : (ky_up (ky_up g5 (b5 (k + 10)) (.inl (1, ky_z 1 60))) (b5 (k)) (.inr (3, [.int 0, .ref (b5 (k + 1)), .ref (b5 (k + 6)), .ref (b5 (k + 7)), .ref (b5 (k + 8)), .ref (b5 (k + 9)), .ref (b5 (k + 10))]))) (b5 (k)) = some (.inr (3, [.int 0, .ref (b5 (k + 1)), .ref (b5 (k + 6)), .ref (b5 (k + 7)), .ref (b5 (k + 8)), .ref (b5 (k + 9)), .ref (b5 (k + 10))])) := kz_same
  have d0 : (ky_up (ky_up g5 (b5 (k + 10)) (.inl (1, ky_z 1 60))) (b5 (k)) (.inr (3, [.int 0, .ref (b5 (k + 1)), .ref (b5 (k + 6)), .ref (b5 (k + 7)), .ref (b5 (k + 8)), .ref (b5 (k + 9)), .ref (b5 (k + 10))]))) (b5 (k + 6)) = some (.inl (2, ky_z 2 60)) := (kz_ne (fun z => absurd (hb _ _ z) (show ¬ (k + 6) = (k) by omega))).trans u0.2
  have d1 : (ky_up (ky_up g5 (b5 (k + 10)) (.inl (1, ky_z 1 60))) (b5 (k)) (.inr (3, [.int 0, .ref (b5 (k + 1)), .ref (b5 (k + 6)), .ref (b5 (k + 7)), .ref (b5 (k + 8)), .ref (b5 (k + 9)), .ref (b5 (k + 10))]))) (b5 (k + 7)) = some (.inl (1, ky_z 1 60)) := (kz_ne (fun z => absurd (hb _ _ z) (show ¬ (k + 7) = (k) by omega))).trans u1.2
  have d2 : (ky_up (ky_up g5 (b5 (k + 10)) (.inl (1, ky_z 1 60))) (b5 (k)) (.inr (3, [.int 0, .ref (b5 (k + 1)), .ref (b5 (k + 6)), .ref (b5 (k + 7)), .ref (b5 (k + 8)), .ref (b5 (k + 9)), .ref (b5 (k + 10))]))) (b5 (k + 8)) = some (.inl (3, ky_z 3 60)) := (kz_ne (fun z => absurd (hb _ _ z) (show ¬ (k + 8) = (k) by omega))).trans u2.2
  have d3 : (ky_up (ky_up g5 (b5 (k + 10)) (.inl (1, ky_z 1 60))) (b5 (k)) (.inr (3, [.int 0, .ref (b5 (k + 1)), .ref (b5 (k + 6)), .ref (b5 (k + 7)), .ref (b5 (k + 8)), .ref (b5 (k + 9)), .ref (b5 (k + 10))]))) (b5 (k + 9)) = some (.inl (3, ky_z 3 60)) := (kz_ne (fun z => absurd (hb _ _ z) (show ¬ (k + 9) = (k) by omega))).trans u3.2
  have d4 : (ky_up (ky_up g5 (b5 (k + 10)) (.inl (1, ky_z 1 60))) (b5 (k)) (.inr (3, [.int 0, .ref (b5 (k + 1)), .ref (b5 (k + 6)), .ref (b5 (k + 7)), .ref (b5 (k + 8)), .ref (b5 (k + 9)), .ref (b5 (k + 10))]))) (b5 (k + 10)) = some (.inl (1, ky_z 1 60)) := (kz_ne (fun z => absurd (hb _ _ z) (show ¬ (k + 10) = (k) by omega))).trans kz_same
  have h00 : (ky_up (ky_up g5 (b5 (k + 10)) (.inl (1, ky_z 1 60))) (b5 (k)) (.inr (3, [.int 0, .ref (b5 (k + 1)), .ref (b5 (k + 6)), .ref (b5 (k + 7)), .ref (b5 (k + 8)), .ref (b5 (k + 9)), .ref (b5 (k + 10))]))) (b5 (0)) = some (e00) := (kz_ne (fun z => absurd (hb _ _ z) (show ¬ (0) = (k) by omega))).trans v_h00.2
  have r6 : kAl a f b5 (ky_up (ky_up g5 (b5 (k + 10)) (.inl (1, ky_z 1 60))) (b5 (k)) (.inr (3, [.int 0, .ref (b5 (k + 1)), .ref (b5 (k + 6)), .ref (b5 (k + 7)), .ref (b5 (k + 8)), .ref (b5 (k + 9)), .ref (b5 (k + 10))]))) (fun j => k ≤ j ∧ j ≤ k + 10) := kAl_tr rr (kAl_fr hb (kfr_up (S := fun j => j = k) hb kfr_rf rfl)) fun j hj => ⟨hj, by omega⟩
  have e6 := ee
  have hS1 : kS b5 k (ky_up (ky_up g5 (b5 (k + 10)) (.inl (1, ky_z 1 60))) (b5 (k)) (.inr (3, [.int 0, .ref (b5 (k + 1)), .ref (b5 (k + 6)), .ref (b5 (k + 7)), .ref (b5 (k + 8)), .ref (b5 (k + 9)), .ref (b5 (k + 10))]))) S0 := kS_fr hS2 fun j z1 z2 => kz_ne fun z => absurd (hb _ _ z) (by omega)
  generalize (ky_up (ky_up g5 (b5 (k + 10)) (.inl (1, ky_z 1 60))) (b5 (k)) (.inr (3, [.int 0, .ref (b5 (k + 1)), .ref (b5 (k + 6)), .ref (b5 (k + 7)), .ref (b5 (k + 8)), .ref (b5 (k + 9)), .ref (b5 (k + 10))]))) = g6 at hS1 w0 d0 d1 d2 d3 d4 h00 r6 ⊢
  refine hQ b5 g6 r6 e6 ?_
  exact ⟨⟨0, fun _ => (0, 0, 0, 0), S0⟩, rfl, ⟨_, ⟨w0, d0, d1, d2, d3, d4⟩, fun _ => ⟨Or.inl rfl, Or.inl rfl⟩⟩, hS1⟩
end KXC
