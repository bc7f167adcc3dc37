/-! ## the reference: romans, signs -/
set_option maxRecDepth 100000 in
theorem kz_h3 : ∀ c, c < 159 → nI c / 100 = nI (c / 100) := by decide +kernel
theorem sgg_le {d x y z : Nat} (hd : d < 10) : (sgg d x y z).length ≤ 5 := by
  unfold sgg
  by_cases e : d = 9
  · rw [if_pos e]; exact (by decide : 2 ≤ 5)
  · rw [if_neg e]
    by_cases e : d = 4
    · rw [if_pos e]; exact (by decide : 2 ≤ 5)
    · rw [if_neg e, List.length_append, List.length_replicate]
      by_cases e : 4 < d
      · rw [if_pos e, List.length_singleton]; omega
      · rw [if_neg e, List.length_nil]; omega
section KXM
variable {adK a : Nat → Nat} {f : ky_H} {Q : ky_Q} {g : Nat → Int32} {s r N : Nat → Int32} {p w n l b c sh : Nat} {x lo hi v : Int32} {z : kZ} {o : List Nat}
theorem kx192 (ha : kI a) (h : kLy a f g p N o) (ho : o.length ≤ 49) (hp : p < 60) (hc : c < 159) (hf : sh < 200) (hQ : kAdQ a f g p N (o ++ sgR c sh) Q) : ky_cl adK 192 [.ref (a 170), .int (nI p), .int (nI c), .int (nI sh)] f Q := by
  have hM := h.1
  have mh := hM; unfold kMo at mh
  have q0 := kz_h3 c hc
  obtain ⟨q1, q2⟩ := kz_dv c hc
  have e100 : ((100 : Int32) = 0) = False := by decide
  have e67 : (67 : Int32) = nI 67 := rfl
  have e88 : (88 : Int32) = nI 88 := rfl
  have e76 : (76 : Int32) = nI 76 := rfl
  have e73 : (73 : Int32) = nI 73 := rfl
  have e86 : (86 : Int32) = nI 86 := rfl
  have tail : ∀ f1 g1 o1, o1.length ≤ 50 → kLy a f1 g1 p N o1 → kAdQ a f1 g1 p N (o1 ++ (sgg (c / 10 % 10) (88 + sh) (76 + sh) (67 + sh) ++ sgg (c % 10) (73 + sh) (86 + sh) (88 + sh))) Q → ky_ok adK 192 6 [some (.ref (a 170)), some (.int (nI p)), some (.int (nI c)), some (.int (nI sh)), some (.int (nI 0))] [] f1 0 0 Q := by
    intro f1 g1 o1 ho h hQ
    have hM := h.1
    have mh := hM; unfold kMo at mh
    rw [← List.append_assoc] at hQ
    have hg := sgg_le (x := 88 + sh) (y := 76 + sh) (z := 67 + sh) (show c / 10 % 10 < 10 by omega)
    repeat' (first | (refine kx191 ha h (by omega) hp (show c / 10 % 10 < 10 by omega) ?_) | (refine ky_ok_stp rfl ?_; simp (disch := first | omega | assumption) only [ky_stp, ky_inv, ky_ldi, ky_ldl, ky_ldd, ky_lda, ky_cl2, ky_st1, ky_st2, ky_s1i, ky_s2i, ky_s1l, ky_s2l, ky_sli, ky_s1f, ky_s2f, ky_s1d, ky_s2d, ky_sr, ky_sai, ky_sasi, ky_sasl, ky_sasr, ky_svr, ky_sv, ky_sv2, ky_s1, ky_cs, ky_pop, ky_nth, ky_snt, ky_obj, ky_ari, ky_arl, ky_arr, ky_arn, ky_fv, ky_rcv, List.map_cons, List.map_nil, List.drop_succ_cons, List.drop_zero, Value.category, Nat.reduceAdd, Nat.reduceSub, true_and, and_true, true_or, or_true, reduceCtorEq, ite_true, ite_false, eq_self, Nat.reduceEqDiff, Nat.reduceLeDiff, nI_add, nI_1, nI_leI, nI_ltI, nI_eq, nI_clamp, kz_m1, kz_mn, kz_mn2, kz_n0, kz_0n, kz_0, kz_le0, kz_0lt, false_implies, true_implies, not_false_eq_true, not_true_eq_false, Nat.zero_le, kb_0, kz_10, kz_of, ky_sw, kz_mx, kz_mi, mh, q1, q2, kz_d10, e67, e88, e76, e73, e86]) | (refine ⟨vp_in_nI (by omega) (by omega), ?_⟩) | (rw [if_neg (by decide)]; refine ⟨by decide, by decide, ?_⟩) | (refine ⟨by decide, by decide, ?_⟩) | (refine ⟨fun zc => ?_, fun zc => ?_⟩ <;> try (exfalso; omega)) | fail)
    intro f2 g2 w1 w2 w3
    simp only [ky_aft, ky_vl, Nat.reduceAdd]
    have mh2 := w2.1
    unfold kMo at mh2
    repeat' (first | (refine kx191 ha w2 (by rw [List.length_append]; omega) hp (show c % 10 < 10 by omega) ?_) | (refine ky_ok_stp rfl ?_; simp (disch := first | omega | assumption) only [ky_stp, ky_inv, ky_ldi, ky_ldl, ky_ldd, ky_lda, ky_cl2, ky_st1, ky_st2, ky_s1i, ky_s2i, ky_s1l, ky_s2l, ky_sli, ky_s1f, ky_s2f, ky_s1d, ky_s2d, ky_sr, ky_sai, ky_sasi, ky_sasl, ky_sasr, ky_svr, ky_sv, ky_sv2, ky_s1, ky_cs, ky_pop, ky_nth, ky_snt, ky_obj, ky_ari, ky_arl, ky_arr, ky_arn, ky_fv, ky_rcv, List.map_cons, List.map_nil, List.drop_succ_cons, List.drop_zero, Value.category, Nat.reduceAdd, Nat.reduceSub, true_and, and_true, true_or, or_true, reduceCtorEq, ite_true, ite_false, eq_self, Nat.reduceEqDiff, Nat.reduceLeDiff, nI_add, nI_1, nI_leI, nI_ltI, nI_eq, nI_clamp, kz_m1, kz_mn, kz_mn2, kz_n0, kz_0n, kz_0, kz_le0, kz_0lt, false_implies, true_implies, not_false_eq_true, not_true_eq_false, Nat.zero_le, kb_0, kz_10, kz_of, ky_sw, kz_mx, kz_mi, mh2, q1, q2, kz_d10, e67, e88, e76, e73, e86]) | (refine ⟨vp_in_nI (by omega) (by omega), ?_⟩) | (rw [if_neg (by decide)]; refine ⟨by decide, by decide, ?_⟩) | (refine ⟨by decide, by decide, ?_⟩) | (refine ⟨fun zc => ?_, fun zc => ?_⟩ <;> try (exfalso; omega)) | fail)
    intro f3 g3 u1 u2 u3
    simp only [ky_aft, ky_vl, Nat.reduceAdd]
    repeat' (first | (refine ky_ok_stp rfl ?_; simp (disch := first | omega | assumption) only [ky_stp, ky_inv, ky_ldi, ky_ldl, ky_ldd, ky_lda, ky_cl2, ky_st1, ky_st2, ky_s1i, ky_s2i, ky_s1l, ky_s2l, ky_sli, ky_s1f, ky_s2f, ky_s1d, ky_s2d, ky_sr, ky_sai, ky_sasi, ky_sasl, ky_sasr, ky_svr, ky_sv, ky_sv2, ky_s1, ky_cs, ky_pop, ky_nth, ky_snt, ky_obj, ky_ari, ky_arl, ky_arr, ky_arn, ky_fv, ky_rcv, List.map_cons, List.map_nil, List.drop_succ_cons, List.drop_zero, Value.category, Nat.reduceAdd, Nat.reduceSub, true_and, and_true, true_or, or_true, reduceCtorEq, ite_true, ite_false, eq_self, Nat.reduceEqDiff, Nat.reduceLeDiff, nI_add, nI_1, nI_leI, nI_ltI, nI_eq, nI_clamp, kz_m1, kz_mn, kz_mn2, kz_n0, kz_0n, kz_0, kz_le0, kz_0lt, false_implies, true_implies, not_false_eq_true, not_true_eq_false, Nat.zero_le, kb_0, kz_10, kz_of, ky_sw, kz_mx, kz_mi]) | (refine ⟨vp_in_nI (by omega) (by omega), ?_⟩) | (rw [if_neg (by decide)]; refine ⟨by decide, by decide, ?_⟩) | (refine ⟨by decide, by decide, ?_⟩) | (refine ⟨fun zc => ?_, fun zc => ?_⟩ <;> try (exfalso; omega)) | fail)
    exact hQ f3 g3 (fun j hj => (u1 j hj).trans (w1 j hj)) u2 (kfr_tr w3 u3 fun j hj => ⟨hj, hj⟩)
  unfold sgR at hQ
  refine ⟨Nat.le_of_ble_eq_true rfl, fun z => absurd z (by decide), ?_⟩; show ky_ok adK 192 0 [some (.ref (a 170)), some (.int (nI p)), some (.int (nI c)), some (.int (nI sh)), none] [] f 0 0 _
  by_cases c1 : c / 100 = 0
  · rw [c1, List.replicate_zero, List.nil_append] at hQ
    have hl := tail f g o (by omega) h hQ
    rw [c1] at q0
    repeat' (first | (exact hl) | (refine ky_ok_stp rfl ?_; simp (disch := first | omega | assumption) only [ky_stp, ky_inv, ky_ldi, ky_ldl, ky_ldd, ky_lda, ky_cl2, ky_st1, ky_st2, ky_s1i, ky_s2i, ky_s1l, ky_s2l, ky_sli, ky_s1f, ky_s2f, ky_s1d, ky_s2d, ky_sr, ky_sai, ky_sasi, ky_sasl, ky_sasr, ky_svr, ky_sv, ky_sv2, ky_s1, ky_cs, ky_pop, ky_nth, ky_snt, ky_obj, ky_ari, ky_arl, ky_arr, ky_arn, ky_fv, ky_rcv, List.map_cons, List.map_nil, List.drop_succ_cons, List.drop_zero, Value.category, Nat.reduceAdd, Nat.reduceSub, true_and, and_true, true_or, or_true, reduceCtorEq, ite_true, ite_false, eq_self, Nat.reduceEqDiff, Nat.reduceLeDiff, nI_add, nI_1, nI_leI, nI_ltI, nI_eq, nI_clamp, kz_m1, kz_mn, kz_mn2, kz_n0, kz_0n, kz_0, kz_le0, kz_0lt, false_implies, true_implies, not_false_eq_true, not_true_eq_false, Nat.zero_le, kb_0, kz_10, kz_of, ky_sw, kz_mx, kz_mi, mh, q0, e100]) | (refine ⟨vp_in_nI (by omega) (by omega), ?_⟩) | (rw [if_neg (by decide)]; refine ⟨by decide, by decide, ?_⟩) | (refine ⟨by decide, by decide, ?_⟩) | (refine ⟨fun zc => ?_, fun zc => ?_⟩ <;> try (exfalso; omega)) | fail)
  · have c2 : c / 100 = 1 := by omega
    rw [c2, List.replicate_one, ← List.append_assoc] at hQ
    rw [c2] at q0
    have e11 : nI 1 + -1 = nI 0 := by decide
    have e10 : (nI 1 ≤ 0) = False := by decide
    repeat' (first | (refine kx188 ha h (by omega) hp ?_) | (refine ky_ok_stp rfl ?_; simp (disch := first | omega | assumption) only [ky_stp, ky_inv, ky_ldi, ky_ldl, ky_ldd, ky_lda, ky_cl2, ky_st1, ky_st2, ky_s1i, ky_s2i, ky_s1l, ky_s2l, ky_sli, ky_s1f, ky_s2f, ky_s1d, ky_s2d, ky_sr, ky_sai, ky_sasi, ky_sasl, ky_sasr, ky_svr, ky_sv, ky_sv2, ky_s1, ky_cs, ky_pop, ky_nth, ky_snt, ky_obj, ky_ari, ky_arl, ky_arr, ky_arn, ky_fv, ky_rcv, List.map_cons, List.map_nil, List.drop_succ_cons, List.drop_zero, Value.category, Nat.reduceAdd, Nat.reduceSub, true_and, and_true, true_or, or_true, reduceCtorEq, ite_true, ite_false, eq_self, Nat.reduceEqDiff, Nat.reduceLeDiff, nI_add, nI_1, nI_leI, nI_ltI, nI_eq, nI_clamp, kz_m1, kz_mn, kz_mn2, kz_n0, kz_0n, kz_0, kz_le0, kz_0lt, false_implies, true_implies, not_false_eq_true, not_true_eq_false, Nat.zero_le, kb_0, kz_10, kz_of, ky_sw, kz_mx, kz_mi, mh, q0, e100, e10, e67]) | (refine ⟨vp_in_nI (by omega) (by omega), ?_⟩) | (rw [if_neg (by decide)]; refine ⟨by decide, by decide, ?_⟩) | (refine ⟨by decide, by decide, ?_⟩) | (refine ⟨fun zc => ?_, fun zc => ?_⟩ <;> try (exfalso; omega)) | fail)
    intro f1 g1 w1 w2 w3
    simp only [ky_aft, ky_vl, Nat.reduceAdd]
    have hl := tail f1 g1 _ (by rw [List.length_append, List.length_singleton]; omega) w2 (kAdQ_s hQ w1 w3)
    repeat' (first | (exact hl) | (refine ky_ok_stp rfl ?_; simp (disch := first | omega | assumption) only [ky_stp, ky_inv, ky_ldi, ky_ldl, ky_ldd, ky_lda, ky_cl2, ky_st1, ky_st2, ky_s1i, ky_s2i, ky_s1l, ky_s2l, ky_sli, ky_s1f, ky_s2f, ky_s1d, ky_s2d, ky_sr, ky_sai, ky_sasi, ky_sasl, ky_sasr, ky_svr, ky_sv, ky_sv2, ky_s1, ky_cs, ky_pop, ky_nth, ky_snt, ky_obj, ky_ari, ky_arl, ky_arr, ky_arn, ky_fv, ky_rcv, List.map_cons, List.map_nil, List.drop_succ_cons, List.drop_zero, Value.category, Nat.reduceAdd, Nat.reduceSub, true_and, and_true, true_or, or_true, reduceCtorEq, ite_true, ite_false, eq_self, Nat.reduceEqDiff, Nat.reduceLeDiff, nI_add, nI_1, nI_leI, nI_ltI, nI_eq, nI_clamp, kz_m1, kz_mn, kz_mn2, kz_n0, kz_0n, kz_0, kz_le0, kz_0lt, false_implies, true_implies, not_false_eq_true, not_true_eq_false, Nat.zero_le, kb_0, kz_10, kz_of, ky_sw, kz_mx, kz_mi, e11]) | (refine ⟨vp_in_nI (by omega) (by omega), ?_⟩) | (rw [if_neg (by decide)]; refine ⟨by decide, by decide, ?_⟩) | (refine ⟨by decide, by decide, ?_⟩) | (refine ⟨fun zc => ?_, fun zc => ?_⟩ <;> try (exfalso; omega)) | fail)
end KXM
