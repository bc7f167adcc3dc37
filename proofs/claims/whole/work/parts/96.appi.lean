/-! ## the reference: append, insert -/
section KXM
variable {adK a : Nat → Nat} {f : ky_H} {Q : ky_Q} {g r B T : Nat → Int32} {s : kSt} {p w n l i j t e m k b L : Nat} {x y v d x1 x2 x3 x4 x5 q1 q2 : Int32} {z : kZ} {o : List Nat} {c : Nat → Nat}
theorem kM_bt {f' : ky_H} {g' : Nat → Int32} (h : kM a f g s) (h0 : kMt a f' g' L c) (hg : ∀ j, j = 1 ∨ j = 8 ∨ j = 9 ∨ j = 12 → g' j = g j) (hF : kfr a f f' (fun j => j = 170 ∨ j = 182)) : kM a f' g' (s.setB L c) := by
  obtain ⟨ha, _, ⟨⟨r, h1, h2⟩, ⟨U, h3', h4⟩, ⟨V, B, h5, h6, h7⟩, ⟨C, h8', h9'⟩, -, ⟨W, h12, h13⟩⟩, ⟨q1, q2, q3, q4, q5, q6, q7, q8, q9⟩, k3, k4⟩ := h
  obtain ⟨hMo, g3, hL, T, hT1, hT2⟩ := h0
  exact ⟨ha, hMo, ⟨⟨r, (hF 171 (by omega)).trans h1, h2⟩, ⟨U, (hF 174 (by omega)).trans h3', h4⟩, ⟨V, B, (hF 175 (by omega)).trans h5, (hF 176 (by omega)).trans h6, h7⟩, ⟨C, (hF 177 (by omega)).trans h8', h9'⟩, ⟨T, hT1, fun i hi => (hT2 i hi).1⟩, ⟨W, (hF 186 (by omega)).trans h12, h13⟩⟩, ⟨kar_fr q1 (hF 172 (by omega)), kar_fr q2 (hF 173 (by omega)), kar_fr q3 (hF 178 (by omega)), kar_fr q4 (hF 179 (by omega)), kar_fr q5 (hF 180 (by omega)), kar_fr q6 (hF 181 (by omega)), kar_fr q7 (hF 183 (by omega)), kar_fr q8 (hF 184 (by omega)), kar_fr q9 (hF 185 (by omega))⟩, ⟨(hg 1 (by omega)).trans k3.1, g3, (hg 8 (by omega)).trans k3.2.2.1, (hg 9 (by omega)).trans k3.2.2.2.1, (hg 12 (by omega)).trans k3.2.2.2.2⟩, ⟨k4.1, hL, fun i hi => (hT2 i hi).2, k4.2.2.2⟩⟩
theorem kx198 (hM : kM a f g s) (ho : kZo s.o) (hy : ∀ c, s.bl + (kApl s x1 x2 x3 x4 x5).length ≤ 700 → (∀ i, i < s.bl + (kApl s x1 x2 x3 x4 x5).length → c i = kapp s.bc s.bl (kApl s x1 x2 x3 x4 x5) i) → kMQ a f (s.setB (s.bl + (kApl s x1 x2 x3 x4 x5).length) c) 0 Q (nI (s.bl + (kApl s x1 x2 x3 x4 x5).length))) (h1 : 700 < s.bl + (kApl s x1 x2 x3 x4 x5).length → kMQ a f s 1 Q 0) : ky_cl adK 198 [.ref (a 170), .int x1, .int x2, .int x3, .int x4, .int x5] f Q := by
  have e700 : (700 : Int32) = nI 700 := rfl
  have rest : ∀ f1 g1, kM a f1 g1 s → g1 0 = 0 → kfr a f f1 kMF → ky_ok adK 198 5 [some (.ref (a 170)), some (.int x1), some (.int x2), some (.int x3), some (.int x4), some (.int x5)] [] f1 0 0 Q := by
    intro f1 g1 hM1 h10 hF1
    obtain ⟨ha, hMo, ⟨⟨r, hr, hR⟩, hU, hV, hC, hT, hW⟩, h2, h3, h4⟩ := id hM1
    have mh := hMo
    unfold kMo at mh
    have h60 := ho.n60
    have hL := kRw_l ho hR
    have g3 := h3.2.1
    have hbl := h4.2.1
    have b1 := kBy_le x1
    have b2 := kBy_le x2
    have b3 := kBy_le x3
    have b4 := kBy_le x4
    have b5 := kBy_le x5
    have hlen : (kApl s x1 x2 x3 x4 x5).length = (kBy x1).length + ((kBy x2).length + ((kBy x3).length + ((kBy x4).length + (kBy x5).length))) := by
      unfold kApl
      rw [List.length_append, List.length_append, List.length_append, List.length_append]
    by_cases hc : 700 < s.bl + (kApl s x1 x2 x3 x4 x5).length
    · have hq := h1 hc
      repeat' (first | (refine kx197 ?_) | (simp only [ky_aft, ky_vl, Nat.reduceAdd]) | (refine kx170t (p := 1) hM1 h10 (by decide) ?_) | (refine ky_ok_stp rfl ?_; simp (disch := first | omega | assumption) only [ky_stp, ky_inv, ky_ldi, ky_ldl, ky_ldd, ky_lda, ky_cl2, ky_st1, ky_st2, ky_s1i, ky_s2i, ky_s1l, ky_s2l, ky_sli, ky_s1f, ky_s2f, ky_s1d, ky_s2d, ky_sr, ky_sai, ky_sasi, ky_sasl, ky_sasr, ky_svr, ky_sv, ky_sv2, ky_s1, ky_cs, ky_pop, ky_nth, ky_snt, ky_obj, ky_ari, ky_arl, ky_arr, ky_arn, ky_fv, ky_rcv, List.map_cons, List.map_nil, List.drop_succ_cons, List.drop_zero, Value.category, Nat.reduceAdd, Nat.reduceSub, true_and, and_true, true_or, or_true, reduceCtorEq, ite_true, ite_false, eq_self, Nat.reduceEqDiff, Nat.reduceLeDiff, nI_add, nI_1, nI_leI, nI_ltI, nI_eq, nI_clamp, kz_m1, kz_mn, kz_mn2, kz_n0, kz_0n, kz_0, kz_le0, kz_0lt, false_implies, true_implies, not_false_eq_true, not_true_eq_false, Nat.zero_le, kb_0, kz_10, kz_of, ky_sw, kz_mx, kz_mi, mh, g3, e700, show ¬ s.bl + (kBy x1).length + (kBy x2).length + (kBy x3).length + (kBy x4).length + (kBy x5).length ≤ 700 by omega]) | (refine ⟨vp_in_nI (by omega) (by omega), ?_⟩) | (refine ⟨fun zc => ?_, fun zc => ?_⟩ <;> try (exfalso; omega)) | fail)
      intro f2 g2 w1 w2 w3
      try simp only [ky_aft, ky_vl, Nat.reduceAdd]
      repeat' (first | (refine ky_ok_stp rfl ?_; simp (disch := first | omega | assumption) only [ky_stp, ky_inv, ky_ldi, ky_ldl, ky_ldd, ky_lda, ky_cl2, ky_st1, ky_st2, ky_s1i, ky_s2i, ky_s1l, ky_s2l, ky_sli, ky_s1f, ky_s2f, ky_s1d, ky_s2d, ky_sr, ky_sai, ky_sasi, ky_sasl, ky_sasr, ky_svr, ky_sv, ky_sv2, ky_s1, ky_cs, ky_pop, ky_nth, ky_snt, ky_obj, ky_ari, ky_arl, ky_arr, ky_arn, ky_fv, ky_rcv, List.map_cons, List.map_nil, List.drop_succ_cons, List.drop_zero, Value.category, Nat.reduceAdd, Nat.reduceSub, true_and, and_true, true_or, or_true, reduceCtorEq, ite_true, ite_false, eq_self, Nat.reduceEqDiff, Nat.reduceLeDiff, nI_add, nI_1, nI_leI, nI_ltI, nI_eq, nI_clamp, kz_m1, kz_mn, kz_mn2, kz_n0, kz_0n, kz_0, kz_le0, kz_0lt, false_implies, true_implies, not_false_eq_true, not_true_eq_false, Nat.zero_le, kb_0, kz_10, kz_of, ky_sw, kz_mx, kz_mi]) | (refine ⟨vp_in_nI (by omega) (by omega), ?_⟩) | (refine ⟨fun zc => ?_, fun zc => ?_⟩ <;> try (exfalso; omega)) | fail)
      (first | exact hq f2 g2 w1 w2 (kfr_tr hF1 w3 fun j hj => ⟨hj, hj⟩) | exact ⟨by decide, hq f2 g2 w1 w2 (kfr_tr hF1 w3 fun j hj => ⟨hj, hj⟩)⟩)
    · have hMt : kMt a f1 g1 (s.bl + ([] : List Nat).length) s.bc := kM_mt hM1
      have hl0 : s.bl + (kApl s x1 x2 x3 x4 x5).length ≤ 700 := by omega
      have hF0 : kfr a f1 f1 (fun j => j = 170 ∨ j = 182) := kfr_rf
      repeat' (first | (refine kx197 ?_) | (simp only [ky_aft, ky_vl, Nat.reduceAdd]) | (refine kx170n hMo h10 ?_; simp only [ky_aft, ky_vl, Nat.reduceAdd]) | (refine kx199 (l := s.bl) (o := []) (c0 := s.bc) ha hMt (fun i hi => (kapp_nil hi).symm) (by rw [List.nil_append]; omega) ?_) | (refine ky_ok_stp rfl ?_; simp (disch := first | omega | assumption) only [ky_stp, ky_inv, ky_ldi, ky_ldl, ky_ldd, ky_lda, ky_cl2, ky_st1, ky_st2, ky_s1i, ky_s2i, ky_s1l, ky_s2l, ky_sli, ky_s1f, ky_s2f, ky_s1d, ky_s2d, ky_sr, ky_sai, ky_sasi, ky_sasl, ky_sasr, ky_svr, ky_sv, ky_sv2, ky_s1, ky_cs, ky_pop, ky_nth, ky_snt, ky_obj, ky_ari, ky_arl, ky_arr, ky_arn, ky_fv, ky_rcv, List.map_cons, List.map_nil, List.drop_succ_cons, List.drop_zero, Value.category, Nat.reduceAdd, Nat.reduceSub, true_and, and_true, true_or, or_true, reduceCtorEq, ite_true, ite_false, eq_self, Nat.reduceEqDiff, Nat.reduceLeDiff, nI_add, nI_1, nI_leI, nI_ltI, nI_eq, nI_clamp, kz_m1, kz_mn, kz_mn2, kz_n0, kz_0n, kz_0, kz_le0, kz_0lt, false_implies, true_implies, not_false_eq_true, not_true_eq_false, Nat.zero_le, kb_0, kz_10, kz_of, ky_sw, kz_mx, kz_mi, mh, g3, e700, show s.bl + (kBy x1).length + (kBy x2).length + (kBy x3).length + (kBy x4).length + (kBy x5).length ≤ 700 by omega]) | (refine ⟨vp_in_nI (by omega) (by omega), ?_⟩) | (refine ⟨fun zc => ?_, fun zc => ?_⟩ <;> try (exfalso; omega)) | fail)
      intro f2 g2 c2 hMt2 hc2 hg2 hF2
      (try simp only [ky_aft, ky_vl, Nat.reduceAdd])
      rw [List.nil_append] at hMt2 hc2
      have mh := hMt2.1
      unfold kMo at mh
      repeat' (first | (refine kx199 (l := s.bl) (c0 := s.bc) ha hMt2 hc2 (by rw [List.length_append]; omega) ?_) | (refine ky_ok_stp rfl ?_; simp (disch := first | omega | assumption) only [ky_stp, ky_inv, ky_ldi, ky_ldl, ky_ldd, ky_lda, ky_cl2, ky_st1, ky_st2, ky_s1i, ky_s2i, ky_s1l, ky_s2l, ky_sli, ky_s1f, ky_s2f, ky_s1d, ky_s2d, ky_sr, ky_sai, ky_sasi, ky_sasl, ky_sasr, ky_svr, ky_sv, ky_sv2, ky_s1, ky_cs, ky_pop, ky_nth, ky_snt, ky_obj, ky_ari, ky_arl, ky_arr, ky_arn, ky_fv, ky_rcv, List.map_cons, List.map_nil, List.drop_succ_cons, List.drop_zero, Value.category, Nat.reduceAdd, Nat.reduceSub, true_and, and_true, true_or, or_true, reduceCtorEq, ite_true, ite_false, eq_self, Nat.reduceEqDiff, Nat.reduceLeDiff, nI_add, nI_1, nI_leI, nI_ltI, nI_eq, nI_clamp, kz_m1, kz_mn, kz_mn2, kz_n0, kz_0n, kz_0, kz_le0, kz_0lt, false_implies, true_implies, not_false_eq_true, not_true_eq_false, Nat.zero_le, kb_0, kz_10, kz_of, ky_sw, kz_mx, kz_mi, mh]) | (refine ⟨vp_in_nI (by omega) (by omega), ?_⟩) | (refine ⟨fun zc => ?_, fun zc => ?_⟩ <;> try (exfalso; omega)) | fail)
      intro f3 g3' c3 hMt3 hc3 hg3 hF3
      (try simp only [ky_aft, ky_vl, Nat.reduceAdd])
      have mh := hMt3.1
      unfold kMo at mh
      repeat' (first | (refine kx199 (l := s.bl) (c0 := s.bc) ha hMt3 hc3 (by rw [List.length_append, List.length_append]; omega) ?_) | (refine ky_ok_stp rfl ?_; simp (disch := first | omega | assumption) only [ky_stp, ky_inv, ky_ldi, ky_ldl, ky_ldd, ky_lda, ky_cl2, ky_st1, ky_st2, ky_s1i, ky_s2i, ky_s1l, ky_s2l, ky_sli, ky_s1f, ky_s2f, ky_s1d, ky_s2d, ky_sr, ky_sai, ky_sasi, ky_sasl, ky_sasr, ky_svr, ky_sv, ky_sv2, ky_s1, ky_cs, ky_pop, ky_nth, ky_snt, ky_obj, ky_ari, ky_arl, ky_arr, ky_arn, ky_fv, ky_rcv, List.map_cons, List.map_nil, List.drop_succ_cons, List.drop_zero, Value.category, Nat.reduceAdd, Nat.reduceSub, true_and, and_true, true_or, or_true, reduceCtorEq, ite_true, ite_false, eq_self, Nat.reduceEqDiff, Nat.reduceLeDiff, nI_add, nI_1, nI_leI, nI_ltI, nI_eq, nI_clamp, kz_m1, kz_mn, kz_mn2, kz_n0, kz_0n, kz_0, kz_le0, kz_0lt, false_implies, true_implies, not_false_eq_true, not_true_eq_false, Nat.zero_le, kb_0, kz_10, kz_of, ky_sw, kz_mx, kz_mi, mh]) | (refine ⟨vp_in_nI (by omega) (by omega), ?_⟩) | (refine ⟨fun zc => ?_, fun zc => ?_⟩ <;> try (exfalso; omega)) | fail)
      intro f4 g4 c4 hMt4 hc4 hg4 hF4
      (try simp only [ky_aft, ky_vl, Nat.reduceAdd])
      have mh := hMt4.1
      unfold kMo at mh
      repeat' (first | (refine kx199 (l := s.bl) (c0 := s.bc) ha hMt4 hc4 (by rw [List.length_append, List.length_append, List.length_append]; omega) ?_) | (refine ky_ok_stp rfl ?_; simp (disch := first | omega | assumption) only [ky_stp, ky_inv, ky_ldi, ky_ldl, ky_ldd, ky_lda, ky_cl2, ky_st1, ky_st2, ky_s1i, ky_s2i, ky_s1l, ky_s2l, ky_sli, ky_s1f, ky_s2f, ky_s1d, ky_s2d, ky_sr, ky_sai, ky_sasi, ky_sasl, ky_sasr, ky_svr, ky_sv, ky_sv2, ky_s1, ky_cs, ky_pop, ky_nth, ky_snt, ky_obj, ky_ari, ky_arl, ky_arr, ky_arn, ky_fv, ky_rcv, List.map_cons, List.map_nil, List.drop_succ_cons, List.drop_zero, Value.category, Nat.reduceAdd, Nat.reduceSub, true_and, and_true, true_or, or_true, reduceCtorEq, ite_true, ite_false, eq_self, Nat.reduceEqDiff, Nat.reduceLeDiff, nI_add, nI_1, nI_leI, nI_ltI, nI_eq, nI_clamp, kz_m1, kz_mn, kz_mn2, kz_n0, kz_0n, kz_0, kz_le0, kz_0lt, false_implies, true_implies, not_false_eq_true, not_true_eq_false, Nat.zero_le, kb_0, kz_10, kz_of, ky_sw, kz_mx, kz_mi, mh]) | (refine ⟨vp_in_nI (by omega) (by omega), ?_⟩) | (refine ⟨fun zc => ?_, fun zc => ?_⟩ <;> try (exfalso; omega)) | fail)
      intro f5 g5 c5 hMt5 hc5 hg5 hF5
      (try simp only [ky_aft, ky_vl, Nat.reduceAdd])
      have mh := hMt5.1
      unfold kMo at mh
      repeat' (first | (refine kx199 (l := s.bl) (c0 := s.bc) ha hMt5 hc5 (by rw [List.length_append, List.length_append, List.length_append, List.length_append]; omega) ?_) | (refine ky_ok_stp rfl ?_; simp (disch := first | omega | assumption) only [ky_stp, ky_inv, ky_ldi, ky_ldl, ky_ldd, ky_lda, ky_cl2, ky_st1, ky_st2, ky_s1i, ky_s2i, ky_s1l, ky_s2l, ky_sli, ky_s1f, ky_s2f, ky_s1d, ky_s2d, ky_sr, ky_sai, ky_sasi, ky_sasl, ky_sasr, ky_svr, ky_sv, ky_sv2, ky_s1, ky_cs, ky_pop, ky_nth, ky_snt, ky_obj, ky_ari, ky_arl, ky_arr, ky_arn, ky_fv, ky_rcv, List.map_cons, List.map_nil, List.drop_succ_cons, List.drop_zero, Value.category, Nat.reduceAdd, Nat.reduceSub, true_and, and_true, true_or, or_true, reduceCtorEq, ite_true, ite_false, eq_self, Nat.reduceEqDiff, Nat.reduceLeDiff, nI_add, nI_1, nI_leI, nI_ltI, nI_eq, nI_clamp, kz_m1, kz_mn, kz_mn2, kz_n0, kz_0n, kz_0, kz_le0, kz_0lt, false_implies, true_implies, not_false_eq_true, not_true_eq_false, Nat.zero_le, kb_0, kz_10, kz_of, ky_sw, kz_mx, kz_mi, mh]) | (refine ⟨vp_in_nI (by omega) (by omega), ?_⟩) | (refine ⟨fun zc => ?_, fun zc => ?_⟩ <;> try (exfalso; omega)) | fail)
      intro f6 g6 c6 hMt6 hc6 hg6 hF6
      (try simp only [ky_aft, ky_vl, Nat.reduceAdd])
      have hkl : kBy x1 ++ kBy x2 ++ kBy x3 ++ kBy x4 ++ kBy x5 = kApl s x1 x2 x3 x4 x5 := by
        unfold kApl
        simp only [List.append_assoc]
      rw [hkl] at hMt6 hc6
      have mh := hMt6.1
      unfold kMo at mh
      have g63 := hMt6.2.1
      repeat' (first | (refine ky_ok_stp rfl ?_; simp (disch := first | omega | assumption) only [ky_stp, ky_inv, ky_ldi, ky_ldl, ky_ldd, ky_lda, ky_cl2, ky_st1, ky_st2, ky_s1i, ky_s2i, ky_s1l, ky_s2l, ky_sli, ky_s1f, ky_s2f, ky_s1d, ky_s2d, ky_sr, ky_sai, ky_sasi, ky_sasl, ky_sasr, ky_svr, ky_sv, ky_sv2, ky_s1, ky_cs, ky_pop, ky_nth, ky_snt, ky_obj, ky_ari, ky_arl, ky_arr, ky_arn, ky_fv, ky_rcv, List.map_cons, List.map_nil, List.drop_succ_cons, List.drop_zero, Value.category, Nat.reduceAdd, Nat.reduceSub, true_and, and_true, true_or, or_true, reduceCtorEq, ite_true, ite_false, eq_self, Nat.reduceEqDiff, Nat.reduceLeDiff, nI_add, nI_1, nI_leI, nI_ltI, nI_eq, nI_clamp, kz_m1, kz_mn, kz_mn2, kz_n0, kz_0n, kz_0, kz_le0, kz_0lt, false_implies, true_implies, not_false_eq_true, not_true_eq_false, Nat.zero_le, kb_0, kz_10, kz_of, ky_sw, kz_mx, kz_mi, mh, g63]) | (refine ⟨vp_in_nI (by omega) (by omega), ?_⟩) | (refine ⟨fun zc => ?_, fun zc => ?_⟩ <;> try (exfalso; omega)) | fail)
      have hgg : ∀ j, j ≠ 3 → g6 j = g1 j := fun j hj => (hg6 j hj).trans ((hg5 j hj).trans ((hg4 j hj).trans ((hg3 j hj).trans (hg2 j hj))))
      have hFF : kfr a f1 f6 (fun j => j = 170 ∨ j = 182) := kfr_tr (kfr_tr (kfr_tr (kfr_tr hF2 hF3 fun j hj => ⟨hj, hj⟩) hF4 fun j hj => ⟨hj, hj⟩) hF5 fun j hj => ⟨hj, hj⟩) hF6 fun j hj => ⟨hj, hj⟩
      exact hy c6 hl0 hc6 f6 g6 (kM_bt hM1 hMt6 (fun j hj => hgg j (by omega)) hFF) ((hgg 0 (by omega)).trans h10) (kfr_tr hF1 hFF fun j hj => ⟨hj, fun w => hj (by unfold kMF; omega)⟩)
  have mh := hM.2.1
  unfold kMo at mh
  refine ⟨Nat.le_of_ble_eq_true rfl, fun z => absurd z (by decide), ?_⟩; show ky_ok adK 198 0 [some (.ref (a 170)), some (.int x1), some (.int x2), some (.int x3), some (.int x4), some (.int x5)] [] f 0 0 _
  repeat' (first | (exact rest _ _ (kM_t0 hM) rfl (kMF_170 (kfr_up hM.1 kfr_rf rfl))) | (refine ky_ok_stp rfl ?_; simp (disch := first | omega | assumption) only [ky_stp, ky_inv, ky_ldi, ky_ldl, ky_ldd, ky_lda, ky_cl2, ky_st1, ky_st2, ky_s1i, ky_s2i, ky_s1l, ky_s2l, ky_sli, ky_s1f, ky_s2f, ky_s1d, ky_s2d, ky_sr, ky_sai, ky_sasi, ky_sasl, ky_sasr, ky_svr, ky_sv, ky_sv2, ky_s1, ky_cs, ky_pop, ky_nth, ky_snt, ky_obj, ky_ari, ky_arl, ky_arr, ky_arn, ky_fv, ky_rcv, List.map_cons, List.map_nil, List.drop_succ_cons, List.drop_zero, Value.category, Nat.reduceAdd, Nat.reduceSub, true_and, and_true, true_or, or_true, reduceCtorEq, ite_true, ite_false, eq_self, Nat.reduceEqDiff, Nat.reduceLeDiff, nI_add, nI_1, nI_leI, nI_ltI, nI_eq, nI_clamp, kz_m1, kz_mn, kz_mn2, kz_n0, kz_0n, kz_0, kz_le0, kz_0lt, false_implies, true_implies, not_false_eq_true, not_true_eq_false, Nat.zero_le, kb_0, kz_10, kz_of, ky_sw, kz_mx, kz_mi, mh]) | (refine ⟨vp_in_nI (by omega) (by omega), ?_⟩) | (refine ⟨fun zc => ?_, fun zc => ?_⟩ <;> try (exfalso; omega)) | fail)
theorem kx266 (hM : kMt a f g L c) (hb : b ≤ L) (hy : (∀ i, i < b → klt (c i)) → Q (.inl (some (.int 1))) f) (hz : ¬ (∀ i, i < b → klt (c i)) → Q (.inl (some (.int 0))) f) : ky_cl adK 266 [.ref (a 170), .int (nI b)] f Q := by
  have hMo := hM.1
  have hL7 := hM.2.2.1
  have mh := hMo
  unfold kMo at mh
  have lp : ∀ m k, k + m = b → (∀ i, i < k → klt (c i)) → ky_ok adK 266 2 [some (.ref (a 170)), some (.int (nI b)), some (.int (nI k))] [] f 0 0 Q := by
    intro m
    induction m with
    | zero =>
      intro k hk hx
      obtain rfl : k = b := by omega
      repeat' (first | (refine ky_ok_stp rfl ?_; simp (disch := first | omega | assumption) only [ky_stp, ky_inv, ky_ldi, ky_ldl, ky_ldd, ky_lda, ky_cl2, ky_st1, ky_st2, ky_s1i, ky_s2i, ky_s1l, ky_s2l, ky_sli, ky_s1f, ky_s2f, ky_s1d, ky_s2d, ky_sr, ky_sai, ky_sasi, ky_sasl, ky_sasr, ky_svr, ky_sv, ky_sv2, ky_s1, ky_cs, ky_pop, ky_nth, ky_snt, ky_obj, ky_ari, ky_arl, ky_arr, ky_arn, ky_fv, ky_rcv, List.map_cons, List.map_nil, List.drop_succ_cons, List.drop_zero, Value.category, Nat.reduceAdd, Nat.reduceSub, true_and, and_true, true_or, or_true, reduceCtorEq, ite_true, ite_false, eq_self, Nat.reduceEqDiff, Nat.reduceLeDiff, nI_add, nI_1, nI_leI, nI_ltI, nI_eq, nI_clamp, kz_m1, kz_mn, kz_mn2, kz_n0, kz_0n, kz_0, kz_le0, kz_0lt, false_implies, true_implies, not_false_eq_true, not_true_eq_false, Nat.zero_le, kb_0, kz_10, kz_of, ky_sw, kz_mx, kz_mi, mh]) | (refine ⟨vp_in_nI (by omega) (by omega), ?_⟩) | (refine ⟨fun zc => ?_, fun zc => ?_⟩ <;> try (exfalso; omega)) | fail)
      exact hy hx
    | succ m ih =>
      intro k hk hx
      have hc := (hM.2.2.2.choose_spec.2 k (by omega)).2
      by_cases e : klt (c k)
      · have hi := ih (k + 1) (by omega) fun i hi => if z : i = k then z ▸ e else hx i (by omega)
        repeat' (first | (refine kx200 hM (show k < L by omega) ?_; simp only [ky_aft, ky_vl, Nat.reduceAdd]) | (refine kx201 (show c k < 100000 by omega) ?_; simp only [ky_aft, ky_vl, Nat.reduceAdd]) | (exact hi) | (refine ky_ok_stp rfl ?_; simp (disch := first | omega | assumption) only [ky_stp, ky_inv, ky_ldi, ky_ldl, ky_ldd, ky_lda, ky_cl2, ky_st1, ky_st2, ky_s1i, ky_s2i, ky_s1l, ky_s2l, ky_sli, ky_s1f, ky_s2f, ky_s1d, ky_s2d, ky_sr, ky_sai, ky_sasi, ky_sasl, ky_sasr, ky_svr, ky_sv, ky_sv2, ky_s1, ky_cs, ky_pop, ky_nth, ky_snt, ky_obj, ky_ari, ky_arl, ky_arr, ky_arn, ky_fv, ky_rcv, List.map_cons, List.map_nil, List.drop_succ_cons, List.drop_zero, Value.category, Nat.reduceAdd, Nat.reduceSub, true_and, and_true, true_or, or_true, reduceCtorEq, ite_true, ite_false, eq_self, Nat.reduceEqDiff, Nat.reduceLeDiff, nI_add, nI_1, nI_leI, nI_ltI, nI_eq, nI_clamp, kz_m1, kz_mn, kz_mn2, kz_n0, kz_0n, kz_0, kz_le0, kz_0lt, false_implies, true_implies, not_false_eq_true, not_true_eq_false, Nat.zero_le, kb_0, kz_10, kz_of, ky_sw, kz_mx, kz_mi, mh, if_pos e]) | (refine ⟨vp_in_nI (by omega) (by omega), ?_⟩) | (refine ⟨fun zc => ?_, fun zc => ?_⟩ <;> try (exfalso; omega)) | fail)
      · have hq := hz fun w => e (w k (by omega))
        repeat' (first | (refine kx200 hM (show k < L by omega) ?_; simp only [ky_aft, ky_vl, Nat.reduceAdd]) | (refine kx201 (show c k < 100000 by omega) ?_; simp only [ky_aft, ky_vl, Nat.reduceAdd]) | (refine ky_ok_stp rfl ?_; simp (disch := first | omega | assumption) only [ky_stp, ky_inv, ky_ldi, ky_ldl, ky_ldd, ky_lda, ky_cl2, ky_st1, ky_st2, ky_s1i, ky_s2i, ky_s1l, ky_s2l, ky_sli, ky_s1f, ky_s2f, ky_s1d, ky_s2d, ky_sr, ky_sai, ky_sasi, ky_sasl, ky_sasr, ky_svr, ky_sv, ky_sv2, ky_s1, ky_cs, ky_pop, ky_nth, ky_snt, ky_obj, ky_ari, ky_arl, ky_arr, ky_arn, ky_fv, ky_rcv, List.map_cons, List.map_nil, List.drop_succ_cons, List.drop_zero, Value.category, Nat.reduceAdd, Nat.reduceSub, true_and, and_true, true_or, or_true, reduceCtorEq, ite_true, ite_false, eq_self, Nat.reduceEqDiff, Nat.reduceLeDiff, nI_add, nI_1, nI_leI, nI_ltI, nI_eq, nI_clamp, kz_m1, kz_mn, kz_mn2, kz_n0, kz_0n, kz_0, kz_le0, kz_0lt, false_implies, true_implies, not_false_eq_true, not_true_eq_false, Nat.zero_le, kb_0, kz_10, kz_of, ky_sw, kz_mx, kz_mi, mh, if_neg e]) | (refine ⟨vp_in_nI (by omega) (by omega), ?_⟩) | (refine ⟨fun zc => ?_, fun zc => ?_⟩ <;> try (exfalso; omega)) | fail)
        exact hq
  refine ⟨Nat.le_of_ble_eq_true rfl, fun z => absurd z (by decide), ?_⟩; show ky_ok adK 266 0 [some (.ref (a 170)), some (.int (nI b)), none] [] f 0 0 _
  repeat' (first | (refine lp b 0 (by omega) (fun i hi => absurd hi (Nat.not_lt_zero i))) | (refine ky_ok_stp rfl ?_; simp (disch := first | omega | assumption) only [ky_stp, ky_inv, ky_ldi, ky_ldl, ky_ldd, ky_lda, ky_cl2, ky_st1, ky_st2, ky_s1i, ky_s2i, ky_s1l, ky_s2l, ky_sli, ky_s1f, ky_s2f, ky_s1d, ky_s2d, ky_sr, ky_sai, ky_sasi, ky_sasl, ky_sasr, ky_svr, ky_sv, ky_sv2, ky_s1, ky_cs, ky_pop, ky_nth, ky_snt, ky_obj, ky_ari, ky_arl, ky_arr, ky_arn, ky_fv, ky_rcv, List.map_cons, List.map_nil, List.drop_succ_cons, List.drop_zero, Value.category, Nat.reduceAdd, Nat.reduceSub, true_and, and_true, true_or, or_true, reduceCtorEq, ite_true, ite_false, eq_self, Nat.reduceEqDiff, Nat.reduceLeDiff, nI_add, nI_1, nI_leI, nI_ltI, nI_eq, nI_clamp, kz_m1, kz_mn, kz_mn2, kz_n0, kz_0n, kz_0, kz_le0, kz_0lt, false_implies, true_implies, not_false_eq_true, not_true_eq_false, Nat.zero_le, kb_0, kz_10, kz_of, ky_sw, kz_mx, kz_mi]) | (refine ⟨vp_in_nI (by omega) (by omega), ?_⟩) | (refine ⟨fun zc => ?_, fun zc => ?_⟩ <;> try (exfalso; omega)) | fail)
theorem kx267 (hM : kM a f g s) (hz : kKz s) (hj : j ≤ s.o.n) (hx : x = nI j - 1) (hw : w ≤ 3) {W : List Nat} (hWd : kWd W) (h1 : q1 = kHf W 0) (h2' : q2 = kHf W 4) (hQ : kAQ a f g (kTi' s j w (kNW W)) Q) : ky_cl adK 267 [.ref (a 170), .int x, .int (nI w), .int q1, .int q2] f Q := by
  have ho := hz.o
  have h60 := ho.n60
  obtain ⟨ha, hMo, ⟨⟨r, hr, hR⟩, -⟩, -⟩ := id hM
  have mh := hMo
  unfold kMo at mh
  have hL := kRw_l ho hR
  have r0 := hR.1
  have e60 : (60 : Int32) = nI 60 := rfl
  have e6 : (6 : Int32) = nI 6 := rfl
  unfold kTi' at hQ
  refine ⟨Nat.le_of_ble_eq_true rfl, fun z => absurd z (by decide), ?_⟩; show ky_ok adK 267 0 [some (.ref (a 170)), some (.int x), some (.int (nI w)), some (.int q1), some (.int q2), none, none, none] [] f 0 0 _
  by_cases hn : s.o.n = 60
  · rw [if_pos hn] at hQ
    repeat' (first | (refine kx172 hMo hr ?_; simp only [ky_aft, ky_vl, Nat.reduceAdd]) | (refine kx265a (k := 3) hM (by decide) ?_) | (refine ky_ok_stp rfl ?_; simp (disch := first | omega | assumption) only [ky_stp, ky_inv, ky_ldi, ky_ldl, ky_ldd, ky_lda, ky_cl2, ky_st1, ky_st2, ky_s1i, ky_s2i, ky_s1l, ky_s2l, ky_sli, ky_s1f, ky_s2f, ky_s1d, ky_s2d, ky_sr, ky_sai, ky_sasi, ky_sasl, ky_sasr, ky_svr, ky_sv, ky_sv2, ky_s1, ky_cs, ky_pop, ky_nth, ky_snt, ky_obj, ky_ari, ky_arl, ky_arr, ky_arn, ky_fv, ky_rcv, List.map_cons, List.map_nil, List.drop_succ_cons, List.drop_zero, Value.category, Nat.reduceAdd, Nat.reduceSub, true_and, and_true, true_or, or_true, reduceCtorEq, ite_true, ite_false, eq_self, Nat.reduceEqDiff, Nat.reduceLeDiff, nI_add, nI_1, nI_leI, nI_ltI, nI_eq, nI_clamp, kz_m1, kz_mn, kz_mn2, kz_n0, kz_0n, kz_0, kz_le0, kz_0lt, false_implies, true_implies, not_false_eq_true, not_true_eq_false, Nat.zero_le, kb_0, kz_10, kz_of, ky_sw, kz_mx, kz_mi, mh, r0, hn, e60]) | (refine ⟨vp_in_nI (by omega) (by omega), ?_⟩) | (refine ⟨fun zc => ?_, fun zc => ?_⟩ <;> try (exfalso; omega)) | fail)
    intro f1 g1 w1 w2 w3
    (try simp only [ky_aft, ky_vl, Nat.reduceAdd])
    repeat' (first | (refine ky_ok_stp rfl ?_; simp (disch := first | omega | assumption) only [ky_stp, ky_inv, ky_ldi, ky_ldl, ky_ldd, ky_lda, ky_cl2, ky_st1, ky_st2, ky_s1i, ky_s2i, ky_s1l, ky_s2l, ky_sli, ky_s1f, ky_s2f, ky_s1d, ky_s2d, ky_sr, ky_sai, ky_sasi, ky_sasl, ky_sasr, ky_svr, ky_sv, ky_sv2, ky_s1, ky_cs, ky_pop, ky_nth, ky_snt, ky_obj, ky_ari, ky_arl, ky_arr, ky_arn, ky_fv, ky_rcv, List.map_cons, List.map_nil, List.drop_succ_cons, List.drop_zero, Value.category, Nat.reduceAdd, Nat.reduceSub, true_and, and_true, true_or, or_true, reduceCtorEq, ite_true, ite_false, eq_self, Nat.reduceEqDiff, Nat.reduceLeDiff, nI_add, nI_1, nI_leI, nI_ltI, nI_eq, nI_clamp, kz_m1, kz_mn, kz_mn2, kz_n0, kz_0n, kz_0, kz_le0, kz_0lt, false_implies, true_implies, not_false_eq_true, not_true_eq_false, Nat.zero_le, kb_0, kz_10, kz_of, ky_sw, kz_mx, kz_mi]) | (refine ⟨vp_in_nI (by omega) (by omega), ?_⟩) | (refine ⟨fun zc => ?_, fun zc => ?_⟩ <;> try (exfalso; omega)) | fail)
    (first | exact hQ f1 g1 w1 w2 w3 | exact ⟨by decide, hQ f1 g1 w1 w2 w3⟩)
  rw [if_neg hn] at hQ
  -- behind the level
  have main : ∀ lv to, lv = kIlv s.o j w → to = kIpl s.o j w → lv ≤ 6 → to ≤ s.o.n → kAQ a f g (nI (kIpl s.o j w), (kBeg s).setO (kInz s.o j w (kNW W))) Q → ky_ok adK 267 65 [some (.ref (a 170)), some (.int x), some (.int (nI w)), some (.int q1), some (.int q2), some (.int (nI lv)), some (.int (nI to)), none] [] f 0 0 Q := by
    intro lv to hlv hto hl6 hton hQ
    repeat' (first | (refine kx264 hM hz ?_) | (refine ky_ok_stp rfl ?_; simp (disch := first | omega | assumption) only [ky_stp, ky_inv, ky_ldi, ky_ldl, ky_ldd, ky_lda, ky_cl2, ky_st1, ky_st2, ky_s1i, ky_s2i, ky_s1l, ky_s2l, ky_sli, ky_s1f, ky_s2f, ky_s1d, ky_s2d, ky_sr, ky_sai, ky_sasi, ky_sasl, ky_sasr, ky_svr, ky_sv, ky_sv2, ky_s1, ky_cs, ky_pop, ky_nth, ky_snt, ky_obj, ky_ari, ky_arl, ky_arr, ky_arn, ky_fv, ky_rcv, List.map_cons, List.map_nil, List.drop_succ_cons, List.drop_zero, Value.category, Nat.reduceAdd, Nat.reduceSub, true_and, and_true, true_or, or_true, reduceCtorEq, ite_true, ite_false, eq_self, Nat.reduceEqDiff, Nat.reduceLeDiff, nI_add, nI_1, nI_leI, nI_ltI, nI_eq, nI_clamp, kz_m1, kz_mn, kz_mn2, kz_n0, kz_0n, kz_0, kz_le0, kz_0lt, false_implies, true_implies, not_false_eq_true, not_true_eq_false, Nat.zero_le, kb_0, kz_10, kz_of, ky_sw, kz_mx, kz_mi, mh]) | (refine ⟨vp_in_nI (by omega) (by omega), ?_⟩) | (refine ⟨fun zc => ?_, fun zc => ?_⟩ <;> try (exfalso; omega)) | fail)
    clear h60 hL mh hMo hr hR r0
    intro f1 g1 hM1 hg1 hF1
    try simp only [ky_aft, ky_vl, Nat.reduceAdd]
    obtain ⟨ha, hMo, ⟨⟨r, hr, hR⟩, -⟩, h2, h3, -⟩ := id hM1
    have hR : kRw r s.o := hR
    have mh := hMo
    unfold kMo at mh
    have h60 := ho.n60
    have hL := kRw_l ho hR
    have h184 := h2.2.2.2.2.2.2.2.1
    obtain ⟨B0, h184⟩ := h184
    have lp : ∀ m k f2 B2, k + m = 6 → f2 (a 184) = some (.inl (1, 360, .inl B2)) → (∀ u, u < k → B2 u = 0) → kfr a f1 f2 (fun j => j = 184) → ky_ok adK 267 72 [some (.ref (a 170)), some (.int x), some (.int (nI w)), some (.int q1), some (.int q2), some (.int (nI lv)), some (.int (nI to)), some (.int (nI k))] [] f2 0 0 Q := by
      intro m
      induction m with
      | zero =>
        intro k f2 B2 hk h184' hb hF2
        obtain rfl : k = 6 := by omega
        have hM2 := kMo_fq hMo hF2 (by omega)
        have mh2 := hM2
        unfold kMo at mh2
        have hr2 : f2 (a 171) = some (.inl (1, 388, .inl r)) := (hF2 171 (by omega)).trans hr
        have hFu : kfr a f2 (ky_up (ky_up f2 (a 184) (.inl (1, 360, .inl (upd B2 3 q1)))) (a 184) (.inl (1, 360, .inl (upd (upd B2 3 q1) 4 q2)))) (fun j => j = 184) := kfr_up ha (kfr_up ha kfr_rf rfl) rfl
        have hFu1 : kfr a f2 (ky_up f2 (a 184) (.inl (1, 360, .inl (upd B2 3 q1)))) (fun j => j = 184) := kfr_up ha kfr_rf rfl
        have e3 : (3 : Int32) = nI 3 := rfl
        have e4 : (4 : Int32) = nI 4 := rfl
        have e1 : (1 : Int32) = nI 1 := rfl
        repeat' (first | (refine kx254 (m := 1) (n := s.o.n) ha (kMo_fq hM2 hFu (by omega)) ((hFu 171 (by omega)).trans hr2) kz_same hR.1 (by omega) hton (Nat.le_refl _) ?_) | (refine ky_ok_stp rfl ?_; simp (disch := first | omega | assumption) only [ky_stp, ky_inv, ky_ldi, ky_ldl, ky_ldd, ky_lda, ky_cl2, ky_st1, ky_st2, ky_s1i, ky_s2i, ky_s1l, ky_s2l, ky_sli, ky_s1f, ky_s2f, ky_s1d, ky_s2d, ky_sr, ky_sai, ky_sasi, ky_sasl, ky_sasr, ky_svr, ky_sv, ky_sv2, ky_s1, ky_cs, ky_pop, ky_nth, ky_snt, ky_obj, ky_ari, ky_arl, ky_arr, ky_arn, ky_fv, ky_rcv, List.map_cons, List.map_nil, List.drop_succ_cons, List.drop_zero, Value.category, Nat.reduceAdd, Nat.reduceSub, true_and, and_true, true_or, or_true, reduceCtorEq, ite_true, ite_false, eq_self, Nat.reduceEqDiff, Nat.reduceLeDiff, nI_add, nI_1, nI_leI, nI_ltI, nI_eq, nI_clamp, kz_m1, kz_mn, kz_mn2, kz_n0, kz_0n, kz_0, kz_le0, kz_0lt, false_implies, true_implies, not_false_eq_true, not_true_eq_false, Nat.zero_le, kb_0, kz_10, kz_of, ky_sw, kz_mx, kz_mi, mh2, kz_up, kI_ne ha, h184', e3, e4, e6]) | (refine ⟨vp_in_nI (by omega) (by omega), ?_⟩) | (refine ⟨fun zc => ?_, fun zc => ?_⟩ <;> try (exfalso; omega)) | fail)
        intro f3 T h171 t0 tx ty hF3
        (try simp only [ky_aft, ky_vl, Nat.reduceAdd])
        repeat' (first | (refine ky_ok_stp rfl ?_; simp (disch := first | omega | assumption) only [ky_stp, ky_inv, ky_ldi, ky_ldl, ky_ldd, ky_lda, ky_cl2, ky_st1, ky_st2, ky_s1i, ky_s2i, ky_s1l, ky_s2l, ky_sli, ky_s1f, ky_s2f, ky_s1d, ky_s2d, ky_sr, ky_sai, ky_sasi, ky_sasl, ky_sasr, ky_svr, ky_sv, ky_sv2, ky_s1, ky_cs, ky_pop, ky_nth, ky_snt, ky_obj, ky_ari, ky_arl, ky_arr, ky_arn, ky_fv, ky_rcv, List.map_cons, List.map_nil, List.drop_succ_cons, List.drop_zero, Value.category, Nat.reduceAdd, Nat.reduceSub, true_and, and_true, true_or, or_true, reduceCtorEq, ite_true, ite_false, eq_self, Nat.reduceEqDiff, Nat.reduceLeDiff, nI_add, nI_1, nI_leI, nI_ltI, nI_eq, nI_clamp, kz_m1, kz_mn, kz_mn2, kz_n0, kz_0n, kz_0, kz_le0, kz_0lt, false_implies, true_implies, not_false_eq_true, not_true_eq_false, Nat.zero_le, kb_0, kz_10, kz_of, ky_sw, kz_mx, kz_mi]) | (refine ⟨vp_in_nI (by omega) (by omega), ?_⟩) | (refine ⟨fun zc => ?_, fun zc => ?_⟩ <;> try (exfalso; omega)) | fail)
        have hFF : kfr a f1 f3 kTF := kfr_tr (kfr_tr (T := fun j => j = 184) hF2 hFu fun j hj => ⟨hj, hj⟩) hF3 fun j hj => ⟨fun w => hj (Or.inr w), fun w => hj (Or.inl w)⟩
        have h184'' : ∃ B : Nat → Int32, f3 (a 184) = some (.inl (1, 360, .inl B)) := ⟨_, (hF3 184 (by omega)).trans kz_same⟩
        have hRz : kRw T (kInz s.o j w (kNW W)) := by
          refine ⟨t0, fun i hi => ?_, fun c l hc w1 w6 => by rw [tx _ (by omega) (by omega)]; exact hR.2.2 c l hc w1 w6⟩
          have hi : i < s.o.n + 1 := hi
          have hRi : (kInz s.o j w (kNW W)).R i = if i < kIpl s.o j w then s.o.R i else if i = kIpl s.o j w then (kNW W, nI (kIlv s.o j w), 0, 0) else s.o.R (i - 1) := rfl
          rw [← hto, ← hlv] at hRi
          unfold kL kPl kFo kN
          rw [hRi]
          have y5 := fun u (hu : u < 6) => ty i u hu hi
          by_cases c1 : i < to
          · obtain ⟨a0, a1, a2, wd, a3, a4, a5, a6⟩ := hR.2.1 i (by omega)
            have y0 := y5 0 (by omega)
            rw [Nat.add_zero, Nat.add_zero] at y0
            rw [y0, y5 1 (by omega), y5 2 (by omega), y5 3 (by omega), y5 4 (by omega), if_pos c1, if_pos c1, if_pos c1, if_pos c1, if_pos c1, if_pos c1]
            exact ⟨a0, a1, a2, wd, a3, a4, a5, a6⟩
          · by_cases c2 : i = to
            · subst c2
              have y0 := y5 0 (by omega)
              rw [Nat.add_zero, if_neg c1, if_pos (by omega), if_pos rfl, Nat.sub_self] at y0
              have z := fun u (hu : u < 6) (h0 : u ≠ 0) => (y5 u hu).trans (by rw [if_neg c1, if_pos (by omega), if_neg h0, Nat.sub_self])
              rw [y0, z 1 (by omega) (by omega), z 2 (by omega) (by omega), z 3 (by omega) (by omega), z 4 (by omega) (by omega), if_neg c1, if_pos rfl]
              refine ⟨?_, ?_, ?_, W, rfl, hWd, ?_, ?_⟩
              · show upd (upd B2 3 q1) 4 q2 0 + nI lv = nI lv
                rw [pk_un (by omega), pk_un (by omega), hb 0 (by omega), Int32.zero_add]
              · show upd (upd B2 3 q1) 4 q2 1 = 0
                rw [pk_un (by omega), pk_un (by omega), hb 1 (by omega)]
              · show upd (upd B2 3 q1) 4 q2 2 = 0
                rw [pk_un (by omega), pk_un (by omega), hb 2 (by omega)]
              · show upd (upd B2 3 q1) 4 q2 3 = _
                rw [pk_un (by omega), pk_us]; exact h1
              · show upd (upd B2 3 q1) 4 q2 4 = _
                rw [pk_us]; exact h2'
            · obtain ⟨a0, a1, a2, wd, a3, a4, a5, a6⟩ := hR.2.1 (i - 1) (by omega)
              have y0 := y5 0 (by omega)
              have c3 : ¬ i < to + 1 := by omega
              rw [Nat.add_zero, Nat.add_zero] at y0
              rw [y0, y5 1 (by omega), y5 2 (by omega), y5 3 (by omega), y5 4 (by omega), if_neg c1, if_neg c1, if_neg c1, if_neg c1, if_neg c1, if_neg c1, if_neg c3, if_neg c3, if_neg c3, if_neg c3, if_neg c3, if_neg c2]
              exact ⟨a0, a1, a2, wd, a3, a4, a5, a6⟩
        have hqq := hQ f3 g1 (kM_oT hM1 hFF (fun j h => h) h171 h184'' hRz) ⟨hg1 0 (by decide), hg1 11 (by decide)⟩ (kMF_bt hF1 hFF)
        rw [← hto] at hqq
        exact hqq
      | succ m ih =>
        intro k f2 B2 hk h184' hb hF2
        have hM2 := kMo_fq hMo hF2 (by omega)
        have mh2 := hM2
        unfold kMo at mh2
        have hi := ih (k + 1) (ky_up f2 (a 184) (.inl (1, 360, .inl (upd B2 k 0)))) _ (by omega) kz_same (fun u hu => by
          by_cases e : u = k
          · subst e; rw [pk_us]
          · rw [pk_un e]; exact hb u (by omega)) (kfr_up ha hF2 rfl)
        repeat' (first | (exact hi) | (refine ky_ok_stp rfl ?_; simp (disch := first | omega | assumption) only [ky_stp, ky_inv, ky_ldi, ky_ldl, ky_ldd, ky_lda, ky_cl2, ky_st1, ky_st2, ky_s1i, ky_s2i, ky_s1l, ky_s2l, ky_sli, ky_s1f, ky_s2f, ky_s1d, ky_s2d, ky_sr, ky_sai, ky_sasi, ky_sasl, ky_sasr, ky_svr, ky_sv, ky_sv2, ky_s1, ky_cs, ky_pop, ky_nth, ky_snt, ky_obj, ky_ari, ky_arl, ky_arr, ky_arn, ky_fv, ky_rcv, List.map_cons, List.map_nil, List.drop_succ_cons, List.drop_zero, Value.category, Nat.reduceAdd, Nat.reduceSub, true_and, and_true, true_or, or_true, reduceCtorEq, ite_true, ite_false, eq_self, Nat.reduceEqDiff, Nat.reduceLeDiff, nI_add, nI_1, nI_leI, nI_ltI, nI_eq, nI_clamp, kz_m1, kz_mn, kz_mn2, kz_n0, kz_0n, kz_0, kz_le0, kz_0lt, false_implies, true_implies, not_false_eq_true, not_true_eq_false, Nat.zero_le, kb_0, kz_10, kz_of, ky_sw, kz_mx, kz_mi, mh2, h184', e6]) | (refine ⟨vp_in_nI (by omega) (by omega), ?_⟩) | (refine ⟨fun zc => ?_, fun zc => ?_⟩ <;> try (exfalso; omega)) | fail)
    have hl := lp 6 0 f1 B0 (by omega) h184 (fun u hu => absurd hu (Nat.not_lt_zero u)) kfr_rf
    repeat' (first | (exact hl) | (refine ky_ok_stp rfl ?_; simp (disch := first | omega | assumption) only [ky_stp, ky_inv, ky_ldi, ky_ldl, ky_ldd, ky_lda, ky_cl2, ky_st1, ky_st2, ky_s1i, ky_s2i, ky_s1l, ky_s2l, ky_sli, ky_s1f, ky_s2f, ky_s1d, ky_s2d, ky_sr, ky_sai, ky_sasi, ky_sasl, ky_sasr, ky_svr, ky_sv, ky_sv2, ky_s1, ky_cs, ky_pop, ky_nth, ky_snt, ky_obj, ky_ari, ky_arl, ky_arr, ky_arn, ky_fv, ky_rcv, List.map_cons, List.map_nil, List.drop_succ_cons, List.drop_zero, Value.category, Nat.reduceAdd, Nat.reduceSub, true_and, and_true, true_or, or_true, reduceCtorEq, ite_true, ite_false, eq_self, Nat.reduceEqDiff, Nat.reduceLeDiff, nI_add, nI_1, nI_leI, nI_ltI, nI_eq, nI_clamp, kz_m1, kz_mn, kz_mn2, kz_n0, kz_0n, kz_0, kz_le0, kz_0lt, false_implies, true_implies, not_false_eq_true, not_true_eq_false, Nat.zero_le, kb_0, kz_10, kz_of, ky_sw, kz_mx, kz_mi]) | (refine ⟨vp_in_nI (by omega) (by omega), ?_⟩) | (refine ⟨fun zc => ?_, fun zc => ?_⟩ <;> try (exfalso; omega)) | fail)
  match j, hj, hx with
  | 0, hj, hx =>
    rw [kz_z] at hx
    subst hx
    have el : kIlv s.o 0 w = 1 := rfl
    rw [el, if_neg (by decide)] at hQ
    have hm := main 1 s.o.n rfl rfl (by decide) (Nat.le_refl _) hQ
    have e16 : ((1 : Int32) ≤ nI 6) = True := eq_true (by decide)
    repeat' (first | (exact hm) | (refine kx172 hMo hr ?_; simp only [ky_aft, ky_vl, Nat.reduceAdd]) | (refine ky_ok_stp rfl ?_; simp (disch := first | omega | assumption) only [ky_stp, ky_inv, ky_ldi, ky_ldl, ky_ldd, ky_lda, ky_cl2, ky_st1, ky_st2, ky_s1i, ky_s2i, ky_s1l, ky_s2l, ky_sli, ky_s1f, ky_s2f, ky_s1d, ky_s2d, ky_sr, ky_sai, ky_sasi, ky_sasl, ky_sasr, ky_svr, ky_sv, ky_sv2, ky_s1, ky_cs, ky_pop, ky_nth, ky_snt, ky_obj, ky_ari, ky_arl, ky_arr, ky_arn, ky_fv, ky_rcv, List.map_cons, List.map_nil, List.drop_succ_cons, List.drop_zero, Value.category, Nat.reduceAdd, Nat.reduceSub, true_and, and_true, true_or, or_true, reduceCtorEq, ite_true, ite_false, eq_self, Nat.reduceEqDiff, Nat.reduceLeDiff, nI_add, nI_1, nI_leI, nI_ltI, nI_eq, nI_clamp, kz_m1, kz_mn, kz_mn2, kz_n0, kz_0n, kz_0, kz_le0, kz_0lt, false_implies, true_implies, not_false_eq_true, not_true_eq_false, Nat.zero_le, kb_0, kz_10, kz_of, ky_sw, kz_mx, kz_mi, mh, r0, eq_false hn, e60, e6, e16]) | (refine ⟨vp_in_nI (by omega) (by omega), ?_⟩) | (refine ⟨fun zc => ?_, fun zc => ?_⟩ <;> try (exfalso; omega)) | fail)
  | p + 1, hj, hx =>
    rw [nI_pred] at hx
    subst hx
    have hp : p < s.o.n := hj
    have el : kIlv s.o (p + 1) w = kNl s.o p w := rfl
    have hkl := kLB_nl ho (w := w) hp
    have hnl : kNl s.o p w ≤ 7 := by
      have := (ho.lv _ hp).2.2
      unfold kNl
      split <;> omega
    rw [el] at hQ
    by_cases c : 6 < kNl s.o p w
    · rw [if_pos c] at hQ
      repeat' (first | (refine kx172 hMo hr ?_; simp only [ky_aft, ky_vl, Nat.reduceAdd]) | (refine kx251 hMo hr hL hp hw ?_; simp only [ky_aft, ky_vl, Nat.reduceAdd]) | (refine kx265a (k := 1) hM (by decide) ?_) | (refine ky_ok_stp rfl ?_; simp (disch := first | omega | assumption) only [ky_stp, ky_inv, ky_ldi, ky_ldl, ky_ldd, ky_lda, ky_cl2, ky_st1, ky_st2, ky_s1i, ky_s2i, ky_s1l, ky_s2l, ky_sli, ky_s1f, ky_s2f, ky_s1d, ky_s2d, ky_sr, ky_sai, ky_sasi, ky_sasl, ky_sasr, ky_svr, ky_sv, ky_sv2, ky_s1, ky_cs, ky_pop, ky_nth, ky_snt, ky_obj, ky_ari, ky_arl, ky_arr, ky_arn, ky_fv, ky_rcv, List.map_cons, List.map_nil, List.drop_succ_cons, List.drop_zero, Value.category, Nat.reduceAdd, Nat.reduceSub, true_and, and_true, true_or, or_true, reduceCtorEq, ite_true, ite_false, eq_self, Nat.reduceEqDiff, Nat.reduceLeDiff, nI_add, nI_1, nI_leI, nI_ltI, nI_eq, nI_clamp, kz_m1, kz_mn, kz_mn2, kz_n0, kz_0n, kz_0, kz_le0, kz_0lt, false_implies, true_implies, not_false_eq_true, not_true_eq_false, Nat.zero_le, kb_0, kz_10, kz_of, ky_sw, kz_mx, kz_mi, mh, r0, eq_false hn, e60, e6, kz_nm, hkl, show ¬ kNl s.o p w ≤ 6 by omega]) | (refine ⟨vp_in_nI (by omega) (by omega), ?_⟩) | (refine ⟨fun zc => ?_, fun zc => ?_⟩ <;> try (exfalso; omega)) | fail)
      intro f1 g1 w1 w2 w3
      (try simp only [ky_aft, ky_vl, Nat.reduceAdd])
      repeat' (first | (refine ky_ok_stp rfl ?_; simp (disch := first | omega | assumption) only [ky_stp, ky_inv, ky_ldi, ky_ldl, ky_ldd, ky_lda, ky_cl2, ky_st1, ky_st2, ky_s1i, ky_s2i, ky_s1l, ky_s2l, ky_sli, ky_s1f, ky_s2f, ky_s1d, ky_s2d, ky_sr, ky_sai, ky_sasi, ky_sasl, ky_sasr, ky_svr, ky_sv, ky_sv2, ky_s1, ky_cs, ky_pop, ky_nth, ky_snt, ky_obj, ky_ari, ky_arl, ky_arr, ky_arn, ky_fv, ky_rcv, List.map_cons, List.map_nil, List.drop_succ_cons, List.drop_zero, Value.category, Nat.reduceAdd, Nat.reduceSub, true_and, and_true, true_or, or_true, reduceCtorEq, ite_true, ite_false, eq_self, Nat.reduceEqDiff, Nat.reduceLeDiff, nI_add, nI_1, nI_leI, nI_ltI, nI_eq, nI_clamp, kz_m1, kz_mn, kz_mn2, kz_n0, kz_0n, kz_0, kz_le0, kz_0lt, false_implies, true_implies, not_false_eq_true, not_true_eq_false, Nat.zero_le, kb_0, kz_10, kz_of, ky_sw, kz_mx, kz_mi]) | (refine ⟨vp_in_nI (by omega) (by omega), ?_⟩) | (refine ⟨fun zc => ?_, fun zc => ?_⟩ <;> try (exfalso; omega)) | fail)
      (first | exact hQ f1 g1 w1 w2 w3 | exact ⟨by decide, hQ f1 g1 w1 w2 w3⟩)
    · rw [if_neg c] at hQ
      have hto : kTo2 s.o p w ≤ s.o.n := by
        have := kEnd_le hp
        rw [kTo2_e]
        split
        · omega
        · split <;> omega
      have hm := main (kNl s.o p w) (kTo2 s.o p w) rfl rfl (by omega) hto hQ
      have hPB : kPB (kL s.o.R) s.o.n (p + 1) w = kTo2 s.o p w := rfl
      repeat' (first | (exact hm) | (refine kx172 hMo hr ?_; simp only [ky_aft, ky_vl, Nat.reduceAdd]) | (refine kx251 hMo hr hL hp hw ?_; simp only [ky_aft, ky_vl, Nat.reduceAdd]) | (refine kx255 hMo hr hL hp hw ?_; simp only [ky_aft, ky_vl, Nat.reduceAdd]) | (refine ky_ok_stp rfl ?_; simp (disch := first | omega | assumption) only [ky_stp, ky_inv, ky_ldi, ky_ldl, ky_ldd, ky_lda, ky_cl2, ky_st1, ky_st2, ky_s1i, ky_s2i, ky_s1l, ky_s2l, ky_sli, ky_s1f, ky_s2f, ky_s1d, ky_s2d, ky_sr, ky_sai, ky_sasi, ky_sasl, ky_sasr, ky_svr, ky_sv, ky_sv2, ky_s1, ky_cs, ky_pop, ky_nth, ky_snt, ky_obj, ky_ari, ky_arl, ky_arr, ky_arn, ky_fv, ky_rcv, List.map_cons, List.map_nil, List.drop_succ_cons, List.drop_zero, Value.category, Nat.reduceAdd, Nat.reduceSub, true_and, and_true, true_or, or_true, reduceCtorEq, ite_true, ite_false, eq_self, Nat.reduceEqDiff, Nat.reduceLeDiff, nI_add, nI_1, nI_leI, nI_ltI, nI_eq, nI_clamp, kz_m1, kz_mn, kz_mn2, kz_n0, kz_0n, kz_0, kz_le0, kz_0lt, false_implies, true_implies, not_false_eq_true, not_true_eq_false, Nat.zero_le, kb_0, kz_10, kz_of, ky_sw, kz_mx, kz_mi, mh, r0, eq_false hn, e60, e6, kz_nm, hkl, hPB, show kNl s.o p w ≤ 6 by omega]) | (refine ⟨vp_in_nI (by omega) (by omega), ?_⟩) | (refine ⟨fun zc => ?_, fun zc => ?_⟩ <;> try (exfalso; omega)) | fail)
theorem kx268 (hM : kM a f g s) (hz : kKz s) (hy : ∀ j w b, j ≤ s.o.n → w ≤ 3 → 1 ≤ b → b ≤ 8 → x = nI j - 1 → y = nI w → v = nI b → kIsN s.bl s.bc b → kMQ a f (kTi' (s.setB 0 s.bc) j w (kNW (kTl s.bc 0 b))).2 0 Q (kTi' (s.setB 0 s.bc) j w (kNW (kTl s.bc 0 b))).1) (h1 : ¬ (kHas s.o.n x ∨ x = -1) → kMQ a f s 1 Q 0) (h2' : (kHas s.o.n x ∨ x = -1) → ¬ (kRg 0 3 y ∧ ∃ b, 1 ≤ b ∧ b ≤ 8 ∧ v = nI b ∧ kIsN s.bl s.bc b) → kMQ a f s 2 Q 0) : ky_cl adK 268 [.ref (a 170), .int x, .int y, .int v] f Q := by
  have ho := hz.o
  have e3 : (3 : Int32) = nI 3 := rfl
  have e8 : (8 : Int32) = nI 8 := rfl
  have e4 : (4 : Int32) = nI 4 := rfl
  have rest : ∀ f1 g1, kM a f1 g1 s → g1 0 = 0 → kfr a f f1 kMF → ky_ok adK 268 5 [some (.ref (a 170)), some (.int x), some (.int y), some (.int v), none, none] [] f1 0 0 Q := by
    intro f1 g1 hM1 h10 hF1
    obtain ⟨ha, hMo, ⟨⟨r, hr, hR⟩, hU, hV, hC, hT, hW⟩, h2, h3, h4⟩ := id hM1
    have mh := hMo
    unfold kMo at mh
    have h60 := ho.n60
    have hL := kRw_l ho hR
    have hMt := kM_mt hM1
    have hL7 := hMt.2.2.1
    have g3 := h3.2.1
    by_cases hx : kHas s.o.n x ∨ x = -1
    case neg =>
      have hq := h1 hx
      have hxm : (x = -1) = False := eq_false fun w => hx (.inr w)
      repeat' (first | ((refine kx222 hMo hr h60 hR.1 (fun w => absurd (.inl w) hx) (fun _ => ?_); simp only [ky_aft, ky_vl, Nat.reduceAdd])) | (refine kx170t (p := 1) hM1 h10 (by decide) ?_) | (refine ky_ok_stp rfl ?_; simp (disch := first | omega | assumption) only [ky_stp, ky_inv, ky_ldi, ky_ldl, ky_ldd, ky_lda, ky_cl2, ky_st1, ky_st2, ky_s1i, ky_s2i, ky_s1l, ky_s2l, ky_sli, ky_s1f, ky_s2f, ky_s1d, ky_s2d, ky_sr, ky_sai, ky_sasi, ky_sasl, ky_sasr, ky_svr, ky_sv, ky_sv2, ky_s1, ky_cs, ky_pop, ky_nth, ky_snt, ky_obj, ky_ari, ky_arl, ky_arr, ky_arn, ky_fv, ky_rcv, List.map_cons, List.map_nil, List.drop_succ_cons, List.drop_zero, Value.category, Nat.reduceAdd, Nat.reduceSub, true_and, and_true, true_or, or_true, reduceCtorEq, ite_true, ite_false, eq_self, Nat.reduceEqDiff, Nat.reduceLeDiff, nI_add, nI_1, nI_leI, nI_ltI, nI_eq, nI_clamp, kz_m1, kz_mn, kz_mn2, kz_n0, kz_0n, kz_0, kz_le0, kz_0lt, false_implies, true_implies, not_false_eq_true, not_true_eq_false, Nat.zero_le, kb_0, kz_10, kz_of, ky_sw, kz_mx, kz_mi, mh, hxm]) | (refine ⟨vp_in_nI (by omega) (by omega), ?_⟩) | (refine ⟨fun zc => ?_, fun zc => ?_⟩ <;> try (exfalso; omega)) | fail)
      intro f2 g2 w1 w2 w3
      try simp only [ky_aft, ky_vl, Nat.reduceAdd]
      repeat' (first | (refine ky_ok_stp rfl ?_; simp (disch := first | omega | assumption) only [ky_stp, ky_inv, ky_ldi, ky_ldl, ky_ldd, ky_lda, ky_cl2, ky_st1, ky_st2, ky_s1i, ky_s2i, ky_s1l, ky_s2l, ky_sli, ky_s1f, ky_s2f, ky_s1d, ky_s2d, ky_sr, ky_sai, ky_sasi, ky_sasl, ky_sasr, ky_svr, ky_sv, ky_sv2, ky_s1, ky_cs, ky_pop, ky_nth, ky_snt, ky_obj, ky_ari, ky_arl, ky_arr, ky_arn, ky_fv, ky_rcv, List.map_cons, List.map_nil, List.drop_succ_cons, List.drop_zero, Value.category, Nat.reduceAdd, Nat.reduceSub, true_and, and_true, true_or, or_true, reduceCtorEq, ite_true, ite_false, eq_self, Nat.reduceEqDiff, Nat.reduceLeDiff, nI_add, nI_1, nI_leI, nI_ltI, nI_eq, nI_clamp, kz_m1, kz_mn, kz_mn2, kz_n0, kz_0n, kz_0, kz_le0, kz_0lt, false_implies, true_implies, not_false_eq_true, not_true_eq_false, Nat.zero_le, kb_0, kz_10, kz_of, ky_sw, kz_mx, kz_mi]) | (refine ⟨vp_in_nI (by omega) (by omega), ?_⟩) | (refine ⟨fun zc => ?_, fun zc => ?_⟩ <;> try (exfalso; omega)) | fail)
      (first | exact hq f2 g2 w1 w2 (kfr_tr hF1 w3 fun j hj => ⟨hj, hj⟩) | exact ⟨by decide, hq f2 g2 w1 w2 (kfr_tr hF1 w3 fun j hj => ⟨hj, hj⟩)⟩)
    -- behind the first
    have st : ky_ok adK 268 31 [some (.ref (a 170)), some (.int x), some (.int y), some (.int v), none, none] [] f1 0 0 Q := by
      by_cases hyy : kRg 0 3 y
      case neg =>
        have hq := h2' hx fun w => hyy w.1
        repeat' (first | ((refine kr_inx (lo := 0) (hi := 3) (by decide) (by decide) hyy ?_; simp only [ky_aft, ky_vl, Nat.reduceAdd])) | (refine kx170t (p := 2) hM1 h10 (by decide) ?_) | (refine ky_ok_stp rfl ?_; simp (disch := first | omega | assumption) only [ky_stp, ky_inv, ky_ldi, ky_ldl, ky_ldd, ky_lda, ky_cl2, ky_st1, ky_st2, ky_s1i, ky_s2i, ky_s1l, ky_s2l, ky_sli, ky_s1f, ky_s2f, ky_s1d, ky_s2d, ky_sr, ky_sai, ky_sasi, ky_sasl, ky_sasr, ky_svr, ky_sv, ky_sv2, ky_s1, ky_cs, ky_pop, ky_nth, ky_snt, ky_obj, ky_ari, ky_arl, ky_arr, ky_arn, ky_fv, ky_rcv, List.map_cons, List.map_nil, List.drop_succ_cons, List.drop_zero, Value.category, Nat.reduceAdd, Nat.reduceSub, true_and, and_true, true_or, or_true, reduceCtorEq, ite_true, ite_false, eq_self, Nat.reduceEqDiff, Nat.reduceLeDiff, nI_add, nI_1, nI_leI, nI_ltI, nI_eq, nI_clamp, kz_m1, kz_mn, kz_mn2, kz_n0, kz_0n, kz_0, kz_le0, kz_0lt, false_implies, true_implies, not_false_eq_true, not_true_eq_false, Nat.zero_le, kb_0, kz_10, kz_of, ky_sw, kz_mx, kz_mi, mh, e3]) | (refine ⟨vp_in_nI (by omega) (by omega), ?_⟩) | (refine ⟨fun zc => ?_, fun zc => ?_⟩ <;> try (exfalso; omega)) | fail)
        intro f2 g2 w1 w2 w3
        try simp only [ky_aft, ky_vl, Nat.reduceAdd]
        repeat' (first | (refine ky_ok_stp rfl ?_; simp (disch := first | omega | assumption) only [ky_stp, ky_inv, ky_ldi, ky_ldl, ky_ldd, ky_lda, ky_cl2, ky_st1, ky_st2, ky_s1i, ky_s2i, ky_s1l, ky_s2l, ky_sli, ky_s1f, ky_s2f, ky_s1d, ky_s2d, ky_sr, ky_sai, ky_sasi, ky_sasl, ky_sasr, ky_svr, ky_sv, ky_sv2, ky_s1, ky_cs, ky_pop, ky_nth, ky_snt, ky_obj, ky_ari, ky_arl, ky_arr, ky_arn, ky_fv, ky_rcv, List.map_cons, List.map_nil, List.drop_succ_cons, List.drop_zero, Value.category, Nat.reduceAdd, Nat.reduceSub, true_and, and_true, true_or, or_true, reduceCtorEq, ite_true, ite_false, eq_self, Nat.reduceEqDiff, Nat.reduceLeDiff, nI_add, nI_1, nI_leI, nI_ltI, nI_eq, nI_clamp, kz_m1, kz_mn, kz_mn2, kz_n0, kz_0n, kz_0, kz_le0, kz_0lt, false_implies, true_implies, not_false_eq_true, not_true_eq_false, Nat.zero_le, kb_0, kz_10, kz_of, ky_sw, kz_mx, kz_mi]) | (refine ⟨vp_in_nI (by omega) (by omega), ?_⟩) | (refine ⟨fun zc => ?_, fun zc => ?_⟩ <;> try (exfalso; omega)) | fail)
        (first | exact hq f2 g2 w1 w2 (kfr_tr hF1 w3 fun j hj => ⟨hj, hj⟩) | exact ⟨by decide, hq f2 g2 w1 w2 (kfr_tr hF1 w3 fun j hj => ⟨hj, hj⟩)⟩)
      by_cases hv : kRg 1 8 v
      case neg =>
        have hq := h2' hx fun ⟨_, b, b1, b8, e, _⟩ => hv ⟨b, b1, b8, e⟩
        repeat' (first | ((refine kr_in (lo := 0) (hi := 3) (by decide) (by decide) hyy ?_; simp only [ky_aft, ky_vl, Nat.reduceAdd])) | ((refine kr_inx (lo := 1) (hi := 8) (by decide) (by decide) hv ?_; simp only [ky_aft, ky_vl, Nat.reduceAdd])) | (refine kx170t (p := 2) hM1 h10 (by decide) ?_) | (refine ky_ok_stp rfl ?_; simp (disch := first | omega | assumption) only [ky_stp, ky_inv, ky_ldi, ky_ldl, ky_ldd, ky_lda, ky_cl2, ky_st1, ky_st2, ky_s1i, ky_s2i, ky_s1l, ky_s2l, ky_sli, ky_s1f, ky_s2f, ky_s1d, ky_s2d, ky_sr, ky_sai, ky_sasi, ky_sasl, ky_sasr, ky_svr, ky_sv, ky_sv2, ky_s1, ky_cs, ky_pop, ky_nth, ky_snt, ky_obj, ky_ari, ky_arl, ky_arr, ky_arn, ky_fv, ky_rcv, List.map_cons, List.map_nil, List.drop_succ_cons, List.drop_zero, Value.category, Nat.reduceAdd, Nat.reduceSub, true_and, and_true, true_or, or_true, reduceCtorEq, ite_true, ite_false, eq_self, Nat.reduceEqDiff, Nat.reduceLeDiff, nI_add, nI_1, nI_leI, nI_ltI, nI_eq, nI_clamp, kz_m1, kz_mn, kz_mn2, kz_n0, kz_0n, kz_0, kz_le0, kz_0lt, false_implies, true_implies, not_false_eq_true, not_true_eq_false, Nat.zero_le, kb_0, kz_10, kz_of, ky_sw, kz_mx, kz_mi, mh, e3, e8]) | (refine ⟨vp_in_nI (by omega) (by omega), ?_⟩) | (refine ⟨fun zc => ?_, fun zc => ?_⟩ <;> try (exfalso; omega)) | fail)
        intro f2 g2 w1 w2 w3
        try simp only [ky_aft, ky_vl, Nat.reduceAdd]
        repeat' (first | (refine ky_ok_stp rfl ?_; simp (disch := first | omega | assumption) only [ky_stp, ky_inv, ky_ldi, ky_ldl, ky_ldd, ky_lda, ky_cl2, ky_st1, ky_st2, ky_s1i, ky_s2i, ky_s1l, ky_s2l, ky_sli, ky_s1f, ky_s2f, ky_s1d, ky_s2d, ky_sr, ky_sai, ky_sasi, ky_sasl, ky_sasr, ky_svr, ky_sv, ky_sv2, ky_s1, ky_cs, ky_pop, ky_nth, ky_snt, ky_obj, ky_ari, ky_arl, ky_arr, ky_arn, ky_fv, ky_rcv, List.map_cons, List.map_nil, List.drop_succ_cons, List.drop_zero, Value.category, Nat.reduceAdd, Nat.reduceSub, true_and, and_true, true_or, or_true, reduceCtorEq, ite_true, ite_false, eq_self, Nat.reduceEqDiff, Nat.reduceLeDiff, nI_add, nI_1, nI_leI, nI_ltI, nI_eq, nI_clamp, kz_m1, kz_mn, kz_mn2, kz_n0, kz_0n, kz_0, kz_le0, kz_0lt, false_implies, true_implies, not_false_eq_true, not_true_eq_false, Nat.zero_le, kb_0, kz_10, kz_of, ky_sw, kz_mx, kz_mi]) | (refine ⟨vp_in_nI (by omega) (by omega), ?_⟩) | (refine ⟨fun zc => ?_, fun zc => ?_⟩ <;> try (exfalso; omega)) | fail)
        (first | exact hq f2 g2 w1 w2 (kfr_tr hF1 w3 fun j hj => ⟨hj, hj⟩) | exact ⟨by decide, hq f2 g2 w1 w2 (kfr_tr hF1 w3 fun j hj => ⟨hj, hj⟩)⟩)
      obtain ⟨b, b1, b8, rfl⟩ := id hv
      by_cases hbl : s.bl < b
      · have hq := h2' hx fun ⟨_, b', _, b8', e, k⟩ => by
          rw [nI_eq (by omega) (by omega)] at e
          have := k.1
          omega
        repeat' (first | ((refine kr_in (lo := 0) (hi := 3) (by decide) (by decide) hyy ?_; simp only [ky_aft, ky_vl, Nat.reduceAdd])) | ((refine kr_in (lo := 1) (hi := 8) (by decide) (by decide) hv ?_; simp only [ky_aft, ky_vl, Nat.reduceAdd])) | (refine kx170t (p := 2) hM1 h10 (by decide) ?_) | (refine ky_ok_stp rfl ?_; simp (disch := first | omega | assumption) only [ky_stp, ky_inv, ky_ldi, ky_ldl, ky_ldd, ky_lda, ky_cl2, ky_st1, ky_st2, ky_s1i, ky_s2i, ky_s1l, ky_s2l, ky_sli, ky_s1f, ky_s2f, ky_s1d, ky_s2d, ky_sr, ky_sai, ky_sasi, ky_sasl, ky_sasr, ky_svr, ky_sv, ky_sv2, ky_s1, ky_cs, ky_pop, ky_nth, ky_snt, ky_obj, ky_ari, ky_arl, ky_arr, ky_arn, ky_fv, ky_rcv, List.map_cons, List.map_nil, List.drop_succ_cons, List.drop_zero, Value.category, Nat.reduceAdd, Nat.reduceSub, true_and, and_true, true_or, or_true, reduceCtorEq, ite_true, ite_false, eq_self, Nat.reduceEqDiff, Nat.reduceLeDiff, nI_add, nI_1, nI_leI, nI_ltI, nI_eq, nI_clamp, kz_m1, kz_mn, kz_mn2, kz_n0, kz_0n, kz_0, kz_le0, kz_0lt, false_implies, true_implies, not_false_eq_true, not_true_eq_false, Nat.zero_le, kb_0, kz_10, kz_of, ky_sw, kz_mx, kz_mi, mh, g3, e3, e8, hbl]) | (refine ⟨vp_in_nI (by omega) (by omega), ?_⟩) | (refine ⟨fun zc => ?_, fun zc => ?_⟩ <;> try (exfalso; omega)) | fail)
        intro f2 g2 w1 w2 w3
        try simp only [ky_aft, ky_vl, Nat.reduceAdd]
        repeat' (first | (refine ky_ok_stp rfl ?_; simp (disch := first | omega | assumption) only [ky_stp, ky_inv, ky_ldi, ky_ldl, ky_ldd, ky_lda, ky_cl2, ky_st1, ky_st2, ky_s1i, ky_s2i, ky_s1l, ky_s2l, ky_sli, ky_s1f, ky_s2f, ky_s1d, ky_s2d, ky_sr, ky_sai, ky_sasi, ky_sasl, ky_sasr, ky_svr, ky_sv, ky_sv2, ky_s1, ky_cs, ky_pop, ky_nth, ky_snt, ky_obj, ky_ari, ky_arl, ky_arr, ky_arn, ky_fv, ky_rcv, List.map_cons, List.map_nil, List.drop_succ_cons, List.drop_zero, Value.category, Nat.reduceAdd, Nat.reduceSub, true_and, and_true, true_or, or_true, reduceCtorEq, ite_true, ite_false, eq_self, Nat.reduceEqDiff, Nat.reduceLeDiff, nI_add, nI_1, nI_leI, nI_ltI, nI_eq, nI_clamp, kz_m1, kz_mn, kz_mn2, kz_n0, kz_0n, kz_0, kz_le0, kz_0lt, false_implies, true_implies, not_false_eq_true, not_true_eq_false, Nat.zero_le, kb_0, kz_10, kz_of, ky_sw, kz_mx, kz_mi]) | (refine ⟨vp_in_nI (by omega) (by omega), ?_⟩) | (refine ⟨fun zc => ?_, fun zc => ?_⟩ <;> try (exfalso; omega)) | fail)
        (first | exact hq f2 g2 w1 w2 (kfr_tr hF1 w3 fun j hj => ⟨hj, hj⟩) | exact ⟨by decide, hq f2 g2 w1 w2 (kfr_tr hF1 w3 fun j hj => ⟨hj, hj⟩)⟩)
      by_cases hlt : ∀ i, i < b → klt (s.bc i)
      case neg =>
        have hq := h2' hx fun ⟨_, b', _, b8', e, k⟩ => by
          rw [nI_eq (by omega) (by omega)] at e
          subst e
          exact hlt k.2
        repeat' (first | ((refine kr_in (lo := 0) (hi := 3) (by decide) (by decide) hyy ?_; simp only [ky_aft, ky_vl, Nat.reduceAdd])) | ((refine kr_in (lo := 1) (hi := 8) (by decide) (by decide) hv ?_; simp only [ky_aft, ky_vl, Nat.reduceAdd])) | ((refine kx266 hMt (show b ≤ s.bl by omega) (fun w => absurd w hlt) (fun _ => ?_); simp only [ky_aft, ky_vl, Nat.reduceAdd])) | (refine kx170t (p := 2) hM1 h10 (by decide) ?_) | (refine ky_ok_stp rfl ?_; simp (disch := first | omega | assumption) only [ky_stp, ky_inv, ky_ldi, ky_ldl, ky_ldd, ky_lda, ky_cl2, ky_st1, ky_st2, ky_s1i, ky_s2i, ky_s1l, ky_s2l, ky_sli, ky_s1f, ky_s2f, ky_s1d, ky_s2d, ky_sr, ky_sai, ky_sasi, ky_sasl, ky_sasr, ky_svr, ky_sv, ky_sv2, ky_s1, ky_cs, ky_pop, ky_nth, ky_snt, ky_obj, ky_ari, ky_arl, ky_arr, ky_arn, ky_fv, ky_rcv, List.map_cons, List.map_nil, List.drop_succ_cons, List.drop_zero, Value.category, Nat.reduceAdd, Nat.reduceSub, true_and, and_true, true_or, or_true, reduceCtorEq, ite_true, ite_false, eq_self, Nat.reduceEqDiff, Nat.reduceLeDiff, nI_add, nI_1, nI_leI, nI_ltI, nI_eq, nI_clamp, kz_m1, kz_mn, kz_mn2, kz_n0, kz_0n, kz_0, kz_le0, kz_0lt, false_implies, true_implies, not_false_eq_true, not_true_eq_false, Nat.zero_le, kb_0, kz_10, kz_of, ky_sw, kz_mx, kz_mi, mh, g3, e3, e8, hbl]) | (refine ⟨vp_in_nI (by omega) (by omega), ?_⟩) | (refine ⟨fun zc => ?_, fun zc => ?_⟩ <;> try (exfalso; omega)) | fail)
        intro f2 g2 w1 w2 w3
        try simp only [ky_aft, ky_vl, Nat.reduceAdd]
        repeat' (first | (refine ky_ok_stp rfl ?_; simp (disch := first | omega | assumption) only [ky_stp, ky_inv, ky_ldi, ky_ldl, ky_ldd, ky_lda, ky_cl2, ky_st1, ky_st2, ky_s1i, ky_s2i, ky_s1l, ky_s2l, ky_sli, ky_s1f, ky_s2f, ky_s1d, ky_s2d, ky_sr, ky_sai, ky_sasi, ky_sasl, ky_sasr, ky_svr, ky_sv, ky_sv2, ky_s1, ky_cs, ky_pop, ky_nth, ky_snt, ky_obj, ky_ari, ky_arl, ky_arr, ky_arn, ky_fv, ky_rcv, List.map_cons, List.map_nil, List.drop_succ_cons, List.drop_zero, Value.category, Nat.reduceAdd, Nat.reduceSub, true_and, and_true, true_or, or_true, reduceCtorEq, ite_true, ite_false, eq_self, Nat.reduceEqDiff, Nat.reduceLeDiff, nI_add, nI_1, nI_leI, nI_ltI, nI_eq, nI_clamp, kz_m1, kz_mn, kz_mn2, kz_n0, kz_0n, kz_0, kz_le0, kz_0lt, false_implies, true_implies, not_false_eq_true, not_true_eq_false, Nat.zero_le, kb_0, kz_10, kz_of, ky_sw, kz_mx, kz_mi]) | (refine ⟨vp_in_nI (by omega) (by omega), ?_⟩) | (refine ⟨fun zc => ?_, fun zc => ?_⟩ <;> try (exfalso; omega)) | fail)
        (first | exact hq f2 g2 w1 w2 (kfr_tr hF1 w3 fun j hj => ⟨hj, hj⟩) | exact ⟨by decide, hq f2 g2 w1 w2 (kfr_tr hF1 w3 fun j hj => ⟨hj, hj⟩)⟩)
      obtain ⟨j, hj, hxj⟩ := kHas_j.mp hx
      obtain ⟨w, -, hw, rfl⟩ := id hyy
      have hq := hy j w b hj hw b1 b8 hxj rfl rfl ⟨by omega, hlt⟩
      have hwd : kWd (kTl s.bc 0 b) := by
        refine ⟨fun w => by have := congrArg List.length w; rw [kTl_len] at this; simp at this; omega, by rw [kTl_len]; exact b8, fun u hu => ?_⟩
        unfold kTl at hu
        obtain ⟨k, hk, rfl⟩ := List.mem_map.mp hu
        rw [Nat.zero_add]
        exact hlt k (List.mem_range.mp hk)
      have hlt0 : ∀ k, k < b → klt (s.bc (0 + k)) := fun k hk => by rw [Nat.zero_add]; exact hlt k hk
      have c212 : ∀ t, t ≤ 4 → ∀ {Q : ky_Q}, Q (.inl (some (.int (kHf (kTl s.bc 0 b) t)))) f1 → ky_cl adK 212 [.ref (a 170), .int (nI t), .int (nI b)] f1 Q := fun t ht {Q} hQ => by
        have := kx212 (adK := adK) (b := 0) (t := t) (m := b) hMt (by omega) hlt0 ht hQ
        rw [Nat.zero_add, Nat.zero_add] at this
        exact this
      have fin : ∀ f2, kMo a f2 (upd g1 3 0) → kfr a f1 f2 (fun j => j = 170) → kAQ a f2 (upd g1 3 0) (kTi' (s.setB 0 s.bc) j w (kNW (kTl s.bc 0 b))) Q ∧ kM a f2 (upd g1 3 0) (s.setB 0 s.bc) := fun f2 h0 hF2 => ⟨kAQ_m hq ((pk_un (by omega)).trans h10) (kfr_tr hF1 hF2 fun j hj => ⟨hj, fun w => hj (by unfold kMF; omega)⟩), kM_b0 hM1 h0 rfl (fun j hj => pk_un (by omega)) hF2⟩
      have hz0 : kKz (s.setB 0 s.bc) := ⟨hz.o, hz.u, hz.v⟩
      repeat' (first | ((refine kr_in (lo := 0) (hi := 3) (by decide) (by decide) hyy ?_; simp only [ky_aft, ky_vl, Nat.reduceAdd])) | ((refine kr_in (lo := 1) (hi := 8) (by decide) (by decide) hv ?_; simp only [ky_aft, ky_vl, Nat.reduceAdd])) | ((refine kx266 hMt (show b ≤ s.bl by omega) (fun _ => ?_) (fun w => absurd hlt w); simp only [ky_aft, ky_vl, Nat.reduceAdd])) | (refine kx170n hMo h10 ?_; simp only [ky_aft, ky_vl, Nat.reduceAdd]) | ((refine c212 0 (by decide) ?_; simp only [ky_aft, ky_vl, Nat.reduceAdd])) | ((refine c212 4 (by decide) ?_; simp only [ky_aft, ky_vl, Nat.reduceAdd])) | (refine kx267 (fin _ (kMo_mk kz_same (by first | rfl | simp [upd, g3]) (by first | rfl | simp [upd, g3]) (by first | rfl | simp [upd, g3]) (by first | rfl | simp [upd, g3]) (by first | rfl | simp [upd, g3]) (by first | rfl | simp [upd, g3]) (by first | rfl | simp [upd, g3]) (by first | rfl | simp [upd, g3]) (by first | rfl | simp [upd, g3]) (by first | rfl | simp [upd, g3]) (by first | rfl | simp [upd, g3]) (by first | rfl | simp [upd, g3]) (by first | rfl | simp [upd, g3])) (kfr_up ha kfr_rf rfl)).2 hz0 hj hxj hw hwd rfl rfl ?_) | (refine ky_ok_stp rfl ?_; simp (disch := first | omega | assumption) only [ky_stp, ky_inv, ky_ldi, ky_ldl, ky_ldd, ky_lda, ky_cl2, ky_st1, ky_st2, ky_s1i, ky_s2i, ky_s1l, ky_s2l, ky_sli, ky_s1f, ky_s2f, ky_s1d, ky_s2d, ky_sr, ky_sai, ky_sasi, ky_sasl, ky_sasr, ky_svr, ky_sv, ky_sv2, ky_s1, ky_cs, ky_pop, ky_nth, ky_snt, ky_obj, ky_ari, ky_arl, ky_arr, ky_arn, ky_fv, ky_rcv, List.map_cons, List.map_nil, List.drop_succ_cons, List.drop_zero, Value.category, Nat.reduceAdd, Nat.reduceSub, true_and, and_true, true_or, or_true, reduceCtorEq, ite_true, ite_false, eq_self, Nat.reduceEqDiff, Nat.reduceLeDiff, nI_add, nI_1, nI_leI, nI_ltI, nI_eq, nI_clamp, kz_m1, kz_mn, kz_mn2, kz_n0, kz_0n, kz_0, kz_le0, kz_0lt, false_implies, true_implies, not_false_eq_true, not_true_eq_false, Nat.zero_le, kb_0, kz_10, kz_of, ky_sw, kz_mx, kz_mi, mh, g3, e3, e8, e4, kz_up, hbl]) | (refine ⟨vp_in_nI (by omega) (by omega), ?_⟩) | (refine ⟨fun zc => ?_, fun zc => ?_⟩ <;> try (exfalso; omega)) | fail)
      intro f2 g2 w1 w2 w3
      (try simp only [ky_aft, ky_vl, Nat.reduceAdd])
      have hh := fun f0 (h0 : kMo a f0 (upd g1 3 0)) hF0 (h : kfr a f0 f2 kAF) => (fin f0 h0 hF0).1 f2 g2 w1 w2 h
      repeat' (first | (refine ky_ok_stp rfl ?_; simp (disch := first | omega | assumption) only [ky_stp, ky_inv, ky_ldi, ky_ldl, ky_ldd, ky_lda, ky_cl2, ky_st1, ky_st2, ky_s1i, ky_s2i, ky_s1l, ky_s2l, ky_sli, ky_s1f, ky_s2f, ky_s1d, ky_s2d, ky_sr, ky_sai, ky_sasi, ky_sasl, ky_sasr, ky_svr, ky_sv, ky_sv2, ky_s1, ky_cs, ky_pop, ky_nth, ky_snt, ky_obj, ky_ari, ky_arl, ky_arr, ky_arn, ky_fv, ky_rcv, List.map_cons, List.map_nil, List.drop_succ_cons, List.drop_zero, Value.category, Nat.reduceAdd, Nat.reduceSub, true_and, and_true, true_or, or_true, reduceCtorEq, ite_true, ite_false, eq_self, Nat.reduceEqDiff, Nat.reduceLeDiff, nI_add, nI_1, nI_leI, nI_ltI, nI_eq, nI_clamp, kz_m1, kz_mn, kz_mn2, kz_n0, kz_0n, kz_0, kz_le0, kz_0lt, false_implies, true_implies, not_false_eq_true, not_true_eq_false, Nat.zero_le, kb_0, kz_10, kz_of, ky_sw, kz_mx, kz_mi]) | (refine ⟨vp_in_nI (by omega) (by omega), ?_⟩) | (refine ⟨fun zc => ?_, fun zc => ?_⟩ <;> try (exfalso; omega)) | fail)
      have hhx := hh _ (kMo_mk kz_same (by first | rfl | simp [upd, g3]) (by first | rfl | simp [upd, g3]) (by first | rfl | simp [upd, g3]) (by first | rfl | simp [upd, g3]) (by first | rfl | simp [upd, g3]) (by first | rfl | simp [upd, g3]) (by first | rfl | simp [upd, g3]) (by first | rfl | simp [upd, g3]) (by first | rfl | simp [upd, g3]) (by first | rfl | simp [upd, g3]) (by first | rfl | simp [upd, g3]) (by first | rfl | simp [upd, g3]) (by first | rfl | simp [upd, g3])) (kfr_up ha kfr_rf rfl) w3
      (first | exact hhx | exact ⟨by decide, hhx⟩)
    by_cases hxm : x = -1
    · repeat' (first | (exact st) | (refine kx170n hMo h10 ?_; simp only [ky_aft, ky_vl, Nat.reduceAdd]) | (refine ky_ok_stp rfl ?_; simp (disch := first | omega | assumption) only [ky_stp, ky_inv, ky_ldi, ky_ldl, ky_ldd, ky_lda, ky_cl2, ky_st1, ky_st2, ky_s1i, ky_s2i, ky_s1l, ky_s2l, ky_sli, ky_s1f, ky_s2f, ky_s1d, ky_s2d, ky_sr, ky_sai, ky_sasi, ky_sasl, ky_sasr, ky_svr, ky_sv, ky_sv2, ky_s1, ky_cs, ky_pop, ky_nth, ky_snt, ky_obj, ky_ari, ky_arl, ky_arr, ky_arn, ky_fv, ky_rcv, List.map_cons, List.map_nil, List.drop_succ_cons, List.drop_zero, Value.category, Nat.reduceAdd, Nat.reduceSub, true_and, and_true, true_or, or_true, reduceCtorEq, ite_true, ite_false, eq_self, Nat.reduceEqDiff, Nat.reduceLeDiff, nI_add, nI_1, nI_leI, nI_ltI, nI_eq, nI_clamp, kz_m1, kz_mn, kz_mn2, kz_n0, kz_0n, kz_0, kz_le0, kz_0lt, false_implies, true_implies, not_false_eq_true, not_true_eq_false, Nat.zero_le, kb_0, kz_10, kz_of, ky_sw, kz_mx, kz_mi, mh, eq_true hxm]) | (refine ⟨vp_in_nI (by omega) (by omega), ?_⟩) | (refine ⟨fun zc => ?_, fun zc => ?_⟩ <;> try (exfalso; omega)) | fail)
    · repeat' (first | (exact st) | ((refine kx222 hMo hr h60 hR.1 (fun _ => ?_) (fun w => absurd (hx.resolve_right hxm) w); simp only [ky_aft, ky_vl, Nat.reduceAdd])) | (refine kx170n hMo h10 ?_; simp only [ky_aft, ky_vl, Nat.reduceAdd]) | (refine ky_ok_stp rfl ?_; simp (disch := first | omega | assumption) only [ky_stp, ky_inv, ky_ldi, ky_ldl, ky_ldd, ky_lda, ky_cl2, ky_st1, ky_st2, ky_s1i, ky_s2i, ky_s1l, ky_s2l, ky_sli, ky_s1f, ky_s2f, ky_s1d, ky_s2d, ky_sr, ky_sai, ky_sasi, ky_sasl, ky_sasr, ky_svr, ky_sv, ky_sv2, ky_s1, ky_cs, ky_pop, ky_nth, ky_snt, ky_obj, ky_ari, ky_arl, ky_arr, ky_arn, ky_fv, ky_rcv, List.map_cons, List.map_nil, List.drop_succ_cons, List.drop_zero, Value.category, Nat.reduceAdd, Nat.reduceSub, true_and, and_true, true_or, or_true, reduceCtorEq, ite_true, ite_false, eq_self, Nat.reduceEqDiff, Nat.reduceLeDiff, nI_add, nI_1, nI_leI, nI_ltI, nI_eq, nI_clamp, kz_m1, kz_mn, kz_mn2, kz_n0, kz_0n, kz_0, kz_le0, kz_0lt, false_implies, true_implies, not_false_eq_true, not_true_eq_false, Nat.zero_le, kb_0, kz_10, kz_of, ky_sw, kz_mx, kz_mi, mh, eq_false hxm]) | (refine ⟨vp_in_nI (by omega) (by omega), ?_⟩) | (refine ⟨fun zc => ?_, fun zc => ?_⟩ <;> try (exfalso; omega)) | fail)
  have mh := hM.2.1
  unfold kMo at mh
  refine ⟨Nat.le_of_ble_eq_true rfl, fun z => absurd z (by decide), ?_⟩; show ky_ok adK 268 0 [some (.ref (a 170)), some (.int x), some (.int y), some (.int v), none, none] [] f 0 0 _
  repeat' (first | (exact rest _ _ (kM_t0 hM) rfl (kMF_170 (kfr_up hM.1 kfr_rf rfl))) | (refine ky_ok_stp rfl ?_; simp (disch := first | omega | assumption) only [ky_stp, ky_inv, ky_ldi, ky_ldl, ky_ldd, ky_lda, ky_cl2, ky_st1, ky_st2, ky_s1i, ky_s2i, ky_s1l, ky_s2l, ky_sli, ky_s1f, ky_s2f, ky_s1d, ky_s2d, ky_sr, ky_sai, ky_sasi, ky_sasl, ky_sasr, ky_svr, ky_sv, ky_sv2, ky_s1, ky_cs, ky_pop, ky_nth, ky_snt, ky_obj, ky_ari, ky_arl, ky_arr, ky_arn, ky_fv, ky_rcv, List.map_cons, List.map_nil, List.drop_succ_cons, List.drop_zero, Value.category, Nat.reduceAdd, Nat.reduceSub, true_and, and_true, true_or, or_true, reduceCtorEq, ite_true, ite_false, eq_self, Nat.reduceEqDiff, Nat.reduceLeDiff, nI_add, nI_1, nI_leI, nI_ltI, nI_eq, nI_clamp, kz_m1, kz_mn, kz_mn2, kz_n0, kz_0n, kz_0, kz_le0, kz_0lt, false_implies, true_implies, not_false_eq_true, not_true_eq_false, Nat.zero_le, kb_0, kz_10, kz_of, ky_sw, kz_mx, kz_mi, mh]) | (refine ⟨vp_in_nI (by omega) (by omega), ?_⟩) | (refine ⟨fun zc => ?_, fun zc => ?_⟩ <;> try (exfalso; omega)) | fail)
end KXM
