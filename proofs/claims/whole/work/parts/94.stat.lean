/-! ## the reference: undo, save, restore, write -/
section KXM
variable {adK a : Nat → Nat} {f : ky_H} {Q : ky_Q} {g r B T : Nat → Int32} {s : kSt} {p w n l i j t e m k : Nat} {x y v b c d : Int32} {z : kZ}
theorem kx294 (hM : kM a f g s) (hz : kKz s) (hy : 0 < s.un → kMQ a f (kUn s) 0 Q (nI (s.un - 1))) (h1 : s.un = 0 → kMQ a f s 1 Q 0) : ky_cl adK 294 [.ref (a 170)] f Q := by
  have ho := hz.o
  have rest : ∀ f1 g1, kM a f1 g1 s → g1 0 = 0 → kfr a f f1 kMF → ky_ok adK 294 5 [some (.ref (a 170))] [] f1 0 0 Q := by
    intro f1 g1 hM1 h10 hF1
    obtain ⟨ha, hMo, ⟨⟨r, hr, hR⟩, hU, hV, hC, hT, hW⟩, h2, h3, h4⟩ := id hM1
    have mh := hMo
    unfold kMo at mh
    have h60 := ho.n60
    have hL := kRw_l ho hR
    have gu := h3.1
    have hu8 := h4.1
    by_cases h0 : s.un = 0
    · have hq := h1 h0
      repeat' (first | (refine kx170t (p := 1) hM1 h10 (by decide) ?_) | (refine ky_ok_stp rfl ?_; simp (disch := first | omega | assumption) only [ky_stp, ky_inv, ky_ldi, ky_ldl, ky_ldd, ky_lda, ky_cl2, ky_st1, ky_st2, ky_s1i, ky_s2i, ky_s1l, ky_s2l, ky_sli, ky_s1f, ky_s2f, ky_s1d, ky_s2d, ky_sr, ky_sai, ky_sasi, ky_sasl, ky_sasr, ky_svr, ky_sv, ky_sv2, ky_s1, ky_cs, ky_pop, ky_nth, ky_snt, ky_obj, ky_ari, ky_arl, ky_arr, ky_arn, ky_fv, ky_rcv, List.map_cons, List.map_nil, List.drop_succ_cons, List.drop_zero, Value.category, Nat.reduceAdd, Nat.reduceSub, true_and, and_true, true_or, or_true, reduceCtorEq, ite_true, ite_false, eq_self, Nat.reduceEqDiff, Nat.reduceLeDiff, nI_add, nI_1, nI_leI, nI_ltI, nI_eq, nI_clamp, kz_m1, kz_mn, kz_mn2, kz_n0, kz_0n, kz_0, kz_le0, kz_0lt, false_implies, true_implies, not_false_eq_true, not_true_eq_false, Nat.zero_le, kb_0, kz_10, kz_of, ky_sw, kz_mx, kz_mi, mh, gu, h0]) | (refine ⟨vp_in_nI (by omega) (by omega), ?_⟩) | (refine ⟨fun zc => ?_, fun zc => ?_⟩ <;> try (exfalso; omega)) | fail)
      intro f2 g2 w1 w2 w3
      try simp only [ky_aft, ky_vl, Nat.reduceAdd]
      repeat' (first | (refine ky_ok_stp rfl ?_; simp (disch := first | omega | assumption) only [ky_stp, ky_inv, ky_ldi, ky_ldl, ky_ldd, ky_lda, ky_cl2, ky_st1, ky_st2, ky_s1i, ky_s2i, ky_s1l, ky_s2l, ky_sli, ky_s1f, ky_s2f, ky_s1d, ky_s2d, ky_sr, ky_sai, ky_sasi, ky_sasl, ky_sasr, ky_svr, ky_sv, ky_sv2, ky_s1, ky_cs, ky_pop, ky_nth, ky_snt, ky_obj, ky_ari, ky_arl, ky_arr, ky_arn, ky_fv, ky_rcv, List.map_cons, List.map_nil, List.drop_succ_cons, List.drop_zero, Value.category, Nat.reduceAdd, Nat.reduceSub, true_and, and_true, true_or, or_true, reduceCtorEq, ite_true, ite_false, eq_self, Nat.reduceEqDiff, Nat.reduceLeDiff, nI_add, nI_1, nI_leI, nI_ltI, nI_eq, nI_clamp, kz_m1, kz_mn, kz_mn2, kz_n0, kz_0n, kz_0, kz_le0, kz_0lt, false_implies, true_implies, not_false_eq_true, not_true_eq_false, Nat.zero_le, kb_0, kz_10, kz_of, ky_sw, kz_mx, kz_mi]) | (refine ⟨vp_in_nI (by omega) (by omega), ?_⟩) | (refine ⟨fun zc => ?_, fun zc => ?_⟩ <;> try (exfalso; omega)) | fail)
      (first | exact hq f2 g2 w1 w2 (kfr_tr hF1 w3 fun j hj => ⟨hj, hj⟩) | exact ⟨by decide, hq f2 g2 w1 w2 (kfr_tr hF1 w3 fun j hj => ⟨hj, hj⟩)⟩)
    · have hq := hy (by omega)
      obtain ⟨U, h174, hU⟩ := hU
      have e1 : nI s.un - 1 = nI (s.un - 1) := by rw [show (1 : Int32) = nI 1 from rfl]; exact nI_sub (by omega)
      have hB : ∀ e, (ky_up f1 (a 170) e) (a 171) = some (.inl (1, 388, .inl r)) := fun e => (kfr_up (S := fun j => j = 170) (e := e) ha kfr_rf rfl 171 (by omega)).trans hr
      have hB2 : ∀ e, (ky_up f1 (a 170) e) (a 174) = some (.inl (1, 3104, .inl U)) := fun e => (kfr_up (S := fun j => j = 170) (e := e) ha kfr_rf rfl 174 (by omega)).trans h174
      repeat' (first | (refine kx170n hMo h10 ?_; simp only [ky_aft, ky_vl, Nat.reduceAdd]) | (refine kx171 (i := 174) (j := 171) (b := 388 * (s.un - 1)) (t := 0) ha (by decide) (hB2 _) (hB _) (by omega) (by decide) (by decide) ?_) | (refine ky_ok_stp rfl ?_; simp (disch := first | omega | assumption) only [ky_stp, ky_inv, ky_ldi, ky_ldl, ky_ldd, ky_lda, ky_cl2, ky_st1, ky_st2, ky_s1i, ky_s2i, ky_s1l, ky_s2l, ky_sli, ky_s1f, ky_s2f, ky_s1d, ky_s2d, ky_sr, ky_sai, ky_sasi, ky_sasl, ky_sasr, ky_svr, ky_sv, ky_sv2, ky_s1, ky_cs, ky_pop, ky_nth, ky_snt, ky_obj, ky_ari, ky_arl, ky_arr, ky_arn, ky_fv, ky_rcv, List.map_cons, List.map_nil, List.drop_succ_cons, List.drop_zero, Value.category, Nat.reduceAdd, Nat.reduceSub, true_and, and_true, true_or, or_true, reduceCtorEq, ite_true, ite_false, eq_self, Nat.reduceEqDiff, Nat.reduceLeDiff, nI_add, nI_1, nI_leI, nI_ltI, nI_eq, nI_clamp, kz_m1, kz_mn, kz_mn2, kz_n0, kz_0n, kz_0, kz_le0, kz_0lt, false_implies, true_implies, not_false_eq_true, not_true_eq_false, Nat.zero_le, kb_0, kz_10, kz_of, ky_sw, kz_mx, kz_mi, mh, gu, kz_up, kz_0, eq_false h0, e1, kz_388, nI_mul]) | (refine ⟨vp_in_nI (by omega) (by omega), ?_⟩) | (refine ⟨fun zc => ?_, fun zc => ?_⟩ <;> try (exfalso; omega)) | fail)
      intro f2 R h171 hRe hF2
      (try simp only [ky_aft, ky_vl, Nat.reduceAdd])
      have hMo2 : kMo a f2 (upd g1 1 (nI (s.un - 1))) := (kMo_mk ((hF2 170 (by decide)).trans kz_same) (by first | rfl | simp [upd, gu]) (by first | rfl | simp [upd, gu]) (by first | rfl | simp [upd, gu]) (by first | rfl | simp [upd, gu]) (by first | rfl | simp [upd, gu]) (by first | rfl | simp [upd, gu]) (by first | rfl | simp [upd, gu]) (by first | rfl | simp [upd, gu]) (by first | rfl | simp [upd, gu]) (by first | rfl | simp [upd, gu]) (by first | rfl | simp [upd, gu]) (by first | rfl | simp [upd, gu]) (by first | rfl | simp [upd, gu]))
      have mh2 := hMo2
      unfold kMo at mh2
      have hu1 : upd g1 1 (nI (s.un - 1)) 1 = nI (s.un - 1) := pk_us
      repeat' (first | (refine ky_ok_stp rfl ?_; simp (disch := first | omega | assumption) only [ky_stp, ky_inv, ky_ldi, ky_ldl, ky_ldd, ky_lda, ky_cl2, ky_st1, ky_st2, ky_s1i, ky_s2i, ky_s1l, ky_s2l, ky_sli, ky_s1f, ky_s2f, ky_s1d, ky_s2d, ky_sr, ky_sai, ky_sasi, ky_sasl, ky_sasr, ky_svr, ky_sv, ky_sv2, ky_s1, ky_cs, ky_pop, ky_nth, ky_snt, ky_obj, ky_ari, ky_arl, ky_arr, ky_arn, ky_fv, ky_rcv, List.map_cons, List.map_nil, List.drop_succ_cons, List.drop_zero, Value.category, Nat.reduceAdd, Nat.reduceSub, true_and, and_true, true_or, or_true, reduceCtorEq, ite_true, ite_false, eq_self, Nat.reduceEqDiff, Nat.reduceLeDiff, nI_add, nI_1, nI_leI, nI_ltI, nI_eq, nI_clamp, kz_m1, kz_mn, kz_mn2, kz_n0, kz_0n, kz_0, kz_le0, kz_0lt, false_implies, true_implies, not_false_eq_true, not_true_eq_false, Nat.zero_le, kb_0, kz_10, kz_of, ky_sw, kz_mx, kz_mi, mh2, hu1]) | (refine ⟨vp_in_nI (by omega) (by omega), ?_⟩) | (refine ⟨fun zc => ?_, fun zc => ?_⟩ <;> try (exfalso; omega)) | fail)
      have hF3 : kfr a f1 f2 (fun j => j = 170 ∨ j = 171) := kfr_tr (kfr_up (S := fun j => j = 170) ha kfr_rf rfl) hF2 fun j hj => ⟨fun w => hj (Or.inl w), fun w => hj (Or.inr w)⟩
      have hu0 := hU 0 (by omega)
      rw [Nat.sub_zero] at hu0
      have hRu : kRw R (s.u 0) := kRw_c (hz.u 0 (by omega)).n60 hu0 fun t ht => by rw [hRe, kcp, if_pos (by omega), Nat.sub_zero]
      refine hq f2 (upd g1 1 (nI (s.un - 1))) ?_ ((pk_un (by omega)).trans h10) (kfr_tr hF1 hF3 fun j hj => ⟨hj, fun w => hj (by unfold kMF; omega)⟩)
      obtain ⟨ha, _, ⟨-, -, ⟨V, B, h5, h6, h7⟩, ⟨C0, h8', h9'⟩, ⟨T', h10', h11⟩, ⟨W, h12, h13⟩⟩, ⟨q1, q2, q3, q4, q5, q6, q7, q8, q9⟩, k3, k4⟩ := id hM1
      exact ⟨ha, hMo2, ⟨⟨R, h171, hRu⟩, ⟨U, (hF3 174 (by omega)).trans h174, fun j hj => by
        have := hU (j + 1) (by have : j < s.un - 1 := hj; omega)
        show kRw (fun t => U (388 * (s.un - 1 - 1 - j) + t)) (s.u (j + 1))
        rw [show s.un - 1 - 1 - j = s.un - 1 - (j + 1) by omega]
        exact this⟩, ⟨V, B, (hF3 175 (by omega)).trans h5, (hF3 176 (by omega)).trans h6, h7⟩, ⟨C0, (hF3 177 (by omega)).trans h8', h9'⟩, ⟨T', (hF3 182 (by omega)).trans h10', h11⟩, ⟨W, (hF3 186 (by omega)).trans h12, h13⟩⟩, ⟨kar_fr q1 (hF3 172 (by omega)), kar_fr q2 (hF3 173 (by omega)), kar_fr q3 (hF3 178 (by omega)), kar_fr q4 (hF3 179 (by omega)), kar_fr q5 (hF3 180 (by omega)), kar_fr q6 (hF3 181 (by omega)), kar_fr q7 (hF3 183 (by omega)), kar_fr q8 (hF3 184 (by omega)), kar_fr q9 (hF3 185 (by omega))⟩, ⟨pk_us, k3.2⟩, ⟨by show s.un - 1 ≤ 8; omega, k4.2⟩⟩
  have mh := hM.2.1
  unfold kMo at mh
  refine ⟨Nat.le_of_ble_eq_true rfl, fun z => absurd z (by decide), ?_⟩; show ky_ok adK 294 0 [some (.ref (a 170))] [] f 0 0 _
  repeat' (first | (exact rest _ _ (kM_t0 hM) rfl (kMF_170 (kfr_up hM.1 kfr_rf rfl))) | (refine ky_ok_stp rfl ?_; simp (disch := first | omega | assumption) only [ky_stp, ky_inv, ky_ldi, ky_ldl, ky_ldd, ky_lda, ky_cl2, ky_st1, ky_st2, ky_s1i, ky_s2i, ky_s1l, ky_s2l, ky_sli, ky_s1f, ky_s2f, ky_s1d, ky_s2d, ky_sr, ky_sai, ky_sasi, ky_sasl, ky_sasr, ky_svr, ky_sv, ky_sv2, ky_s1, ky_cs, ky_pop, ky_nth, ky_snt, ky_obj, ky_ari, ky_arl, ky_arr, ky_arn, ky_fv, ky_rcv, List.map_cons, List.map_nil, List.drop_succ_cons, List.drop_zero, Value.category, Nat.reduceAdd, Nat.reduceSub, true_and, and_true, true_or, or_true, reduceCtorEq, ite_true, ite_false, eq_self, Nat.reduceEqDiff, Nat.reduceLeDiff, nI_add, nI_1, nI_leI, nI_ltI, nI_eq, nI_clamp, kz_m1, kz_mn, kz_mn2, kz_n0, kz_0n, kz_0, kz_le0, kz_0lt, false_implies, true_implies, not_false_eq_true, not_true_eq_false, Nat.zero_le, kb_0, kz_10, kz_of, ky_sw, kz_mx, kz_mi, mh]) | (refine ⟨vp_in_nI (by omega) (by omega), ?_⟩) | (refine ⟨fun zc => ?_, fun zc => ?_⟩ <;> try (exfalso; omega)) | fail)
theorem kx296 (hM : kM a f g s) (hz : kKz s) (hy : ∀ i, i < 2 → x = nI i → kMQ a f (kSvs s i) 0 Q (nI s.o.n)) (h1 : ¬ kRg 0 1 x → kMQ a f s 1 Q 0) : ky_cl adK 296 [.ref (a 170), .int x] f Q := by
  have ho := hz.o
  have mh := hM.2.1
  unfold kMo at mh
  refine ⟨Nat.le_of_ble_eq_true rfl, fun z => absurd z (by decide), ?_⟩; show ky_ok adK 296 0 [some (.ref (a 170)), some (.int x)] [] f 0 0 _
  repeat' (first | (refine kx295 hM ho (fun hx => ?_) (fun hx => ?_)) | (refine ky_ok_stp rfl ?_; simp (disch := first | omega | assumption) only [ky_stp, ky_inv, ky_ldi, ky_ldl, ky_ldd, ky_lda, ky_cl2, ky_st1, ky_st2, ky_s1i, ky_s2i, ky_s1l, ky_s2l, ky_sli, ky_s1f, ky_s2f, ky_s1d, ky_s2d, ky_sr, ky_sai, ky_sasi, ky_sasl, ky_sasr, ky_svr, ky_sv, ky_sv2, ky_s1, ky_cs, ky_pop, ky_nth, ky_snt, ky_obj, ky_ari, ky_arl, ky_arr, ky_arn, ky_fv, ky_rcv, List.map_cons, List.map_nil, List.drop_succ_cons, List.drop_zero, Value.category, Nat.reduceAdd, Nat.reduceSub, true_and, and_true, true_or, or_true, reduceCtorEq, ite_true, ite_false, eq_self, Nat.reduceEqDiff, Nat.reduceLeDiff, nI_add, nI_1, nI_leI, nI_ltI, nI_eq, nI_clamp, kz_m1, kz_mn, kz_mn2, kz_n0, kz_0n, kz_0, kz_le0, kz_0lt, false_implies, true_implies, not_false_eq_true, not_true_eq_false, Nat.zero_le, kb_0, kz_10, kz_of, ky_sw, kz_mx, kz_mi, mh]) | (refine ⟨vp_in_nI (by omega) (by omega), ?_⟩) | (refine ⟨fun zc => ?_, fun zc => ?_⟩ <;> try (exfalso; omega)) | fail)
  · intro f1 g1 hM1 h10 hF1
    (try simp only [ky_aft, ky_vl, Nat.reduceAdd])
    obtain ⟨i, -, hi, rfl⟩ := hx
    have hq := hy i (by omega) rfl
    obtain ⟨ha, hMo, ⟨⟨r, hr, hR⟩, ⟨U, h3', h4⟩, ⟨V, B, h175, h176, hV⟩, ⟨C0, h8', h9'⟩, ⟨T', h10', h11⟩, ⟨W, h12, h13⟩⟩, h2, k3, k4⟩ := id hM1
    have mh := hMo
    unfold kMo at mh
    have r0 := hR.1
    have h60 := ho.n60
    repeat' (first | (refine kx171 (i := 171) (j := 175) (b := 0) (t := 388 * i) ha (by decide) hr h175 (by decide) (by omega) (by decide) ?_) | (refine ky_ok_stp rfl ?_; simp (disch := first | omega | assumption) only [ky_stp, ky_inv, ky_ldi, ky_ldl, ky_ldd, ky_lda, ky_cl2, ky_st1, ky_st2, ky_s1i, ky_s2i, ky_s1l, ky_s2l, ky_sli, ky_s1f, ky_s2f, ky_s1d, ky_s2d, ky_sr, ky_sai, ky_sasi, ky_sasl, ky_sasr, ky_svr, ky_sv, ky_sv2, ky_s1, ky_cs, ky_pop, ky_nth, ky_snt, ky_obj, ky_ari, ky_arl, ky_arr, ky_arn, ky_fv, ky_rcv, List.map_cons, List.map_nil, List.drop_succ_cons, List.drop_zero, Value.category, Nat.reduceAdd, Nat.reduceSub, true_and, and_true, true_or, or_true, reduceCtorEq, ite_true, ite_false, eq_self, Nat.reduceEqDiff, Nat.reduceLeDiff, nI_add, nI_1, nI_leI, nI_ltI, nI_eq, nI_clamp, kz_m1, kz_mn, kz_mn2, kz_n0, kz_0n, kz_0, kz_le0, kz_0lt, false_implies, true_implies, not_false_eq_true, not_true_eq_false, Nat.zero_le, kb_0, kz_10, kz_of, ky_sw, kz_mx, kz_mi, mh, kz_388, nI_mul]) | (refine ⟨vp_in_nI (by omega) (by omega), ?_⟩) | (refine ⟨fun zc => ?_, fun zc => ?_⟩ <;> try (exfalso; omega)) | fail)
    intro f2 V2 h175' hVe hF2
    (try simp only [ky_aft, ky_vl, Nat.reduceAdd])
    have hM2 := kMo_fq hMo hF2 (by omega)
    have mh2 := hM2
    unfold kMo at mh2
    have h176' : f2 (a 176) = some (.inl (3, 2, .inl B)) := (hF2 176 (by omega)).trans h176
    have hFu : ∀ e, kfr a f2 (ky_up f2 (a 176) e) (fun j => j = 176) := fun e => kfr_up ha kfr_rf rfl
    have hM3 : ∀ e, kMo a (ky_up f2 (a 176) e) g1 := fun e => kMo_fq hM2 (hFu e) (by omega)
    have hr3 : ∀ e, (ky_up f2 (a 176) e) (a 171) = some (.inl (1, 388, .inl r)) := fun e => (hFu e 171 (by omega)).trans ((hF2 171 (by omega)).trans hr)
    repeat' (first | (refine kx172 (hM3 _) (hr3 _) ?_; simp only [ky_aft, ky_vl, Nat.reduceAdd]) | (refine ky_ok_stp rfl ?_; simp (disch := first | omega | assumption) only [ky_stp, ky_inv, ky_ldi, ky_ldl, ky_ldd, ky_lda, ky_cl2, ky_st1, ky_st2, ky_s1i, ky_s2i, ky_s1l, ky_s2l, ky_sli, ky_s1f, ky_s2f, ky_s1d, ky_s2d, ky_sr, ky_sai, ky_sasi, ky_sasl, ky_sasr, ky_svr, ky_sv, ky_sv2, ky_s1, ky_cs, ky_pop, ky_nth, ky_snt, ky_obj, ky_ari, ky_arl, ky_arr, ky_arn, ky_fv, ky_rcv, List.map_cons, List.map_nil, List.drop_succ_cons, List.drop_zero, Value.category, Nat.reduceAdd, Nat.reduceSub, true_and, and_true, true_or, or_true, reduceCtorEq, ite_true, ite_false, eq_self, Nat.reduceEqDiff, Nat.reduceLeDiff, nI_add, nI_1, nI_leI, nI_ltI, nI_eq, nI_clamp, kz_m1, kz_mn, kz_mn2, kz_n0, kz_0n, kz_0, kz_le0, kz_0lt, false_implies, true_implies, not_false_eq_true, not_true_eq_false, Nat.zero_le, kb_0, kz_10, kz_of, ky_sw, kz_mx, kz_mi, mh2, kz_up, kI_ne ha, h176', r0]) | (refine ⟨vp_in_nI (by omega) (by omega), ?_⟩) | (refine ⟨fun zc => ?_, fun zc => ?_⟩ <;> try (exfalso; omega)) | fail)
    have fin : ∀ f3 B3, f3 (a 176) = some (.inl (3, 2, .inl B3)) → B3 i = 1 → (∀ j, j ≠ i → B3 j = B j) → kfr a f2 f3 (fun j => j = 176) → Q (.inl (some (.int (nI s.o.n)))) f3 := by
      intro f3 B3 hB3 hBi hBo hF3
      have hFF : kfr a f1 f3 (fun j => j = 175 ∨ j = 176) := kfr_tr hF2 hF3 fun j hj => ⟨fun w => hj (Or.inl w), fun w => hj (Or.inr w)⟩
      refine hq f3 g1 ?_ h10 (kfr_tr hF1 hFF fun j hj => ⟨hj, fun w => hj (by unfold kMF; omega)⟩)
      obtain ⟨q1, q2, q3, q4, q5, q6, q7, q8, q9⟩ := h2
      refine ⟨ha, kMo_fq hMo hFF (by omega), ⟨⟨r, (hFF 171 (by omega)).trans hr, hR⟩, ⟨U, (hFF 174 (by omega)).trans h3', h4⟩, ⟨V2, B3, (hF3 175 (by omega)).trans h175', hB3, fun j hj => ?_⟩, ⟨C0, (hFF 177 (by omega)).trans h8', h9'⟩, ⟨T', (hFF 182 (by omega)).trans h10', h11⟩, ⟨W, (hFF 186 (by omega)).trans h12, h13⟩⟩, ⟨kar_fr q1 (hFF 172 (by omega)), kar_fr q2 (hFF 173 (by omega)), kar_fr q3 (hFF 178 (by omega)), kar_fr q4 (hFF 179 (by omega)), kar_fr q5 (hFF 180 (by omega)), kar_fr q6 (hFF 181 (by omega)), kar_fr q7 (hFF 183 (by omega)), kar_fr q8 (hFF 184 (by omega)), kar_fr q9 (hFF 185 (by omega))⟩, k3, k4⟩
      show ((if j = i then some s.o else s.v j) = none ∧ B3 j = 0) ∨ ∃ z, (if j = i then some s.o else s.v j) = some z ∧ B3 j = 1 ∧ kRw (fun t => V2 (388 * j + t)) z
      by_cases e : j = i
      · subst e
        rw [if_pos rfl]
        exact .inr ⟨s.o, rfl, hBi, kRw_c h60 hR fun t ht => by
          show V2 (388 * j + t) = r t
          rw [hVe, kcp, if_pos (by omega), Nat.zero_add, Nat.add_sub_cancel_left]⟩
      · rw [if_neg e, hBo j e]
        rcases hV j hj with h | ⟨z, w1, w2, w3⟩
        · exact .inl h
        · exact .inr ⟨z, w1, w2, kRw_c (hz.v j z hj w1).n60 w3 fun t ht => by
            show V2 (388 * j + t) = V (388 * j + t)
            rw [hVe, kcp, if_neg (by omega)]⟩
    exact fin _ _ kz_same pk_us (fun j hj => pk_un hj) (kfr_up ha kfr_rf rfl)
  · intro f1 g1 hM1 h10 hF1
    (try simp only [ky_aft, ky_vl, Nat.reduceAdd])
    repeat' (first | (refine ky_ok_stp rfl ?_; simp (disch := first | omega | assumption) only [ky_stp, ky_inv, ky_ldi, ky_ldl, ky_ldd, ky_lda, ky_cl2, ky_st1, ky_st2, ky_s1i, ky_s2i, ky_s1l, ky_s2l, ky_sli, ky_s1f, ky_s2f, ky_s1d, ky_s2d, ky_sr, ky_sai, ky_sasi, ky_sasl, ky_sasr, ky_svr, ky_sv, ky_sv2, ky_s1, ky_cs, ky_pop, ky_nth, ky_snt, ky_obj, ky_ari, ky_arl, ky_arr, ky_arn, ky_fv, ky_rcv, List.map_cons, List.map_nil, List.drop_succ_cons, List.drop_zero, Value.category, Nat.reduceAdd, Nat.reduceSub, true_and, and_true, true_or, or_true, reduceCtorEq, ite_true, ite_false, eq_self, Nat.reduceEqDiff, Nat.reduceLeDiff, nI_add, nI_1, nI_leI, nI_ltI, nI_eq, nI_clamp, kz_m1, kz_mn, kz_mn2, kz_n0, kz_0n, kz_0, kz_le0, kz_0lt, false_implies, true_implies, not_false_eq_true, not_true_eq_false, Nat.zero_le, kb_0, kz_10, kz_of, ky_sw, kz_mx, kz_mi]) | (refine ⟨vp_in_nI (by omega) (by omega), ?_⟩) | (refine ⟨fun zc => ?_, fun zc => ?_⟩ <;> try (exfalso; omega)) | fail)
    exact h1 hx f1 g1 hM1 h10 hF1
theorem kx297 (hM : kM a f g s) (hz : kKz s) (hy : ∀ i z, i < 2 → x = nI i → s.v i = some z → kMQ a f (kRs' s z) 0 Q (nI z.n)) (h2' : ∀ i, i < 2 → x = nI i → s.v i = none → kMQ a f s 2 Q 0) (h1 : ¬ kRg 0 1 x → kMQ a f s 1 Q 0) : ky_cl adK 297 [.ref (a 170), .int x] f Q := by
  have ho := hz.o
  have mh := hM.2.1
  unfold kMo at mh
  refine ⟨Nat.le_of_ble_eq_true rfl, fun z => absurd z (by decide), ?_⟩; show ky_ok adK 297 0 [some (.ref (a 170)), some (.int x)] [] f 0 0 _
  repeat' (first | (refine kx295 hM ho (fun hx => ?_) (fun hx => ?_)) | (refine ky_ok_stp rfl ?_; simp (disch := first | omega | assumption) only [ky_stp, ky_inv, ky_ldi, ky_ldl, ky_ldd, ky_lda, ky_cl2, ky_st1, ky_st2, ky_s1i, ky_s2i, ky_s1l, ky_s2l, ky_sli, ky_s1f, ky_s2f, ky_s1d, ky_s2d, ky_sr, ky_sai, ky_sasi, ky_sasl, ky_sasr, ky_svr, ky_sv, ky_sv2, ky_s1, ky_cs, ky_pop, ky_nth, ky_snt, ky_obj, ky_ari, ky_arl, ky_arr, ky_arn, ky_fv, ky_rcv, List.map_cons, List.map_nil, List.drop_succ_cons, List.drop_zero, Value.category, Nat.reduceAdd, Nat.reduceSub, true_and, and_true, true_or, or_true, reduceCtorEq, ite_true, ite_false, eq_self, Nat.reduceEqDiff, Nat.reduceLeDiff, nI_add, nI_1, nI_leI, nI_ltI, nI_eq, nI_clamp, kz_m1, kz_mn, kz_mn2, kz_n0, kz_0n, kz_0, kz_le0, kz_0lt, false_implies, true_implies, not_false_eq_true, not_true_eq_false, Nat.zero_le, kb_0, kz_10, kz_of, ky_sw, kz_mx, kz_mi, mh]) | (refine ⟨vp_in_nI (by omega) (by omega), ?_⟩) | (refine ⟨fun zc => ?_, fun zc => ?_⟩ <;> try (exfalso; omega)) | fail)
  · intro f1 g1 hM1 h10 hF1
    (try simp only [ky_aft, ky_vl, Nat.reduceAdd])
    obtain ⟨i, -, hi, rfl⟩ := hx
    obtain ⟨ha, hMo, ⟨⟨r, hr, hR⟩, ⟨U, h3', h4⟩, ⟨V, B, h175, h176, hV⟩, ⟨C0, h8', h9'⟩, ⟨T', h10', h11⟩, ⟨W, h12, h13⟩⟩, h2, k3, k4⟩ := id hM1
    have mh := hMo
    unfold kMo at mh
    have e10 : ((1 : Int32) = 0) = False := eq_false (by decide)
    rcases hV i (by omega) with ⟨v0, b0⟩ | ⟨z, v1, b1, hRv⟩
    · have hq := h2' i (by omega) rfl v0
      repeat' (first | (refine kx170t (p := 2) hM1 h10 (by decide) ?_) | (refine ky_ok_stp rfl ?_; simp (disch := first | omega | assumption) only [ky_stp, ky_inv, ky_ldi, ky_ldl, ky_ldd, ky_lda, ky_cl2, ky_st1, ky_st2, ky_s1i, ky_s2i, ky_s1l, ky_s2l, ky_sli, ky_s1f, ky_s2f, ky_s1d, ky_s2d, ky_sr, ky_sai, ky_sasi, ky_sasl, ky_sasr, ky_svr, ky_sv, ky_sv2, ky_s1, ky_cs, ky_pop, ky_nth, ky_snt, ky_obj, ky_ari, ky_arl, ky_arr, ky_arn, ky_fv, ky_rcv, List.map_cons, List.map_nil, List.drop_succ_cons, List.drop_zero, Value.category, Nat.reduceAdd, Nat.reduceSub, true_and, and_true, true_or, or_true, reduceCtorEq, ite_true, ite_false, eq_self, Nat.reduceEqDiff, Nat.reduceLeDiff, nI_add, nI_1, nI_leI, nI_ltI, nI_eq, nI_clamp, kz_m1, kz_mn, kz_mn2, kz_n0, kz_0n, kz_0, kz_le0, kz_0lt, false_implies, true_implies, not_false_eq_true, not_true_eq_false, Nat.zero_le, kb_0, kz_10, kz_of, ky_sw, kz_mx, kz_mi, mh, h176, b0]) | (refine ⟨vp_in_nI (by omega) (by omega), ?_⟩) | (refine ⟨fun zc => ?_, fun zc => ?_⟩ <;> try (exfalso; omega)) | fail)
      intro f2 g2 w1 w2 w3
      try simp only [ky_aft, ky_vl, Nat.reduceAdd]
      repeat' (first | (refine ky_ok_stp rfl ?_; simp (disch := first | omega | assumption) only [ky_stp, ky_inv, ky_ldi, ky_ldl, ky_ldd, ky_lda, ky_cl2, ky_st1, ky_st2, ky_s1i, ky_s2i, ky_s1l, ky_s2l, ky_sli, ky_s1f, ky_s2f, ky_s1d, ky_s2d, ky_sr, ky_sai, ky_sasi, ky_sasl, ky_sasr, ky_svr, ky_sv, ky_sv2, ky_s1, ky_cs, ky_pop, ky_nth, ky_snt, ky_obj, ky_ari, ky_arl, ky_arr, ky_arn, ky_fv, ky_rcv, List.map_cons, List.map_nil, List.drop_succ_cons, List.drop_zero, Value.category, Nat.reduceAdd, Nat.reduceSub, true_and, and_true, true_or, or_true, reduceCtorEq, ite_true, ite_false, eq_self, Nat.reduceEqDiff, Nat.reduceLeDiff, nI_add, nI_1, nI_leI, nI_ltI, nI_eq, nI_clamp, kz_m1, kz_mn, kz_mn2, kz_n0, kz_0n, kz_0, kz_le0, kz_0lt, false_implies, true_implies, not_false_eq_true, not_true_eq_false, Nat.zero_le, kb_0, kz_10, kz_of, ky_sw, kz_mx, kz_mi]) | (refine ⟨vp_in_nI (by omega) (by omega), ?_⟩) | (refine ⟨fun zc => ?_, fun zc => ?_⟩ <;> try (exfalso; omega)) | fail)
      (first | exact hq f2 g2 w1 w2 (kfr_tr hF1 w3 fun j hj => ⟨hj, hj⟩) | exact ⟨by decide, hq f2 g2 w1 w2 (kfr_tr hF1 w3 fun j hj => ⟨hj, hj⟩)⟩)
    · have hq := hy i z (by omega) rfl v1
      repeat' (first | (refine kx170n hMo h10 ?_; simp only [ky_aft, ky_vl, Nat.reduceAdd]) | (refine kx171 (i := 175) (j := 171) (b := 388 * i) (t := 0) ha (by decide) h175 hr (by omega) (by decide) (by decide) ?_) | (refine ky_ok_stp rfl ?_; simp (disch := first | omega | assumption) only [ky_stp, ky_inv, ky_ldi, ky_ldl, ky_ldd, ky_lda, ky_cl2, ky_st1, ky_st2, ky_s1i, ky_s2i, ky_s1l, ky_s2l, ky_sli, ky_s1f, ky_s2f, ky_s1d, ky_s2d, ky_sr, ky_sai, ky_sasi, ky_sasl, ky_sasr, ky_svr, ky_sv, ky_sv2, ky_s1, ky_cs, ky_pop, ky_nth, ky_snt, ky_obj, ky_ari, ky_arl, ky_arr, ky_arn, ky_fv, ky_rcv, List.map_cons, List.map_nil, List.drop_succ_cons, List.drop_zero, Value.category, Nat.reduceAdd, Nat.reduceSub, true_and, and_true, true_or, or_true, reduceCtorEq, ite_true, ite_false, eq_self, Nat.reduceEqDiff, Nat.reduceLeDiff, nI_add, nI_1, nI_leI, nI_ltI, nI_eq, nI_clamp, kz_m1, kz_mn, kz_mn2, kz_n0, kz_0n, kz_0, kz_le0, kz_0lt, false_implies, true_implies, not_false_eq_true, not_true_eq_false, Nat.zero_le, kb_0, kz_10, kz_of, ky_sw, kz_mx, kz_mi, mh, h176, b1, e10, kz_388, nI_mul]) | (refine ⟨vp_in_nI (by omega) (by omega), ?_⟩) | (refine ⟨fun zc => ?_, fun zc => ?_⟩ <;> try (exfalso; omega)) | fail)
      intro f2 R h171 hRe hF2
      (try simp only [ky_aft, ky_vl, Nat.reduceAdd])
      have hM2 := kMo_fq hMo hF2 (by omega)
      have mh2 := hM2
      unfold kMo at mh2
      have hoz := hz.v i z (by omega) v1
      have hRz : kRw R z := kRw_c hoz.n60 hRv fun t ht => by rw [hRe, kcp, if_pos (by omega), Nat.sub_zero]
      have hz0 := hRz.1
      have hFu : ∀ e, kfr a f2 (ky_up f2 (a 170) e) (fun j => j = 170) := fun e => kfr_up ha kfr_rf rfl
      have hB : ∀ e, (ky_up f2 (a 170) e) (a 171) = some (.inl (1, 388, .inl R)) := fun e => (hFu e 171 (by omega)).trans h171
      have hM5 : ∀ e, kMo a (ky_up f2 (a 170) e) (upd g1 1 0) → kMo a (ky_up f2 (a 170) e) (upd g1 1 0) := fun e h => h
      have fin : ∀ f3, kMo a f3 (upd g1 1 0) → kfr a f2 f3 (fun j => j = 170) → Q (.inl (some (.int (nI z.n)))) f3 := by
        intro f3 hM3 hF3
        have hFF : kfr a f1 f3 (fun j => j = 170 ∨ j = 171) := kfr_tr hF2 hF3 fun j hj => ⟨fun w => hj (Or.inr w), fun w => hj (Or.inl w)⟩
        refine hq f3 (upd g1 1 0) ?_ ((pk_un (by omega)).trans h10) (kfr_tr hF1 hFF fun j hj => ⟨hj, fun w => hj (by unfold kMF; omega)⟩)
        obtain ⟨q1, q2, q3, q4, q5, q6, q7, q8, q9⟩ := h2
        exact ⟨ha, hM3, ⟨⟨R, (hF3 171 (by omega)).trans h171, hRz⟩, ⟨U, (hFF 174 (by omega)).trans h3', fun j hj => absurd hj (Nat.not_lt_zero j)⟩, ⟨V, B, (hFF 175 (by omega)).trans h175, (hFF 176 (by omega)).trans h176, hV⟩, ⟨C0, (hFF 177 (by omega)).trans h8', h9'⟩, ⟨T', (hFF 182 (by omega)).trans h10', h11⟩, ⟨W, (hFF 186 (by omega)).trans h12, h13⟩⟩, ⟨kar_fr q1 (hFF 172 (by omega)), kar_fr q2 (hFF 173 (by omega)), kar_fr q3 (hFF 178 (by omega)), kar_fr q4 (hFF 179 (by omega)), kar_fr q5 (hFF 180 (by omega)), kar_fr q6 (hFF 181 (by omega)), kar_fr q7 (hFF 183 (by omega)), kar_fr q8 (hFF 184 (by omega)), kar_fr q9 (hFF 185 (by omega))⟩, ⟨rfl, k3.2⟩, ⟨Nat.zero_le _, k4.2⟩⟩
      repeat' (first | (refine kx172 (hM5 _ (by unfold kMo; rw [kz_same]; rfl)) (hB _) ?_; simp only [ky_aft, ky_vl, Nat.reduceAdd]) | (refine ky_ok_stp rfl ?_; simp (disch := first | omega | assumption) only [ky_stp, ky_inv, ky_ldi, ky_ldl, ky_ldd, ky_lda, ky_cl2, ky_st1, ky_st2, ky_s1i, ky_s2i, ky_s1l, ky_s2l, ky_sli, ky_s1f, ky_s2f, ky_s1d, ky_s2d, ky_sr, ky_sai, ky_sasi, ky_sasl, ky_sasr, ky_svr, ky_sv, ky_sv2, ky_s1, ky_cs, ky_pop, ky_nth, ky_snt, ky_obj, ky_ari, ky_arl, ky_arr, ky_arn, ky_fv, ky_rcv, List.map_cons, List.map_nil, List.drop_succ_cons, List.drop_zero, Value.category, Nat.reduceAdd, Nat.reduceSub, true_and, and_true, true_or, or_true, reduceCtorEq, ite_true, ite_false, eq_self, Nat.reduceEqDiff, Nat.reduceLeDiff, nI_add, nI_1, nI_leI, nI_ltI, nI_eq, nI_clamp, kz_m1, kz_mn, kz_mn2, kz_n0, kz_0n, kz_0, kz_le0, kz_0lt, false_implies, true_implies, not_false_eq_true, not_true_eq_false, Nat.zero_le, kb_0, kz_10, kz_of, ky_sw, kz_mx, kz_mi, mh2, kz_up, hz0]) | (refine ⟨vp_in_nI (by omega) (by omega), ?_⟩) | (refine ⟨fun zc => ?_, fun zc => ?_⟩ <;> try (exfalso; omega)) | fail)
      exact fin _ (by unfold kMo; rw [kz_same]; rfl) (kfr_up ha kfr_rf rfl)
  · intro f1 g1 hM1 h10 hF1
    (try simp only [ky_aft, ky_vl, Nat.reduceAdd])
    repeat' (first | (refine ky_ok_stp rfl ?_; simp (disch := first | omega | assumption) only [ky_stp, ky_inv, ky_ldi, ky_ldl, ky_ldd, ky_lda, ky_cl2, ky_st1, ky_st2, ky_s1i, ky_s2i, ky_s1l, ky_s2l, ky_sli, ky_s1f, ky_s2f, ky_s1d, ky_s2d, ky_sr, ky_sai, ky_sasi, ky_sasl, ky_sasr, ky_svr, ky_sv, ky_sv2, ky_s1, ky_cs, ky_pop, ky_nth, ky_snt, ky_obj, ky_ari, ky_arl, ky_arr, ky_arn, ky_fv, ky_rcv, List.map_cons, List.map_nil, List.drop_succ_cons, List.drop_zero, Value.category, Nat.reduceAdd, Nat.reduceSub, true_and, and_true, true_or, or_true, reduceCtorEq, ite_true, ite_false, eq_self, Nat.reduceEqDiff, Nat.reduceLeDiff, nI_add, nI_1, nI_leI, nI_ltI, nI_eq, nI_clamp, kz_m1, kz_mn, kz_mn2, kz_n0, kz_0n, kz_0, kz_le0, kz_0lt, false_implies, true_implies, not_false_eq_true, not_true_eq_false, Nat.zero_le, kb_0, kz_10, kz_of, ky_sw, kz_mx, kz_mi]) | (refine ⟨vp_in_nI (by omega) (by omega), ?_⟩) | (refine ⟨fun zc => ?_, fun zc => ?_⟩ <;> try (exfalso; omega)) | fail)
    exact h1 hx f1 g1 hM1 h10 hF1
end KXM
