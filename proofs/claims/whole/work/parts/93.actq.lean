/-! ## the reference: styles, folds to a level, undo, saved states, output -/
theorem kRw_ss {r T : Nat → Int32} {z : kZ} {S' : Nat → Nat → Int32} (h : kRw r z) (h0 : ∀ t, t = 0 ∨ 28 ≤ t → T t = r t) (h1 : ∀ c l, c < 4 → 1 ≤ l → l ≤ 6 → T (3 + 6 * c + l) = S' c l) : kRw T ⟨z.n, z.R, S'⟩ := by
  refine ⟨(h0 0 (by omega)).trans h.1, fun i hi => ?_, h1⟩
  rw [h0 _ (by omega), h0 _ (by omega), h0 _ (by omega), h0 _ (by omega), h0 _ (by omega)]
  exact h.2.1 i hi
section KXM
variable {adK a : Nat → Nat} {f : ky_H} {Q : ky_Q} {g r B T : Nat → Int32} {s : kSt} {p w n l i j t e m k : Nat} {x y v b c d : Int32} {z : kZ}
theorem kx288 (hM : kM a f g s) (hz : kKz s) (hy : ∀ l i j, 1 ≤ l → l ≤ 6 → i ≤ 5 → 1 ≤ j → j ≤ 99 → x = nI l → y = nI i → v = nI j → kMQ a f ((kBeg s).setO (kSkz s.o l (nI i) (nI j))) 0 Q (s.o.S 0 l)) (h1 : ¬ kLvl x → kMQ a f s 1 Q 0) (h2' : kLvl x → ¬ (kRg 0 5 y ∧ kRg 1 99 v) → kMQ a f s 2 Q 0) : ky_cl adK 288 [.ref (a 170), .int x, .int y, .int v] f Q := by
  have ho := hz.o
  have e5 : (5 : Int32) = nI 5 := rfl
  have e99 : (99 : Int32) = nI 99 := rfl
  have e10 : (10 : Int32) = nI 10 := rfl
  have e4 : (4 : Int32) = nI 4 := rfl
  have rest : ∀ f1 g1, kM a f1 g1 s → g1 0 = 0 → kfr a f f1 kMF → ky_ok adK 288 5 [some (.ref (a 170)), some (.int x), some (.int y), some (.int v), none] [] f1 0 0 Q := by
    intro f1 g1 hM1 h10 hF1
    obtain ⟨ha, hMo, ⟨⟨r, hr, hR⟩, hU, hV, hC, hT, hW⟩, h2, h3, h4⟩ := id hM1
    have mh := hMo
    unfold kMo at mh
    have h60 := ho.n60
    have hL := kRw_l ho hR
    by_cases hx : kLvl x
    case neg =>
      have hq := h1 hx
      repeat' (first | (refine kr_nlx hM1 h10 hx ?_) | (refine ky_ok_stp rfl ?_; simp (disch := first | omega | assumption) only [ky_stp, ky_inv, ky_ldi, ky_ldl, ky_ldd, ky_lda, ky_cl2, ky_st1, ky_st2, ky_s1i, ky_s2i, ky_s1l, ky_s2l, ky_sli, ky_s1f, ky_s2f, ky_s1d, ky_s2d, ky_sr, ky_sai, ky_sasi, ky_sasl, ky_sasr, ky_svr, ky_sv, ky_sv2, ky_s1, ky_cs, ky_pop, ky_nth, ky_snt, ky_obj, ky_ari, ky_arl, ky_arr, ky_arn, ky_fv, ky_rcv, List.map_cons, List.map_nil, List.drop_succ_cons, List.drop_zero, Value.category, Nat.reduceAdd, Nat.reduceSub, true_and, and_true, true_or, or_true, reduceCtorEq, ite_true, ite_false, eq_self, Nat.reduceEqDiff, Nat.reduceLeDiff, nI_add, nI_1, nI_leI, nI_ltI, nI_eq, nI_clamp, kz_m1, kz_mn, kz_mn2, kz_n0, kz_0n, kz_0, kz_le0, kz_0lt, false_implies, true_implies, not_false_eq_true, not_true_eq_false, Nat.zero_le, kb_0, kz_10, kz_of, ky_sw, kz_mx, kz_mi, mh]) | (refine ⟨vp_in_nI (by omega) (by omega), ?_⟩) | (refine ⟨fun zc => ?_, fun zc => ?_⟩ <;> try (exfalso; omega)) | fail)
      intro f2 g2 w1 w2 w3
      try simp only [ky_aft, ky_vl, Nat.reduceAdd]
      repeat' (first | (refine ky_ok_stp rfl ?_; simp (disch := first | omega | assumption) only [ky_stp, ky_inv, ky_ldi, ky_ldl, ky_ldd, ky_lda, ky_cl2, ky_st1, ky_st2, ky_s1i, ky_s2i, ky_s1l, ky_s2l, ky_sli, ky_s1f, ky_s2f, ky_s1d, ky_s2d, ky_sr, ky_sai, ky_sasi, ky_sasl, ky_sasr, ky_svr, ky_sv, ky_sv2, ky_s1, ky_cs, ky_pop, ky_nth, ky_snt, ky_obj, ky_ari, ky_arl, ky_arr, ky_arn, ky_fv, ky_rcv, List.map_cons, List.map_nil, List.drop_succ_cons, List.drop_zero, Value.category, Nat.reduceAdd, Nat.reduceSub, true_and, and_true, true_or, or_true, reduceCtorEq, ite_true, ite_false, eq_self, Nat.reduceEqDiff, Nat.reduceLeDiff, nI_add, nI_1, nI_leI, nI_ltI, nI_eq, nI_clamp, kz_m1, kz_mn, kz_mn2, kz_n0, kz_0n, kz_0, kz_le0, kz_0lt, false_implies, true_implies, not_false_eq_true, not_true_eq_false, Nat.zero_le, kb_0, kz_10, kz_of, ky_sw, kz_mx, kz_mi]) | (refine ⟨vp_in_nI (by omega) (by omega), ?_⟩) | (refine ⟨fun zc => ?_, fun zc => ?_⟩ <;> try (exfalso; omega)) | fail)
      (first | exact hq f2 g2 w1 w2 (kfr_tr hF1 w3 fun j hj => ⟨hj, hj⟩) | exact ⟨by decide, hq f2 g2 w1 w2 (kfr_tr hF1 w3 fun j hj => ⟨hj, hj⟩)⟩)
    by_cases hyy : kRg 0 5 y
    case neg =>
      have hq := h2' hx fun w => hyy w.1
      repeat' (first | (refine kr_nl hM1 h10 hx ?_; simp only [ky_aft, ky_vl, Nat.reduceAdd]) | ((refine kr_inx (lo := 0) (hi := 5) (by decide) (by decide) hyy ?_; simp only [ky_aft, ky_vl, Nat.reduceAdd])) | (refine kx170t (p := 2) hM1 h10 (by decide) ?_) | (refine ky_ok_stp rfl ?_; simp (disch := first | omega | assumption) only [ky_stp, ky_inv, ky_ldi, ky_ldl, ky_ldd, ky_lda, ky_cl2, ky_st1, ky_st2, ky_s1i, ky_s2i, ky_s1l, ky_s2l, ky_sli, ky_s1f, ky_s2f, ky_s1d, ky_s2d, ky_sr, ky_sai, ky_sasi, ky_sasl, ky_sasr, ky_svr, ky_sv, ky_sv2, ky_s1, ky_cs, ky_pop, ky_nth, ky_snt, ky_obj, ky_ari, ky_arl, ky_arr, ky_arn, ky_fv, ky_rcv, List.map_cons, List.map_nil, List.drop_succ_cons, List.drop_zero, Value.category, Nat.reduceAdd, Nat.reduceSub, true_and, and_true, true_or, or_true, reduceCtorEq, ite_true, ite_false, eq_self, Nat.reduceEqDiff, Nat.reduceLeDiff, nI_add, nI_1, nI_leI, nI_ltI, nI_eq, nI_clamp, kz_m1, kz_mn, kz_mn2, kz_n0, kz_0n, kz_0, kz_le0, kz_0lt, false_implies, true_implies, not_false_eq_true, not_true_eq_false, Nat.zero_le, kb_0, kz_10, kz_of, ky_sw, kz_mx, kz_mi, mh, e5]) | (refine ⟨vp_in_nI (by omega) (by omega), ?_⟩) | (refine ⟨fun zc => ?_, fun zc => ?_⟩ <;> try (exfalso; omega)) | fail)
      intro f2 g2 w1 w2 w3
      try simp only [ky_aft, ky_vl, Nat.reduceAdd]
      repeat' (first | (refine ky_ok_stp rfl ?_; simp (disch := first | omega | assumption) only [ky_stp, ky_inv, ky_ldi, ky_ldl, ky_ldd, ky_lda, ky_cl2, ky_st1, ky_st2, ky_s1i, ky_s2i, ky_s1l, ky_s2l, ky_sli, ky_s1f, ky_s2f, ky_s1d, ky_s2d, ky_sr, ky_sai, ky_sasi, ky_sasl, ky_sasr, ky_svr, ky_sv, ky_sv2, ky_s1, ky_cs, ky_pop, ky_nth, ky_snt, ky_obj, ky_ari, ky_arl, ky_arr, ky_arn, ky_fv, ky_rcv, List.map_cons, List.map_nil, List.drop_succ_cons, List.drop_zero, Value.category, Nat.reduceAdd, Nat.reduceSub, true_and, and_true, true_or, or_true, reduceCtorEq, ite_true, ite_false, eq_self, Nat.reduceEqDiff, Nat.reduceLeDiff, nI_add, nI_1, nI_leI, nI_ltI, nI_eq, nI_clamp, kz_m1, kz_mn, kz_mn2, kz_n0, kz_0n, kz_0, kz_le0, kz_0lt, false_implies, true_implies, not_false_eq_true, not_true_eq_false, Nat.zero_le, kb_0, kz_10, kz_of, ky_sw, kz_mx, kz_mi]) | (refine ⟨vp_in_nI (by omega) (by omega), ?_⟩) | (refine ⟨fun zc => ?_, fun zc => ?_⟩ <;> try (exfalso; omega)) | fail)
      (first | exact hq f2 g2 w1 w2 (kfr_tr hF1 w3 fun j hj => ⟨hj, hj⟩) | exact ⟨by decide, hq f2 g2 w1 w2 (kfr_tr hF1 w3 fun j hj => ⟨hj, hj⟩)⟩)
    by_cases hv : kRg 1 99 v
    case neg =>
      have hq := h2' hx fun w => hv w.2
      repeat' (first | (refine kr_nl hM1 h10 hx ?_; simp only [ky_aft, ky_vl, Nat.reduceAdd]) | ((refine kr_in (lo := 0) (hi := 5) (by decide) (by decide) hyy ?_; simp only [ky_aft, ky_vl, Nat.reduceAdd])) | ((refine kr_inx (lo := 1) (hi := 99) (by decide) (by decide) hv ?_; simp only [ky_aft, ky_vl, Nat.reduceAdd])) | (refine kx170t (p := 2) hM1 h10 (by decide) ?_) | (refine ky_ok_stp rfl ?_; simp (disch := first | omega | assumption) only [ky_stp, ky_inv, ky_ldi, ky_ldl, ky_ldd, ky_lda, ky_cl2, ky_st1, ky_st2, ky_s1i, ky_s2i, ky_s1l, ky_s2l, ky_sli, ky_s1f, ky_s2f, ky_s1d, ky_s2d, ky_sr, ky_sai, ky_sasi, ky_sasl, ky_sasr, ky_svr, ky_sv, ky_sv2, ky_s1, ky_cs, ky_pop, ky_nth, ky_snt, ky_obj, ky_ari, ky_arl, ky_arr, ky_arn, ky_fv, ky_rcv, List.map_cons, List.map_nil, List.drop_succ_cons, List.drop_zero, Value.category, Nat.reduceAdd, Nat.reduceSub, true_and, and_true, true_or, or_true, reduceCtorEq, ite_true, ite_false, eq_self, Nat.reduceEqDiff, Nat.reduceLeDiff, nI_add, nI_1, nI_leI, nI_ltI, nI_eq, nI_clamp, kz_m1, kz_mn, kz_mn2, kz_n0, kz_0n, kz_0, kz_le0, kz_0lt, false_implies, true_implies, not_false_eq_true, not_true_eq_false, Nat.zero_le, kb_0, kz_10, kz_of, ky_sw, kz_mx, kz_mi, mh, e5, e99]) | (refine ⟨vp_in_nI (by omega) (by omega), ?_⟩) | (refine ⟨fun zc => ?_, fun zc => ?_⟩ <;> try (exfalso; omega)) | fail)
      intro f2 g2 w1 w2 w3
      try simp only [ky_aft, ky_vl, Nat.reduceAdd]
      repeat' (first | (refine ky_ok_stp rfl ?_; simp (disch := first | omega | assumption) only [ky_stp, ky_inv, ky_ldi, ky_ldl, ky_ldd, ky_lda, ky_cl2, ky_st1, ky_st2, ky_s1i, ky_s2i, ky_s1l, ky_s2l, ky_sli, ky_s1f, ky_s2f, ky_s1d, ky_s2d, ky_sr, ky_sai, ky_sasi, ky_sasl, ky_sasr, ky_svr, ky_sv, ky_sv2, ky_s1, ky_cs, ky_pop, ky_nth, ky_snt, ky_obj, ky_ari, ky_arl, ky_arr, ky_arn, ky_fv, ky_rcv, List.map_cons, List.map_nil, List.drop_succ_cons, List.drop_zero, Value.category, Nat.reduceAdd, Nat.reduceSub, true_and, and_true, true_or, or_true, reduceCtorEq, ite_true, ite_false, eq_self, Nat.reduceEqDiff, Nat.reduceLeDiff, nI_add, nI_1, nI_leI, nI_ltI, nI_eq, nI_clamp, kz_m1, kz_mn, kz_mn2, kz_n0, kz_0n, kz_0, kz_le0, kz_0lt, false_implies, true_implies, not_false_eq_true, not_true_eq_false, Nat.zero_le, kb_0, kz_10, kz_of, ky_sw, kz_mx, kz_mi]) | (refine ⟨vp_in_nI (by omega) (by omega), ?_⟩) | (refine ⟨fun zc => ?_, fun zc => ?_⟩ <;> try (exfalso; omega)) | fail)
      (first | exact hq f2 g2 w1 w2 (kfr_tr hF1 w3 fun j hj => ⟨hj, hj⟩) | exact ⟨by decide, hq f2 g2 w1 w2 (kfr_tr hF1 w3 fun j hj => ⟨hj, hj⟩)⟩)
    obtain ⟨l, l1, l6, rfl⟩ := id hx
    obtain ⟨i, -, hi5, rfl⟩ := id hyy
    obtain ⟨j, j1, j99, rfl⟩ := id hv
    have hq := hy l i j l1 l6 hi5 j1 j99 rfl rfl rfl
    have hF10 := hF1
    repeat' (first | (refine kr_nl hM1 h10 hx ?_; simp only [ky_aft, ky_vl, Nat.reduceAdd]) | ((refine kr_in (lo := 0) (hi := 5) (by decide) (by decide) hyy ?_; simp only [ky_aft, ky_vl, Nat.reduceAdd])) | ((refine kr_in (lo := 1) (hi := 99) (by decide) (by decide) hv ?_; simp only [ky_aft, ky_vl, Nat.reduceAdd])) | (refine kx170n hMo h10 ?_; simp only [ky_aft, ky_vl, Nat.reduceAdd]) | (refine kx264 hM1 hz ?_) | (refine ky_ok_stp rfl ?_; simp (disch := first | omega | assumption) only [ky_stp, ky_inv, ky_ldi, ky_ldl, ky_ldd, ky_lda, ky_cl2, ky_st1, ky_st2, ky_s1i, ky_s2i, ky_s1l, ky_s2l, ky_sli, ky_s1f, ky_s2f, ky_s1d, ky_s2d, ky_sr, ky_sai, ky_sasi, ky_sasl, ky_sasr, ky_svr, ky_sv, ky_sv2, ky_s1, ky_cs, ky_pop, ky_nth, ky_snt, ky_obj, ky_ari, ky_arl, ky_arr, ky_arn, ky_fv, ky_rcv, List.map_cons, List.map_nil, List.drop_succ_cons, List.drop_zero, Value.category, Nat.reduceAdd, Nat.reduceSub, true_and, and_true, true_or, or_true, reduceCtorEq, ite_true, ite_false, eq_self, Nat.reduceEqDiff, Nat.reduceLeDiff, nI_add, nI_1, nI_leI, nI_ltI, nI_eq, nI_clamp, kz_m1, kz_mn, kz_mn2, kz_n0, kz_0n, kz_0, kz_le0, kz_0lt, false_implies, true_implies, not_false_eq_true, not_true_eq_false, Nat.zero_le, kb_0, kz_10, kz_of, ky_sw, kz_mx, kz_mi, mh, e5, e99]) | (refine ⟨vp_in_nI (by omega) (by omega), ?_⟩) | (refine ⟨fun zc => ?_, fun zc => ?_⟩ <;> try (exfalso; omega)) | fail)
    clear h60 hL mh hMo hr hR
    intro f1 g1 hM1 hg1 hF1
    try simp only [ky_aft, ky_vl, Nat.reduceAdd]
    obtain ⟨ha, hMo, ⟨⟨r, hr, hR⟩, -⟩, h2, h3, -⟩ := id hM1
    have hR : kRw r s.o := hR
    have mh := hMo
    unfold kMo at mh
    have h60 := ho.n60
    have hL := kRw_l ho hR
    have h184 := h2.2.2.2.2.2.2.2.1
    obtain ⟨B0, h184⟩ := h184
    have hS0 := hR.2.2 0 l (by decide) l1 l6
    rw [show 3 + 6 * 0 + l = 3 + 0 + l by omega] at hS0
    have es : nI (4 + l) - 1 = nI (3 + l) := by rw [show (1 : Int32) = nI 1 from rfl, nI_sub (by omega)]; congr 1; omega
    have es2 : nI (10 + l) - 1 = nI (9 + l) := by rw [show (1 : Int32) = nI 1 from rfl, nI_sub (by omega)]; congr 1; omega
    repeat' (first | ((refine kx176 (w := 0) hMo hr l1 l6 (by decide) ?_; simp only [ky_aft, ky_vl, Nat.reduceAdd])) | (refine ky_ok_stp rfl ?_; simp (disch := first | omega | assumption) only [ky_stp, ky_inv, ky_ldi, ky_ldl, ky_ldd, ky_lda, ky_cl2, ky_st1, ky_st2, ky_s1i, ky_s2i, ky_s1l, ky_s2l, ky_sli, ky_s1f, ky_s2f, ky_s1d, ky_s2d, ky_sr, ky_sai, ky_sasi, ky_sasl, ky_sasr, ky_svr, ky_sv, ky_sv2, ky_s1, ky_cs, ky_pop, ky_nth, ky_snt, ky_obj, ky_ari, ky_arl, ky_arr, ky_arn, ky_fv, ky_rcv, List.map_cons, List.map_nil, List.drop_succ_cons, List.drop_zero, Value.category, Nat.reduceAdd, Nat.reduceSub, true_and, and_true, true_or, or_true, reduceCtorEq, ite_true, ite_false, eq_self, Nat.reduceEqDiff, Nat.reduceLeDiff, nI_add, nI_1, nI_leI, nI_ltI, nI_eq, nI_clamp, kz_m1, kz_mn, kz_mn2, kz_n0, kz_0n, kz_0, kz_le0, kz_0lt, false_implies, true_implies, not_false_eq_true, not_true_eq_false, Nat.zero_le, kb_0, kz_10, kz_of, ky_sw, kz_mx, kz_mi, mh, hr, kz_up, kI_ne ha, hS0, e4, e10, es, es2]) | (refine ⟨vp_in_nI (by omega) (by omega), ?_⟩) | (refine ⟨fun zc => ?_, fun zc => ?_⟩ <;> try (exfalso; omega)) | fail)
    have hF2 : kfr a f1 (ky_up (ky_up f1 (a 171) (.inl (1, 388, .inl (upd r (3 + l) (nI i))))) (a 171) (.inl (1, 388, .inl (upd (upd r (3 + l) (nI i)) (9 + l) (nI j))))) (fun j => j = 171) := kfr_up ha (kfr_up ha kfr_rf rfl) rfl
    have hFT : kfr a f1 (ky_up (ky_up f1 (a 171) (.inl (1, 388, .inl (upd r (3 + l) (nI i))))) (a 171) (.inl (1, 388, .inl (upd (upd r (3 + l) (nI i)) (9 + l) (nI j))))) kTF := fun j hj => hF2 j fun w => hj (Or.inl w)
    refine hq _ g1 (kM_oT hM1 hFT (fun j h => h) kz_same ⟨B0, (hF2 184 (by omega)).trans h184⟩ (kRw_ss hR (fun t ht => by rw [pk_un (by omega), pk_un (by omega)]) fun c m hc m1 m6 => ?_)) ((hg1 0 (by decide)).trans h10) (kfr_tr hF10 (kMF_bt hF1 hFT) fun j hj => ⟨hj, fun w => hj w.1⟩)
    show _ = ksu (ksu s.o.S 0 l (nI i)) 1 l (nI j) c m
    have h0 := hR.2.2 c m hc m1 m6
    by_cases e : m = l
    · subst e
      match c, hc with
      | 0, _ => rw [ksu_c _ _ (by decide), ksu_s, pk_un (by omega), show 3 + 6 * 0 + m = 3 + m by omega, pk_us]
      | 1, _ => rw [ksu_s, show 3 + 6 * 1 + m = 9 + m by omega, pk_us]
      | 2, _ => rw [ksu_c _ _ (by decide), ksu_c _ _ (by decide), pk_un (by omega), pk_un (by omega)]; exact h0
      | 3, _ => rw [ksu_c _ _ (by decide), ksu_c _ _ (by decide), pk_un (by omega), pk_un (by omega)]; exact h0
    · rw [ksu_l _ _ e, ksu_l _ _ e, pk_un (by omega), pk_un (by omega)]; exact h0
  have mh := hM.2.1
  unfold kMo at mh
  refine ⟨Nat.le_of_ble_eq_true rfl, fun z => absurd z (by decide), ?_⟩; show ky_ok adK 288 0 [some (.ref (a 170)), some (.int x), some (.int y), some (.int v), none] [] f 0 0 _
  repeat' (first | (exact rest _ _ (kM_t0 hM) rfl (kMF_170 (kfr_up hM.1 kfr_rf rfl))) | (refine ky_ok_stp rfl ?_; simp (disch := first | omega | assumption) only [ky_stp, ky_inv, ky_ldi, ky_ldl, ky_ldd, ky_lda, ky_cl2, ky_st1, ky_st2, ky_s1i, ky_s2i, ky_s1l, ky_s2l, ky_sli, ky_s1f, ky_s2f, ky_s1d, ky_s2d, ky_sr, ky_sai, ky_sasi, ky_sasl, ky_sasr, ky_svr, ky_sv, ky_sv2, ky_s1, ky_cs, ky_pop, ky_nth, ky_snt, ky_obj, ky_ari, ky_arl, ky_arr, ky_arn, ky_fv, ky_rcv, List.map_cons, List.map_nil, List.drop_succ_cons, List.drop_zero, Value.category, Nat.reduceAdd, Nat.reduceSub, true_and, and_true, true_or, or_true, reduceCtorEq, ite_true, ite_false, eq_self, Nat.reduceEqDiff, Nat.reduceLeDiff, nI_add, nI_1, nI_leI, nI_ltI, nI_eq, nI_clamp, kz_m1, kz_mn, kz_mn2, kz_n0, kz_0n, kz_0, kz_le0, kz_0lt, false_implies, true_implies, not_false_eq_true, not_true_eq_false, Nat.zero_le, kb_0, kz_10, kz_of, ky_sw, kz_mx, kz_mi, mh]) | (refine ⟨vp_in_nI (by omega) (by omega), ?_⟩) | (refine ⟨fun zc => ?_, fun zc => ?_⟩ <;> try (exfalso; omega)) | fail)
theorem kx289 (hM : kM a f g s) (hz : kKz s) (hb : k01 b) (hc : k01 c) (hy : ∀ l, 1 ≤ l → l ≤ 6 → x = nI l → kMQ a f ((kBeg s).setO (kSmz s.o l b c)) 0 Q ((if s.o.S 2 l = 0 then 0 else 2) + (if s.o.S 3 l = 0 then 0 else 1))) (h1 : ¬ kLvl x → kMQ a f s 1 Q 0) : ky_cl adK 289 [.ref (a 170), .int x, .int b, .int c] f Q := by
  have ho := hz.o
  have e16 : (16 : Int32) = nI 16 := rfl
  have e22 : (22 : Int32) = nI 22 := rfl
  have rest : ∀ f1 g1, kM a f1 g1 s → g1 0 = 0 → kfr a f f1 kMF → ky_ok adK 289 5 [some (.ref (a 170)), some (.int x), some (.int b), some (.int c), none] [] f1 0 0 Q := by
    intro f1 g1 hM1 h10 hF1
    obtain ⟨ha, hMo, ⟨⟨r, hr, hR⟩, hU, hV, hC, hT, hW⟩, h2, h3, h4⟩ := id hM1
    have mh := hMo
    unfold kMo at mh
    have h60 := ho.n60
    have hL := kRw_l ho hR
    by_cases hx : kLvl x
    case neg =>
      have hq := h1 hx
      repeat' (first | (refine kr_nlx hM1 h10 hx ?_) | (refine ky_ok_stp rfl ?_; simp (disch := first | omega | assumption) only [ky_stp, ky_inv, ky_ldi, ky_ldl, ky_ldd, ky_lda, ky_cl2, ky_st1, ky_st2, ky_s1i, ky_s2i, ky_s1l, ky_s2l, ky_sli, ky_s1f, ky_s2f, ky_s1d, ky_s2d, ky_sr, ky_sai, ky_sasi, ky_sasl, ky_sasr, ky_svr, ky_sv, ky_sv2, ky_s1, ky_cs, ky_pop, ky_nth, ky_snt, ky_obj, ky_ari, ky_arl, ky_arr, ky_arn, ky_fv, ky_rcv, List.map_cons, List.map_nil, List.drop_succ_cons, List.drop_zero, Value.category, Nat.reduceAdd, Nat.reduceSub, true_and, and_true, true_or, or_true, reduceCtorEq, ite_true, ite_false, eq_self, Nat.reduceEqDiff, Nat.reduceLeDiff, nI_add, nI_1, nI_leI, nI_ltI, nI_eq, nI_clamp, kz_m1, kz_mn, kz_mn2, kz_n0, kz_0n, kz_0, kz_le0, kz_0lt, false_implies, true_implies, not_false_eq_true, not_true_eq_false, Nat.zero_le, kb_0, kz_10, kz_of, ky_sw, kz_mx, kz_mi, mh]) | (refine ⟨vp_in_nI (by omega) (by omega), ?_⟩) | (refine ⟨fun zc => ?_, fun zc => ?_⟩ <;> try (exfalso; omega)) | fail)
      intro f2 g2 w1 w2 w3
      try simp only [ky_aft, ky_vl, Nat.reduceAdd]
      repeat' (first | (refine ky_ok_stp rfl ?_; simp (disch := first | omega | assumption) only [ky_stp, ky_inv, ky_ldi, ky_ldl, ky_ldd, ky_lda, ky_cl2, ky_st1, ky_st2, ky_s1i, ky_s2i, ky_s1l, ky_s2l, ky_sli, ky_s1f, ky_s2f, ky_s1d, ky_s2d, ky_sr, ky_sai, ky_sasi, ky_sasl, ky_sasr, ky_svr, ky_sv, ky_sv2, ky_s1, ky_cs, ky_pop, ky_nth, ky_snt, ky_obj, ky_ari, ky_arl, ky_arr, ky_arn, ky_fv, ky_rcv, List.map_cons, List.map_nil, List.drop_succ_cons, List.drop_zero, Value.category, Nat.reduceAdd, Nat.reduceSub, true_and, and_true, true_or, or_true, reduceCtorEq, ite_true, ite_false, eq_self, Nat.reduceEqDiff, Nat.reduceLeDiff, nI_add, nI_1, nI_leI, nI_ltI, nI_eq, nI_clamp, kz_m1, kz_mn, kz_mn2, kz_n0, kz_0n, kz_0, kz_le0, kz_0lt, false_implies, true_implies, not_false_eq_true, not_true_eq_false, Nat.zero_le, kb_0, kz_10, kz_of, ky_sw, kz_mx, kz_mi]) | (refine ⟨vp_in_nI (by omega) (by omega), ?_⟩) | (refine ⟨fun zc => ?_, fun zc => ?_⟩ <;> try (exfalso; omega)) | fail)
      (first | exact hq f2 g2 w1 w2 (kfr_tr hF1 w3 fun j hj => ⟨hj, hj⟩) | exact ⟨by decide, hq f2 g2 w1 w2 (kfr_tr hF1 w3 fun j hj => ⟨hj, hj⟩)⟩)
    obtain ⟨l, l1, l6, rfl⟩ := id hx
    have hq := hy l l1 l6 rfl
    have hF10 := hF1
    repeat' (first | (refine kr_nl hM1 h10 hx ?_; simp only [ky_aft, ky_vl, Nat.reduceAdd]) | (refine kx264 hM1 hz ?_) | (refine ky_ok_stp rfl ?_; simp (disch := first | omega | assumption) only [ky_stp, ky_inv, ky_ldi, ky_ldl, ky_ldd, ky_lda, ky_cl2, ky_st1, ky_st2, ky_s1i, ky_s2i, ky_s1l, ky_s2l, ky_sli, ky_s1f, ky_s2f, ky_s1d, ky_s2d, ky_sr, ky_sai, ky_sasi, ky_sasl, ky_sasr, ky_svr, ky_sv, ky_sv2, ky_s1, ky_cs, ky_pop, ky_nth, ky_snt, ky_obj, ky_ari, ky_arl, ky_arr, ky_arn, ky_fv, ky_rcv, List.map_cons, List.map_nil, List.drop_succ_cons, List.drop_zero, Value.category, Nat.reduceAdd, Nat.reduceSub, true_and, and_true, true_or, or_true, reduceCtorEq, ite_true, ite_false, eq_self, Nat.reduceEqDiff, Nat.reduceLeDiff, nI_add, nI_1, nI_leI, nI_ltI, nI_eq, nI_clamp, kz_m1, kz_mn, kz_mn2, kz_n0, kz_0n, kz_0, kz_le0, kz_0lt, false_implies, true_implies, not_false_eq_true, not_true_eq_false, Nat.zero_le, kb_0, kz_10, kz_of, ky_sw, kz_mx, kz_mi, mh]) | (refine ⟨vp_in_nI (by omega) (by omega), ?_⟩) | (refine ⟨fun zc => ?_, fun zc => ?_⟩ <;> try (exfalso; omega)) | fail)
    clear h60 hL mh hMo hr hR
    intro f1 g1 hM1 hg1 hF1
    try simp only [ky_aft, ky_vl, Nat.reduceAdd]
    obtain ⟨ha, hMo, ⟨⟨r, hr, hR⟩, -⟩, h2, h3, -⟩ := id hM1
    have hR : kRw r s.o := hR
    have mh := hMo
    unfold kMo at mh
    have h60 := ho.n60
    have hL := kRw_l ho hR
    have h184 := h2.2.2.2.2.2.2.2.1
    obtain ⟨B0, h184⟩ := h184
    have hS2 := hR.2.2 2 l (by decide) l1 l6
    have hS3 := hR.2.2 3 l (by decide) l1 l6
    rw [show 3 + 6 * 2 + l = 3 + 12 + l by omega] at hS2
    rw [show 3 + 6 * 3 + l = 3 + 18 + l by omega] at hS3
    have es : nI (16 + l) - 1 = nI (15 + l) := by rw [show (1 : Int32) = nI 1 from rfl, nI_sub (by omega)]; congr 1; omega
    have es2 : nI (22 + l) - 1 = nI (21 + l) := by rw [show (1 : Int32) = nI 1 from rfl, nI_sub (by omega)]; congr 1; omega
    have ew : (2 : Int32) * s.o.S 2 l + s.o.S 3 l = (if s.o.S 2 l = 0 then 0 else 2) + (if s.o.S 3 l = 0 then 0 else 1) := by
      rcases (ho.fs l l1 l6) with ⟨h2 | h2, h3 | h3⟩ <;> rw [h2, h3] <;> decide
    have hfin : ∀ u v : Int32, u = b → v = c → Q (.inl (some (.int ((2 : Int32) * s.o.S 2 l + s.o.S 3 l)))) (ky_up (ky_up f1 (a 171) (.inl (1, 388, .inl (upd r (15 + l) u)))) (a 171) (.inl (1, 388, .inl (upd (upd r (15 + l) u) (21 + l) v)))) := by
      rintro u v rfl rfl
      rw [ew]
      have hF2 : kfr a f1 (ky_up (ky_up f1 (a 171) (.inl (1, 388, .inl (upd r (15 + l) u)))) (a 171) (.inl (1, 388, .inl (upd (upd r (15 + l) u) (21 + l) v)))) (fun j => j = 171) := kfr_up ha (kfr_up ha kfr_rf rfl) rfl
      have hFT : kfr a f1 (ky_up (ky_up f1 (a 171) (.inl (1, 388, .inl (upd r (15 + l) u)))) (a 171) (.inl (1, 388, .inl (upd (upd r (15 + l) u) (21 + l) v)))) kTF := fun j hj => hF2 j fun w => hj (Or.inl w)
      refine hq _ g1 (kM_oT hM1 hFT (fun j h => h) kz_same ⟨B0, (hF2 184 (by omega)).trans h184⟩ (kRw_ss hR (fun t ht => by rw [pk_un (by omega), pk_un (by omega)]) fun c m hc m1 m6 => ?_)) ((hg1 0 (by decide)).trans h10) (kfr_tr hF10 (kMF_bt hF1 hFT) fun j hj => ⟨hj, fun w => hj w.1⟩)
      show _ = ksu (ksu s.o.S 2 l u) 3 l v c m
      have h0 := hR.2.2 c m hc m1 m6
      by_cases e : m = l
      · subst e
        match c, hc with
        | 0, _ => rw [ksu_c _ _ (by decide), ksu_c _ _ (by decide), pk_un (by omega), pk_un (by omega)]; exact h0
        | 1, _ => rw [ksu_c _ _ (by decide), ksu_c _ _ (by decide), pk_un (by omega), pk_un (by omega)]; exact h0
        | 2, _ => rw [ksu_c _ _ (by decide), ksu_s, pk_un (by omega), show 3 + 6 * 2 + m = 15 + m by omega, pk_us]
        | 3, _ => rw [ksu_s, show 3 + 6 * 3 + m = 21 + m by omega, pk_us]
      · rw [ksu_l _ _ e, ksu_l _ _ e, pk_un (by omega), pk_un (by omega)]; exact h0
    rcases hb with rfl | rfl <;> rcases hc with rfl | rfl
    all_goals
      repeat' (first | ((refine kx176 (w := 12) hMo hr l1 l6 (by decide) ?_; simp only [ky_aft, ky_vl, Nat.reduceAdd])) | ((refine kx176 (w := 18) hMo hr l1 l6 (by decide) ?_; simp only [ky_aft, ky_vl, Nat.reduceAdd])) | (refine ky_ok_stp rfl ?_; simp (disch := first | omega | assumption) only [ky_stp, ky_inv, ky_ldi, ky_ldl, ky_ldd, ky_lda, ky_cl2, ky_st1, ky_st2, ky_s1i, ky_s2i, ky_s1l, ky_s2l, ky_sli, ky_s1f, ky_s2f, ky_s1d, ky_s2d, ky_sr, ky_sai, ky_sasi, ky_sasl, ky_sasr, ky_svr, ky_sv, ky_sv2, ky_s1, ky_cs, ky_pop, ky_nth, ky_snt, ky_obj, ky_ari, ky_arl, ky_arr, ky_arn, ky_fv, ky_rcv, List.map_cons, List.map_nil, List.drop_succ_cons, List.drop_zero, Value.category, Nat.reduceAdd, Nat.reduceSub, true_and, and_true, true_or, or_true, reduceCtorEq, ite_true, ite_false, eq_self, Nat.reduceEqDiff, Nat.reduceLeDiff, nI_add, nI_1, nI_leI, nI_ltI, nI_eq, nI_clamp, kz_m1, kz_mn, kz_mn2, kz_n0, kz_0n, kz_0, kz_le0, kz_0lt, false_implies, true_implies, not_false_eq_true, not_true_eq_false, Nat.zero_le, kb_0, kz_10, kz_of, ky_sw, kz_mx, kz_mi, mh, hr, kz_up, kI_ne ha, hS2, hS3, e16, e22, es, es2]) | (refine ⟨vp_in_nI (by omega) (by omega), ?_⟩) | (refine ⟨fun zc => ?_, fun zc => ?_⟩ <;> try (exfalso; omega)) | fail)
      exact hfin _ _ rfl rfl
  have mh := hM.2.1
  unfold kMo at mh
  refine ⟨Nat.le_of_ble_eq_true rfl, fun z => absurd z (by decide), ?_⟩; show ky_ok adK 289 0 [some (.ref (a 170)), some (.int x), some (.int b), some (.int c), none] [] f 0 0 _
  repeat' (first | (exact rest _ _ (kM_t0 hM) rfl (kMF_170 (kfr_up hM.1 kfr_rf rfl))) | (refine ky_ok_stp rfl ?_; simp (disch := first | omega | assumption) only [ky_stp, ky_inv, ky_ldi, ky_ldl, ky_ldd, ky_lda, ky_cl2, ky_st1, ky_st2, ky_s1i, ky_s2i, ky_s1l, ky_s2l, ky_sli, ky_s1f, ky_s2f, ky_s1d, ky_s2d, ky_sr, ky_sai, ky_sasi, ky_sasl, ky_sasr, ky_svr, ky_sv, ky_sv2, ky_s1, ky_cs, ky_pop, ky_nth, ky_snt, ky_obj, ky_ari, ky_arl, ky_arr, ky_arn, ky_fv, ky_rcv, List.map_cons, List.map_nil, List.drop_succ_cons, List.drop_zero, Value.category, Nat.reduceAdd, Nat.reduceSub, true_and, and_true, true_or, or_true, reduceCtorEq, ite_true, ite_false, eq_self, Nat.reduceEqDiff, Nat.reduceLeDiff, nI_add, nI_1, nI_leI, nI_ltI, nI_eq, nI_clamp, kz_m1, kz_mn, kz_mn2, kz_n0, kz_0n, kz_0, kz_le0, kz_0lt, false_implies, true_implies, not_false_eq_true, not_true_eq_false, Nat.zero_le, kb_0, kz_10, kz_of, ky_sw, kz_mx, kz_mi, mh]) | (refine ⟨vp_in_nI (by omega) (by omega), ?_⟩) | (refine ⟨fun zc => ?_, fun zc => ?_⟩ <;> try (exfalso; omega)) | fail)
theorem kx282 (hM : kM a f g s) (hz : kKz s) (hy : ∀ l, 1 ≤ l → l ≤ 6 → x = nI l → kMQ a f ((kBeg s).setO (kFtz s.o l)) 0 Q (nI (kVl (kFtz s.o l)).length)) (h1 : ¬ kLvl x → kMQ a f s 1 Q 0) : ky_cl adK 282 [.ref (a 170), .int x] f Q := by
  have ho := hz.o
  have rest : ∀ f1 g1, kM a f1 g1 s → g1 0 = 0 → kfr a f f1 kMF → ky_ok adK 282 5 [some (.ref (a 170)), some (.int x), none] [] f1 0 0 Q := by
    intro f1 g1 hM1 h10 hF1
    obtain ⟨ha, hMo, ⟨⟨r, hr, hR⟩, hU, hV, hC, hT, hW⟩, h2, h3, h4⟩ := id hM1
    have mh := hMo
    unfold kMo at mh
    have h60 := ho.n60
    have hL := kRw_l ho hR
    by_cases hx : kLvl x
    case neg =>
      have hq := h1 hx
      repeat' (first | (refine kr_nlx hM1 h10 hx ?_) | (refine ky_ok_stp rfl ?_; simp (disch := first | omega | assumption) only [ky_stp, ky_inv, ky_ldi, ky_ldl, ky_ldd, ky_lda, ky_cl2, ky_st1, ky_st2, ky_s1i, ky_s2i, ky_s1l, ky_s2l, ky_sli, ky_s1f, ky_s2f, ky_s1d, ky_s2d, ky_sr, ky_sai, ky_sasi, ky_sasl, ky_sasr, ky_svr, ky_sv, ky_sv2, ky_s1, ky_cs, ky_pop, ky_nth, ky_snt, ky_obj, ky_ari, ky_arl, ky_arr, ky_arn, ky_fv, ky_rcv, List.map_cons, List.map_nil, List.drop_succ_cons, List.drop_zero, Value.category, Nat.reduceAdd, Nat.reduceSub, true_and, and_true, true_or, or_true, reduceCtorEq, ite_true, ite_false, eq_self, Nat.reduceEqDiff, Nat.reduceLeDiff, nI_add, nI_1, nI_leI, nI_ltI, nI_eq, nI_clamp, kz_m1, kz_mn, kz_mn2, kz_n0, kz_0n, kz_0, kz_le0, kz_0lt, false_implies, true_implies, not_false_eq_true, not_true_eq_false, Nat.zero_le, kb_0, kz_10, kz_of, ky_sw, kz_mx, kz_mi, mh]) | (refine ⟨vp_in_nI (by omega) (by omega), ?_⟩) | (refine ⟨fun zc => ?_, fun zc => ?_⟩ <;> try (exfalso; omega)) | fail)
      intro f2 g2 w1 w2 w3
      try simp only [ky_aft, ky_vl, Nat.reduceAdd]
      repeat' (first | (refine ky_ok_stp rfl ?_; simp (disch := first | omega | assumption) only [ky_stp, ky_inv, ky_ldi, ky_ldl, ky_ldd, ky_lda, ky_cl2, ky_st1, ky_st2, ky_s1i, ky_s2i, ky_s1l, ky_s2l, ky_sli, ky_s1f, ky_s2f, ky_s1d, ky_s2d, ky_sr, ky_sai, ky_sasi, ky_sasl, ky_sasr, ky_svr, ky_sv, ky_sv2, ky_s1, ky_cs, ky_pop, ky_nth, ky_snt, ky_obj, ky_ari, ky_arl, ky_arr, ky_arn, ky_fv, ky_rcv, List.map_cons, List.map_nil, List.drop_succ_cons, List.drop_zero, Value.category, Nat.reduceAdd, Nat.reduceSub, true_and, and_true, true_or, or_true, reduceCtorEq, ite_true, ite_false, eq_self, Nat.reduceEqDiff, Nat.reduceLeDiff, nI_add, nI_1, nI_leI, nI_ltI, nI_eq, nI_clamp, kz_m1, kz_mn, kz_mn2, kz_n0, kz_0n, kz_0, kz_le0, kz_0lt, false_implies, true_implies, not_false_eq_true, not_true_eq_false, Nat.zero_le, kb_0, kz_10, kz_of, ky_sw, kz_mx, kz_mi]) | (refine ⟨vp_in_nI (by omega) (by omega), ?_⟩) | (refine ⟨fun zc => ?_, fun zc => ?_⟩ <;> try (exfalso; omega)) | fail)
      (first | exact hq f2 g2 w1 w2 (kfr_tr hF1 w3 fun j hj => ⟨hj, hj⟩) | exact ⟨by decide, hq f2 g2 w1 w2 (kfr_tr hF1 w3 fun j hj => ⟨hj, hj⟩)⟩)
    obtain ⟨l, l1, l6, rfl⟩ := id hx
    have hq := hy l l1 l6 rfl
    have hF10 := hF1
    repeat' (first | (refine kr_nl hM1 h10 hx ?_; simp only [ky_aft, ky_vl, Nat.reduceAdd]) | (refine kx264 hM1 hz ?_) | (refine ky_ok_stp rfl ?_; simp (disch := first | omega | assumption) only [ky_stp, ky_inv, ky_ldi, ky_ldl, ky_ldd, ky_lda, ky_cl2, ky_st1, ky_st2, ky_s1i, ky_s2i, ky_s1l, ky_s2l, ky_sli, ky_s1f, ky_s2f, ky_s1d, ky_s2d, ky_sr, ky_sai, ky_sasi, ky_sasl, ky_sasr, ky_svr, ky_sv, ky_sv2, ky_s1, ky_cs, ky_pop, ky_nth, ky_snt, ky_obj, ky_ari, ky_arl, ky_arr, ky_arn, ky_fv, ky_rcv, List.map_cons, List.map_nil, List.drop_succ_cons, List.drop_zero, Value.category, Nat.reduceAdd, Nat.reduceSub, true_and, and_true, true_or, or_true, reduceCtorEq, ite_true, ite_false, eq_self, Nat.reduceEqDiff, Nat.reduceLeDiff, nI_add, nI_1, nI_leI, nI_ltI, nI_eq, nI_clamp, kz_m1, kz_mn, kz_mn2, kz_n0, kz_0n, kz_0, kz_le0, kz_0lt, false_implies, true_implies, not_false_eq_true, not_true_eq_false, Nat.zero_le, kb_0, kz_10, kz_of, ky_sw, kz_mx, kz_mi, mh]) | (refine ⟨vp_in_nI (by omega) (by omega), ?_⟩) | (refine ⟨fun zc => ?_, fun zc => ?_⟩ <;> try (exfalso; omega)) | fail)
    clear h60 hL mh hMo hr hR
    intro f1 g1 hM1 hg1 hF1
    try simp only [ky_aft, ky_vl, Nat.reduceAdd]
    obtain ⟨ha, hMo, ⟨⟨r, hr, hR⟩, -⟩, h2, h3, -⟩ := id hM1
    have hR : kRw r s.o := hR
    have mh := hMo
    unfold kMo at mh
    have h60 := ho.n60
    have hL := kRw_l ho hR
    have h184 := h2.2.2.2.2.2.2.2.1
    obtain ⟨B0, h184⟩ := h184
    have hfo : kZo (kFtz s.o l) := kFtz_ok ho l
    have lp : ∀ m i f2 T, i + m = s.o.n → f2 (a 171) = some (.inl (1, 388, .inl T)) → (∀ t, (∀ j, j < i → t ≠ 28 + 6 * j + 2) → T t = r t) → (∀ j, j < i → T (28 + 6 * j + 2) = if l ≤ kV s.o.R j ∧ j + 1 < kEnd s.o j then 1 else 0) → kfr a f1 f2 (fun j => j = 171) → ky_ok adK 282 21 [some (.ref (a 170)), some (.int (nI l)), some (.int (nI i))] [] f2 0 0 Q := by
      intro m
      induction m with
      | zero =>
        intro i f2 T hi hT hx hy hF2
        obtain rfl : i = s.o.n := by omega
        have hM2 := kMo_fq hMo hF2 (by omega)
        have mh2 := hM2
        unfold kMo at mh2
        have hT0 : T 0 = nI s.o.n := (hx 0 (fun j _ => by omega)).trans hR.1
        have hFT : kfr a f1 f2 kTF := fun j hj => hF2 j fun w => hj (Or.inl w)
        have hRT : kRw T (kFtz s.o l) := by
          refine ⟨hT0, fun i hi => ?_, fun c l hc w1 w6 => by rw [hx _ (fun j _ => by omega)]; exact hR.2.2 c l hc w1 w6⟩
          obtain ⟨a0, a1, a2, wd, a3, a4, a5, a6⟩ := hR.2.1 i hi
          have hi : i < s.o.n := hi
          rw [hx (28 + 6 * i) (fun j _ => by omega), hx (28 + 6 * i + 1) (fun j _ => by omega), hx (28 + 6 * i + 3) (fun j _ => by omega), hx (28 + 6 * i + 4) (fun j _ => by omega), hy i hi]
          exact ⟨a0, a1, rfl, wd, a3, a4, a5, a6⟩
        repeat' (first | (refine kx172 hM2 hT ?_; simp only [ky_aft, ky_vl, Nat.reduceAdd]) | (refine kx184 hM2 hT hfo hRT ?_; simp only [ky_aft, ky_vl, Nat.reduceAdd]) | (refine ky_ok_stp rfl ?_; simp (disch := first | omega | assumption) only [ky_stp, ky_inv, ky_ldi, ky_ldl, ky_ldd, ky_lda, ky_cl2, ky_st1, ky_st2, ky_s1i, ky_s2i, ky_s1l, ky_s2l, ky_sli, ky_s1f, ky_s2f, ky_s1d, ky_s2d, ky_sr, ky_sai, ky_sasi, ky_sasl, ky_sasr, ky_svr, ky_sv, ky_sv2, ky_s1, ky_cs, ky_pop, ky_nth, ky_snt, ky_obj, ky_ari, ky_arl, ky_arr, ky_arn, ky_fv, ky_rcv, List.map_cons, List.map_nil, List.drop_succ_cons, List.drop_zero, Value.category, Nat.reduceAdd, Nat.reduceSub, true_and, and_true, true_or, or_true, reduceCtorEq, ite_true, ite_false, eq_self, Nat.reduceEqDiff, Nat.reduceLeDiff, nI_add, nI_1, nI_leI, nI_ltI, nI_eq, nI_clamp, kz_m1, kz_mn, kz_mn2, kz_n0, kz_0n, kz_0, kz_le0, kz_0lt, false_implies, true_implies, not_false_eq_true, not_true_eq_false, Nat.zero_le, kb_0, kz_10, kz_of, ky_sw, kz_mx, kz_mi, mh2, hT0]) | (refine ⟨vp_in_nI (by omega) (by omega), ?_⟩) | (refine ⟨fun zc => ?_, fun zc => ?_⟩ <;> try (exfalso; omega)) | fail)
        exact hq f2 g1 (kM_oT hM1 hFT (fun j h => h) hT ⟨B0, (hF2 184 (by omega)).trans h184⟩ hRT) ((hg1 0 (by decide)).trans h10) (kfr_tr hF10 (kMF_bt hF1 hFT) fun j hj => ⟨hj, fun w => hj w.1⟩)
      | succ m ih =>
        intro i f2 T hi hT hx hy hF2
        have hin : i < s.o.n := by omega
        have hM2 := kMo_fq hMo hF2 (by omega)
        have mh2 := hM2
        unfold kMo at mh2
        have hLT : kRlv T s.o.n (kL s.o.R) := ⟨h60, (hx 0 (fun j _ => by omega)).trans hR.1, fun j hj => (hx _ (fun j _ => by omega)).trans (hR.2.1 j hj).1⟩
        have hT0 := hLT.2.1
        obtain ⟨l0, v1, v6⟩ := ho.lv i hin
        have hTi : T (28 + 6 * i) = nI (kV s.o.R i) := (hLT.2.2 i hin).trans l0
        have hch := kCh_1 ho hin
        have hE : kE (kL s.o.R) (kL s.o.R i) (i + 1) (s.o.n - (i + 1)) = kEnd s.o i := rfl
        have hcl := kCh_le (kL s.o.R) (kL s.o.R i + 1) (kEnd s.o i - (i + 1)) (i + 1) []
        have hel := (kEnd_le hin).2
        rw [List.length_nil] at hcl
        have hup : ∀ v : Int32, (v = if l ≤ kV s.o.R i ∧ i + 1 < kEnd s.o i then 1 else 0) → ky_ok adK 282 21 [some (.ref (a 170)), some (.int (nI l)), some (.int (nI (i + 1)))] [] (ky_up f2 (a 171) (.inl (1, 388, .inl (upd T (28 + 6 * i + 2) v)))) 0 0 Q := by
          intro v hv
          refine ih (i + 1) _ _ (by omega) kz_same (fun t ht => by rw [pk_un (ht i (by omega))]; exact hx t fun j hj => ht j (by omega)) (fun j hj => ?_) (kfr_up ha hF2 rfl)
          by_cases e : j = i
          · subst e; rw [pk_us]; exact hv
          · rw [pk_un (by omega)]; exact hy j (by omega)
        by_cases c1 : l ≤ kV s.o.R i
        · by_cases c2 : i + 1 < kEnd s.o i
          · have h1 := hup 1 (by rw [if_pos ⟨c1, c2⟩])
            have hc0 : ¬ (kCh (kL s.o.R) (kL s.o.R i + 1) (i + 1) (kEnd s.o i - (i + 1)) []).length = 0 := fun w => hch.mp w c2
            repeat' (first | (refine kx172 hM2 hT ?_; simp only [ky_aft, ky_vl, Nat.reduceAdd]) | (refine kx175 hM2 hT (show i < 60 by omega) ?_; simp only [ky_aft, ky_vl, Nat.reduceAdd]) | (refine kx182 hM2 hT hLT hin ?_; simp only [ky_aft, ky_vl, Nat.reduceAdd]) | ((refine kx174 (w := 2) hM2 hT (show i < 60 by omega) (by decide) ?_; simp only [ky_aft, ky_vl, Nat.reduceAdd])) | (exact h1) | (refine ky_ok_stp rfl ?_; simp (disch := first | omega | assumption) only [ky_stp, ky_inv, ky_ldi, ky_ldl, ky_ldd, ky_lda, ky_cl2, ky_st1, ky_st2, ky_s1i, ky_s2i, ky_s1l, ky_s2l, ky_sli, ky_s1f, ky_s2f, ky_s1d, ky_s2d, ky_sr, ky_sai, ky_sasi, ky_sasl, ky_sasr, ky_svr, ky_sv, ky_sv2, ky_s1, ky_cs, ky_pop, ky_nth, ky_snt, ky_obj, ky_ari, ky_arl, ky_arr, ky_arn, ky_fv, ky_rcv, List.map_cons, List.map_nil, List.drop_succ_cons, List.drop_zero, Value.category, Nat.reduceAdd, Nat.reduceSub, true_and, and_true, true_or, or_true, reduceCtorEq, ite_true, ite_false, eq_self, Nat.reduceEqDiff, Nat.reduceLeDiff, nI_add, nI_1, nI_leI, nI_ltI, nI_eq, nI_clamp, kz_m1, kz_mn, kz_mn2, kz_n0, kz_0n, kz_0, kz_le0, kz_0lt, false_implies, true_implies, not_false_eq_true, not_true_eq_false, Nat.zero_le, kb_0, kz_10, kz_of, ky_sw, kz_mx, kz_mi, mh2, hT0, hTi, hE, show ¬ kV s.o.R i < l by omega, eq_false hc0]) | (refine ⟨vp_in_nI (by omega) (by omega), ?_⟩) | (refine ⟨fun zc => ?_, fun zc => ?_⟩ <;> try (exfalso; omega)) | fail)
          · have h1 := hup 0 (by rw [if_neg (fun w => c2 w.2)])
            have hc0 := hch.mpr c2
            repeat' (first | (refine kx172 hM2 hT ?_; simp only [ky_aft, ky_vl, Nat.reduceAdd]) | (refine kx175 hM2 hT (show i < 60 by omega) ?_; simp only [ky_aft, ky_vl, Nat.reduceAdd]) | (refine kx182 hM2 hT hLT hin ?_; simp only [ky_aft, ky_vl, Nat.reduceAdd]) | ((refine kx174 (w := 2) hM2 hT (show i < 60 by omega) (by decide) ?_; simp only [ky_aft, ky_vl, Nat.reduceAdd])) | (exact h1) | (refine ky_ok_stp rfl ?_; simp (disch := first | omega | assumption) only [ky_stp, ky_inv, ky_ldi, ky_ldl, ky_ldd, ky_lda, ky_cl2, ky_st1, ky_st2, ky_s1i, ky_s2i, ky_s1l, ky_s2l, ky_sli, ky_s1f, ky_s2f, ky_s1d, ky_s2d, ky_sr, ky_sai, ky_sasi, ky_sasl, ky_sasr, ky_svr, ky_sv, ky_sv2, ky_s1, ky_cs, ky_pop, ky_nth, ky_snt, ky_obj, ky_ari, ky_arl, ky_arr, ky_arn, ky_fv, ky_rcv, List.map_cons, List.map_nil, List.drop_succ_cons, List.drop_zero, Value.category, Nat.reduceAdd, Nat.reduceSub, true_and, and_true, true_or, or_true, reduceCtorEq, ite_true, ite_false, eq_self, Nat.reduceEqDiff, Nat.reduceLeDiff, nI_add, nI_1, nI_leI, nI_ltI, nI_eq, nI_clamp, kz_m1, kz_mn, kz_mn2, kz_n0, kz_0n, kz_0, kz_le0, kz_0lt, false_implies, true_implies, not_false_eq_true, not_true_eq_false, Nat.zero_le, kb_0, kz_10, kz_of, ky_sw, kz_mx, kz_mi, mh2, hT0, hTi, hE, show ¬ kV s.o.R i < l by omega, hc0]) | (refine ⟨vp_in_nI (by omega) (by omega), ?_⟩) | (refine ⟨fun zc => ?_, fun zc => ?_⟩ <;> try (exfalso; omega)) | fail)
        · have h1 := hup 0 (by rw [if_neg (fun w => c1 w.1)])
          repeat' (first | (refine kx172 hM2 hT ?_; simp only [ky_aft, ky_vl, Nat.reduceAdd]) | (refine kx175 hM2 hT (show i < 60 by omega) ?_; simp only [ky_aft, ky_vl, Nat.reduceAdd]) | ((refine kx174 (w := 2) hM2 hT (show i < 60 by omega) (by decide) ?_; simp only [ky_aft, ky_vl, Nat.reduceAdd])) | (exact h1) | (refine ky_ok_stp rfl ?_; simp (disch := first | omega | assumption) only [ky_stp, ky_inv, ky_ldi, ky_ldl, ky_ldd, ky_lda, ky_cl2, ky_st1, ky_st2, ky_s1i, ky_s2i, ky_s1l, ky_s2l, ky_sli, ky_s1f, ky_s2f, ky_s1d, ky_s2d, ky_sr, ky_sai, ky_sasi, ky_sasl, ky_sasr, ky_svr, ky_sv, ky_sv2, ky_s1, ky_cs, ky_pop, ky_nth, ky_snt, ky_obj, ky_ari, ky_arl, ky_arr, ky_arn, ky_fv, ky_rcv, List.map_cons, List.map_nil, List.drop_succ_cons, List.drop_zero, Value.category, Nat.reduceAdd, Nat.reduceSub, true_and, and_true, true_or, or_true, reduceCtorEq, ite_true, ite_false, eq_self, Nat.reduceEqDiff, Nat.reduceLeDiff, nI_add, nI_1, nI_leI, nI_ltI, nI_eq, nI_clamp, kz_m1, kz_mn, kz_mn2, kz_n0, kz_0n, kz_0, kz_le0, kz_0lt, false_implies, true_implies, not_false_eq_true, not_true_eq_false, Nat.zero_le, kb_0, kz_10, kz_of, ky_sw, kz_mx, kz_mi, mh2, hT0, hTi, show kV s.o.R i < l by omega]) | (refine ⟨vp_in_nI (by omega) (by omega), ?_⟩) | (refine ⟨fun zc => ?_, fun zc => ?_⟩ <;> try (exfalso; omega)) | fail)
    have hl := lp s.o.n 0 f1 r (by omega) hr (fun _ _ => rfl) (fun j hj => absurd hj (Nat.not_lt_zero j)) kfr_rf
    repeat' (first | (exact hl) | (refine ky_ok_stp rfl ?_; simp (disch := first | omega | assumption) only [ky_stp, ky_inv, ky_ldi, ky_ldl, ky_ldd, ky_lda, ky_cl2, ky_st1, ky_st2, ky_s1i, ky_s2i, ky_s1l, ky_s2l, ky_sli, ky_s1f, ky_s2f, ky_s1d, ky_s2d, ky_sr, ky_sai, ky_sasi, ky_sasl, ky_sasr, ky_svr, ky_sv, ky_sv2, ky_s1, ky_cs, ky_pop, ky_nth, ky_snt, ky_obj, ky_ari, ky_arl, ky_arr, ky_arn, ky_fv, ky_rcv, List.map_cons, List.map_nil, List.drop_succ_cons, List.drop_zero, Value.category, Nat.reduceAdd, Nat.reduceSub, true_and, and_true, true_or, or_true, reduceCtorEq, ite_true, ite_false, eq_self, Nat.reduceEqDiff, Nat.reduceLeDiff, nI_add, nI_1, nI_leI, nI_ltI, nI_eq, nI_clamp, kz_m1, kz_mn, kz_mn2, kz_n0, kz_0n, kz_0, kz_le0, kz_0lt, false_implies, true_implies, not_false_eq_true, not_true_eq_false, Nat.zero_le, kb_0, kz_10, kz_of, ky_sw, kz_mx, kz_mi]) | (refine ⟨vp_in_nI (by omega) (by omega), ?_⟩) | (refine ⟨fun zc => ?_, fun zc => ?_⟩ <;> try (exfalso; omega)) | fail)
  have mh := hM.2.1
  unfold kMo at mh
  refine ⟨Nat.le_of_ble_eq_true rfl, fun z => absurd z (by decide), ?_⟩; show ky_ok adK 282 0 [some (.ref (a 170)), some (.int x), none] [] f 0 0 _
  repeat' (first | (exact rest _ _ (kM_t0 hM) rfl (kMF_170 (kfr_up hM.1 kfr_rf rfl))) | (refine ky_ok_stp rfl ?_; simp (disch := first | omega | assumption) only [ky_stp, ky_inv, ky_ldi, ky_ldl, ky_ldd, ky_lda, ky_cl2, ky_st1, ky_st2, ky_s1i, ky_s2i, ky_s1l, ky_s2l, ky_sli, ky_s1f, ky_s2f, ky_s1d, ky_s2d, ky_sr, ky_sai, ky_sasi, ky_sasl, ky_sasr, ky_svr, ky_sv, ky_sv2, ky_s1, ky_cs, ky_pop, ky_nth, ky_snt, ky_obj, ky_ari, ky_arl, ky_arr, ky_arn, ky_fv, ky_rcv, List.map_cons, List.map_nil, List.drop_succ_cons, List.drop_zero, Value.category, Nat.reduceAdd, Nat.reduceSub, true_and, and_true, true_or, or_true, reduceCtorEq, ite_true, ite_false, eq_self, Nat.reduceEqDiff, Nat.reduceLeDiff, nI_add, nI_1, nI_leI, nI_ltI, nI_eq, nI_clamp, kz_m1, kz_mn, kz_mn2, kz_n0, kz_0n, kz_0, kz_le0, kz_0lt, false_implies, true_implies, not_false_eq_true, not_true_eq_false, Nat.zero_le, kb_0, kz_10, kz_of, ky_sw, kz_mx, kz_mi, mh]) | (refine ⟨vp_in_nI (by omega) (by omega), ?_⟩) | (refine ⟨fun zc => ?_, fun zc => ?_⟩ <;> try (exfalso; omega)) | fail)
theorem kx293 (hM : kM a f g s) (ho : kZo s.o) (hy : ∀ i, i < s.wl → x = nI i → kMQ a f s 0 Q (nI (s.wc i))) (h1 : (∀ i, i < s.wl → x ≠ nI i) → kMQ a f s 1 Q 0) : ky_cl adK 293 [.ref (a 170), .int x] f Q := by
  have rest : ∀ f1 g1, kM a f1 g1 s → g1 0 = 0 → kfr a f f1 kMF → ky_ok adK 293 5 [some (.ref (a 170)), some (.int x)] [] f1 0 0 Q := by
    intro f1 g1 hM1 h10 hF1
    obtain ⟨ha, hMo, ⟨⟨r, hr, hR⟩, hU, hV, hC, hT, hW⟩, h2, h3, h4⟩ := id hM1
    have mh := hMo
    unfold kMo at mh
    have h60 := ho.n60
    have hL := kRw_l ho hR
    obtain ⟨W, hW1, hW2⟩ := hW
    have g12 := h3.2.2.2.2
    have hwl := h4.2.2.2
    by_cases hx : kHas s.wl x
    · obtain ⟨i, hi, rfl⟩ := id hx
      have hWi := hW2 i hi
      repeat' (first | (refine kr_hy (by omega) hx ?_; simp only [ky_aft, ky_vl, Nat.reduceAdd]) | (refine kx170n hMo h10 ?_; simp only [ky_aft, ky_vl, Nat.reduceAdd]) | (refine ky_ok_stp rfl ?_; simp (disch := first | omega | assumption) only [ky_stp, ky_inv, ky_ldi, ky_ldl, ky_ldd, ky_lda, ky_cl2, ky_st1, ky_st2, ky_s1i, ky_s2i, ky_s1l, ky_s2l, ky_sli, ky_s1f, ky_s2f, ky_s1d, ky_s2d, ky_sr, ky_sai, ky_sasi, ky_sasl, ky_sasr, ky_svr, ky_sv, ky_sv2, ky_s1, ky_cs, ky_pop, ky_nth, ky_snt, ky_obj, ky_ari, ky_arl, ky_arr, ky_arn, ky_fv, ky_rcv, List.map_cons, List.map_nil, List.drop_succ_cons, List.drop_zero, Value.category, Nat.reduceAdd, Nat.reduceSub, true_and, and_true, true_or, or_true, reduceCtorEq, ite_true, ite_false, eq_self, Nat.reduceEqDiff, Nat.reduceLeDiff, nI_add, nI_1, nI_leI, nI_ltI, nI_eq, nI_clamp, kz_m1, kz_mn, kz_mn2, kz_n0, kz_0n, kz_0, kz_le0, kz_0lt, false_implies, true_implies, not_false_eq_true, not_true_eq_false, Nat.zero_le, kb_0, kz_10, kz_of, ky_sw, kz_mx, kz_mi, mh, g12, hW1, hWi]) | (refine ⟨vp_in_nI (by omega) (by omega), ?_⟩) | (refine ⟨fun zc => ?_, fun zc => ?_⟩ <;> try (exfalso; omega)) | fail)
      exact hy i hi rfl f1 g1 hM1 h10 hF1
    · have hq := h1 fun i hi e => hx ⟨i, hi, e⟩
      repeat' (first | (refine kr_hn (by omega) hx ?_; simp only [ky_aft, ky_vl, Nat.reduceAdd]) | (refine kx170t (p := 1) hM1 h10 (by decide) ?_) | (refine ky_ok_stp rfl ?_; simp (disch := first | omega | assumption) only [ky_stp, ky_inv, ky_ldi, ky_ldl, ky_ldd, ky_lda, ky_cl2, ky_st1, ky_st2, ky_s1i, ky_s2i, ky_s1l, ky_s2l, ky_sli, ky_s1f, ky_s2f, ky_s1d, ky_s2d, ky_sr, ky_sai, ky_sasi, ky_sasl, ky_sasr, ky_svr, ky_sv, ky_sv2, ky_s1, ky_cs, ky_pop, ky_nth, ky_snt, ky_obj, ky_ari, ky_arl, ky_arr, ky_arn, ky_fv, ky_rcv, List.map_cons, List.map_nil, List.drop_succ_cons, List.drop_zero, Value.category, Nat.reduceAdd, Nat.reduceSub, true_and, and_true, true_or, or_true, reduceCtorEq, ite_true, ite_false, eq_self, Nat.reduceEqDiff, Nat.reduceLeDiff, nI_add, nI_1, nI_leI, nI_ltI, nI_eq, nI_clamp, kz_m1, kz_mn, kz_mn2, kz_n0, kz_0n, kz_0, kz_le0, kz_0lt, false_implies, true_implies, not_false_eq_true, not_true_eq_false, Nat.zero_le, kb_0, kz_10, kz_of, ky_sw, kz_mx, kz_mi, mh, g12]) | (refine ⟨vp_in_nI (by omega) (by omega), ?_⟩) | (refine ⟨fun zc => ?_, fun zc => ?_⟩ <;> try (exfalso; omega)) | fail)
      intro f2 g2 w1 w2 w3
      try simp only [ky_aft, ky_vl, Nat.reduceAdd]
      repeat' (first | (refine ky_ok_stp rfl ?_; simp (disch := first | omega | assumption) only [ky_stp, ky_inv, ky_ldi, ky_ldl, ky_ldd, ky_lda, ky_cl2, ky_st1, ky_st2, ky_s1i, ky_s2i, ky_s1l, ky_s2l, ky_sli, ky_s1f, ky_s2f, ky_s1d, ky_s2d, ky_sr, ky_sai, ky_sasi, ky_sasl, ky_sasr, ky_svr, ky_sv, ky_sv2, ky_s1, ky_cs, ky_pop, ky_nth, ky_snt, ky_obj, ky_ari, ky_arl, ky_arr, ky_arn, ky_fv, ky_rcv, List.map_cons, List.map_nil, List.drop_succ_cons, List.drop_zero, Value.category, Nat.reduceAdd, Nat.reduceSub, true_and, and_true, true_or, or_true, reduceCtorEq, ite_true, ite_false, eq_self, Nat.reduceEqDiff, Nat.reduceLeDiff, nI_add, nI_1, nI_leI, nI_ltI, nI_eq, nI_clamp, kz_m1, kz_mn, kz_mn2, kz_n0, kz_0n, kz_0, kz_le0, kz_0lt, false_implies, true_implies, not_false_eq_true, not_true_eq_false, Nat.zero_le, kb_0, kz_10, kz_of, ky_sw, kz_mx, kz_mi]) | (refine ⟨vp_in_nI (by omega) (by omega), ?_⟩) | (refine ⟨fun zc => ?_, fun zc => ?_⟩ <;> try (exfalso; omega)) | fail)
      (first | exact hq f2 g2 w1 w2 (kfr_tr hF1 w3 fun j hj => ⟨hj, hj⟩) | exact ⟨by decide, hq f2 g2 w1 w2 (kfr_tr hF1 w3 fun j hj => ⟨hj, hj⟩)⟩)
  have mh := hM.2.1
  unfold kMo at mh
  refine ⟨Nat.le_of_ble_eq_true rfl, fun z => absurd z (by decide), ?_⟩; show ky_ok adK 293 0 [some (.ref (a 170)), some (.int x)] [] f 0 0 _
  repeat' (first | (exact rest _ _ (kM_t0 hM) rfl (kMF_170 (kfr_up hM.1 kfr_rf rfl))) | (refine ky_ok_stp rfl ?_; simp (disch := first | omega | assumption) only [ky_stp, ky_inv, ky_ldi, ky_ldl, ky_ldd, ky_lda, ky_cl2, ky_st1, ky_st2, ky_s1i, ky_s2i, ky_s1l, ky_s2l, ky_sli, ky_s1f, ky_s2f, ky_s1d, ky_s2d, ky_sr, ky_sai, ky_sasi, ky_sasl, ky_sasr, ky_svr, ky_sv, ky_sv2, ky_s1, ky_cs, ky_pop, ky_nth, ky_snt, ky_obj, ky_ari, ky_arl, ky_arr, ky_arn, ky_fv, ky_rcv, List.map_cons, List.map_nil, List.drop_succ_cons, List.drop_zero, Value.category, Nat.reduceAdd, Nat.reduceSub, true_and, and_true, true_or, or_true, reduceCtorEq, ite_true, ite_false, eq_self, Nat.reduceEqDiff, Nat.reduceLeDiff, nI_add, nI_1, nI_leI, nI_ltI, nI_eq, nI_clamp, kz_m1, kz_mn, kz_mn2, kz_n0, kz_0n, kz_0, kz_le0, kz_0lt, false_implies, true_implies, not_false_eq_true, not_true_eq_false, Nat.zero_le, kb_0, kz_10, kz_of, ky_sw, kz_mx, kz_mi, mh]) | (refine ⟨vp_in_nI (by omega) (by omega), ?_⟩) | (refine ⟨fun zc => ?_, fun zc => ?_⟩ <;> try (exfalso; omega)) | fail)
theorem kx295 (hM : kM a f g s) (ho : kZo s.o) (hy : kRg 0 1 x → kMQ a f s 0 Q 0) (h1 : ¬ kRg 0 1 x → kMQ a f s 1 Q 1) : ky_cl adK 295 [.ref (a 170), .int x] f Q := by
  have rest : ∀ f1 g1, kM a f1 g1 s → g1 0 = 0 → kfr a f f1 kMF → ky_ok adK 295 5 [some (.ref (a 170)), some (.int x)] [] f1 0 0 Q := by
    intro f1 g1 hM1 h10 hF1
    obtain ⟨ha, hMo, ⟨⟨r, hr, hR⟩, hU, hV, hC, hT, hW⟩, h2, h3, h4⟩ := id hM1
    have mh := hMo
    unfold kMo at mh
    have h60 := ho.n60
    have hL := kRw_l ho hR
    by_cases hx : kRg 0 1 x
    · repeat' (first | ((refine kr_in (lo := 0) (hi := 1) (by decide) (by decide) hx ?_; simp only [ky_aft, ky_vl, Nat.reduceAdd])) | (refine kx170n hMo h10 ?_; simp only [ky_aft, ky_vl, Nat.reduceAdd]) | (refine ky_ok_stp rfl ?_; simp (disch := first | omega | assumption) only [ky_stp, ky_inv, ky_ldi, ky_ldl, ky_ldd, ky_lda, ky_cl2, ky_st1, ky_st2, ky_s1i, ky_s2i, ky_s1l, ky_s2l, ky_sli, ky_s1f, ky_s2f, ky_s1d, ky_s2d, ky_sr, ky_sai, ky_sasi, ky_sasl, ky_sasr, ky_svr, ky_sv, ky_sv2, ky_s1, ky_cs, ky_pop, ky_nth, ky_snt, ky_obj, ky_ari, ky_arl, ky_arr, ky_arn, ky_fv, ky_rcv, List.map_cons, List.map_nil, List.drop_succ_cons, List.drop_zero, Value.category, Nat.reduceAdd, Nat.reduceSub, true_and, and_true, true_or, or_true, reduceCtorEq, ite_true, ite_false, eq_self, Nat.reduceEqDiff, Nat.reduceLeDiff, nI_add, nI_1, nI_leI, nI_ltI, nI_eq, nI_clamp, kz_m1, kz_mn, kz_mn2, kz_n0, kz_0n, kz_0, kz_le0, kz_0lt, false_implies, true_implies, not_false_eq_true, not_true_eq_false, Nat.zero_le, kb_0, kz_10, kz_of, ky_sw, kz_mx, kz_mi, mh]) | (refine ⟨vp_in_nI (by omega) (by omega), ?_⟩) | (refine ⟨fun zc => ?_, fun zc => ?_⟩ <;> try (exfalso; omega)) | fail)
      exact hy hx f1 g1 hM1 h10 hF1
    · have hq := h1 hx
      repeat' (first | ((refine kr_inx (lo := 0) (hi := 1) (by decide) (by decide) hx ?_; simp only [ky_aft, ky_vl, Nat.reduceAdd])) | (refine kx170t (p := 1) hM1 h10 (by decide) ?_) | (refine ky_ok_stp rfl ?_; simp (disch := first | omega | assumption) only [ky_stp, ky_inv, ky_ldi, ky_ldl, ky_ldd, ky_lda, ky_cl2, ky_st1, ky_st2, ky_s1i, ky_s2i, ky_s1l, ky_s2l, ky_sli, ky_s1f, ky_s2f, ky_s1d, ky_s2d, ky_sr, ky_sai, ky_sasi, ky_sasl, ky_sasr, ky_svr, ky_sv, ky_sv2, ky_s1, ky_cs, ky_pop, ky_nth, ky_snt, ky_obj, ky_ari, ky_arl, ky_arr, ky_arn, ky_fv, ky_rcv, List.map_cons, List.map_nil, List.drop_succ_cons, List.drop_zero, Value.category, Nat.reduceAdd, Nat.reduceSub, true_and, and_true, true_or, or_true, reduceCtorEq, ite_true, ite_false, eq_self, Nat.reduceEqDiff, Nat.reduceLeDiff, nI_add, nI_1, nI_leI, nI_ltI, nI_eq, nI_clamp, kz_m1, kz_mn, kz_mn2, kz_n0, kz_0n, kz_0, kz_le0, kz_0lt, false_implies, true_implies, not_false_eq_true, not_true_eq_false, Nat.zero_le, kb_0, kz_10, kz_of, ky_sw, kz_mx, kz_mi, mh]) | (refine ⟨vp_in_nI (by omega) (by omega), ?_⟩) | (refine ⟨fun zc => ?_, fun zc => ?_⟩ <;> try (exfalso; omega)) | fail)
      intro f2 g2 w1 w2 w3
      try simp only [ky_aft, ky_vl, Nat.reduceAdd]
      repeat' (first | (refine ky_ok_stp rfl ?_; simp (disch := first | omega | assumption) only [ky_stp, ky_inv, ky_ldi, ky_ldl, ky_ldd, ky_lda, ky_cl2, ky_st1, ky_st2, ky_s1i, ky_s2i, ky_s1l, ky_s2l, ky_sli, ky_s1f, ky_s2f, ky_s1d, ky_s2d, ky_sr, ky_sai, ky_sasi, ky_sasl, ky_sasr, ky_svr, ky_sv, ky_sv2, ky_s1, ky_cs, ky_pop, ky_nth, ky_snt, ky_obj, ky_ari, ky_arl, ky_arr, ky_arn, ky_fv, ky_rcv, List.map_cons, List.map_nil, List.drop_succ_cons, List.drop_zero, Value.category, Nat.reduceAdd, Nat.reduceSub, true_and, and_true, true_or, or_true, reduceCtorEq, ite_true, ite_false, eq_self, Nat.reduceEqDiff, Nat.reduceLeDiff, nI_add, nI_1, nI_leI, nI_ltI, nI_eq, nI_clamp, kz_m1, kz_mn, kz_mn2, kz_n0, kz_0n, kz_0, kz_le0, kz_0lt, false_implies, true_implies, not_false_eq_true, not_true_eq_false, Nat.zero_le, kb_0, kz_10, kz_of, ky_sw, kz_mx, kz_mi]) | (refine ⟨vp_in_nI (by omega) (by omega), ?_⟩) | (refine ⟨fun zc => ?_, fun zc => ?_⟩ <;> try (exfalso; omega)) | fail)
      (first | exact hq f2 g2 w1 w2 (kfr_tr hF1 w3 fun j hj => ⟨hj, hj⟩) | exact ⟨by decide, hq f2 g2 w1 w2 (kfr_tr hF1 w3 fun j hj => ⟨hj, hj⟩)⟩)
  have mh := hM.2.1
  unfold kMo at mh
  refine ⟨Nat.le_of_ble_eq_true rfl, fun z => absurd z (by decide), ?_⟩; show ky_ok adK 295 0 [some (.ref (a 170)), some (.int x)] [] f 0 0 _
  repeat' (first | (exact rest _ _ (kM_t0 hM) rfl (kMF_170 (kfr_up hM.1 kfr_rf rfl))) | (refine ky_ok_stp rfl ?_; simp (disch := first | omega | assumption) only [ky_stp, ky_inv, ky_ldi, ky_ldl, ky_ldd, ky_lda, ky_cl2, ky_st1, ky_st2, ky_s1i, ky_s2i, ky_s1l, ky_s2l, ky_sli, ky_s1f, ky_s2f, ky_s1d, ky_s2d, ky_sr, ky_sai, ky_sasi, ky_sasl, ky_sasr, ky_svr, ky_sv, ky_sv2, ky_s1, ky_cs, ky_pop, ky_nth, ky_snt, ky_obj, ky_ari, ky_arl, ky_arr, ky_arn, ky_fv, ky_rcv, List.map_cons, List.map_nil, List.drop_succ_cons, List.drop_zero, Value.category, Nat.reduceAdd, Nat.reduceSub, true_and, and_true, true_or, or_true, reduceCtorEq, ite_true, ite_false, eq_self, Nat.reduceEqDiff, Nat.reduceLeDiff, nI_add, nI_1, nI_leI, nI_ltI, nI_eq, nI_clamp, kz_m1, kz_mn, kz_mn2, kz_n0, kz_0n, kz_0, kz_le0, kz_0lt, false_implies, true_implies, not_false_eq_true, not_true_eq_false, Nat.zero_le, kb_0, kz_10, kz_of, ky_sw, kz_mx, kz_mi, mh]) | (refine ⟨vp_in_nI (by omega) (by omega), ?_⟩) | (refine ⟨fun zc => ?_, fun zc => ?_⟩ <;> try (exfalso; omega)) | fail)
end KXM
