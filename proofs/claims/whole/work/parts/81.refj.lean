/-! ## the reference: children, what two hold, the largest -/
section KXM
variable {adK a : Nat → Nat} {f : ky_H} {Q : ky_Q} {g r : Nat → Int32} {s : kSt} {p w n l i j t : Nat} {x y v : Int32} {z : kZ}
theorem kx242x (hM : kMo a f g) (hs : f (a 171) = some (.inl (1, 388, .inl r))) (ho : kZo z) (hR : kRw r z) (hj : j ≤ z.n) (hx : x = nI j - 1) (hQ : Q (.inl (some (.int (nI (kE (kL z.R) (kLv (kL z.R) j) j (z.n - j)))))) f) : ky_cl adK 242 [.ref (a 170), .int x] f Q := by
  subst hx
  refine kx242 hM hs (kRw_l ho hR) hj hQ fun i hi => ?_
  obtain ⟨l0, l1, l6⟩ := ho.lv i hi
  rw [l0]
  show nI 0 < nI _
  rw [nI_ltI (by omega) (by omega)]
  omega
theorem kx243x (hM : kMo a f g) (hs : f (a 171) = some (.inl (1, 388, .inl r))) (ho : kZo z) (hR : kRw r z) (hj : j ≤ z.n) (hx : x = nI j - 1) (hQ : Q (.inl (some (.int (kLv (kL z.R) j + 1)))) f) : ky_cl adK 243 [.ref (a 170), .int x] f Q := by
  subst hx
  exact kx243 hM hs (kRw_l ho hR) hj hQ
theorem kHas_j {n : Nat} {x : Int32} : kHas n x ∨ x = -1 ↔ ∃ j, j ≤ n ∧ x = nI j - 1 := by
  constructor
  · rintro (⟨p, hp, rfl⟩ | rfl)
    · exact ⟨p + 1, hp, (nI_pred p).symm⟩
    · exact ⟨0, Nat.zero_le _, kz_z.symm⟩
  · rintro ⟨j, hj, rfl⟩
    match j, hj with
    | 0, _ => exact .inr kz_z
    | j + 1, hj => exact .inl ⟨j, hj, nI_pred j⟩
theorem kz_j1 (j : Nat) : nI j - 1 + 1 = nI j := Int32.sub_add_cancel _ _
theorem kx244 (hM : kM a f g s) (ho : kZo s.o) (hy : ∀ j i, j ≤ s.o.n → x = nI j - 1 → i < (kCl s.o j).length → y = nI i → kMQ a f s 0 Q (nI ((kCl s.o j).getD i 0))) (hz : ∀ j, j ≤ s.o.n → x = nI j - 1 → (∀ i, i < (kCl s.o j).length → y ≠ nI i) → kMQ a f s 2 Q 0) (h1 : ¬ (kHas s.o.n x ∨ x = -1) → kMQ a f s 1 Q 0) : ky_cl adK 244 [.ref (a 170), .int x, .int y] f Q := by
  have rest : ∀ f1 g1, kM a f1 g1 s → g1 0 = 0 → kfr a f f1 kMF → ky_ok adK 244 5 [some (.ref (a 170)), some (.int x), some (.int y), none, none, none] [] f1 0 0 Q := by
    intro f1 g1 hM1 h10 hF1
    obtain ⟨ha, hMo, ⟨⟨r, hr, hR⟩, hU, hV, hC, hT, hW⟩, h2, h3, h4⟩ := id hM1
    have mh := hMo
    unfold kMo at mh
    have h60 := ho.n60
    have hL := kRw_l ho hR
    by_cases hx : kHas s.o.n x ∨ x = -1
    case neg =>
      have hq := h1 hx
      have hxm : (x = -1) = False := eq_false fun w => hx (.inr w)
      repeat' (first | ((refine kx222 hMo hr h60 hR.1 (fun w => absurd (.inl w) hx) (fun _ => ?_); simp only [ky_aft, ky_vl, Nat.reduceAdd])) | (refine kx170t (p := 1) hM1 h10 (by decide) ?_) | (refine ky_ok_stp rfl ?_; simp (disch := first | omega | assumption) only [ky_stp, ky_inv, ky_ldi, ky_ldl, ky_ldd, ky_lda, ky_cl2, ky_st1, ky_st2, ky_s1i, ky_s2i, ky_s1l, ky_s2l, ky_sli, ky_s1f, ky_s2f, ky_s1d, ky_s2d, ky_sr, ky_sai, ky_sasi, ky_sasl, ky_sasr, ky_svr, ky_sv, ky_sv2, ky_s1, ky_cs, ky_pop, ky_nth, ky_snt, ky_obj, ky_ari, ky_arl, ky_arr, ky_arn, ky_fv, ky_rcv, List.map_cons, List.map_nil, List.drop_succ_cons, List.drop_zero, Value.category, Nat.reduceAdd, Nat.reduceSub, true_and, and_true, true_or, or_true, reduceCtorEq, ite_true, ite_false, eq_self, Nat.reduceEqDiff, Nat.reduceLeDiff, nI_add, nI_1, nI_leI, nI_ltI, nI_eq, nI_clamp, kz_m1, kz_mn, kz_mn2, kz_n0, kz_0n, kz_0, kz_le0, kz_0lt, false_implies, true_implies, not_false_eq_true, not_true_eq_false, Nat.zero_le, kb_0, kz_10, kz_of, ky_sw, kz_mx, kz_mi, mh, hxm]) | (refine ⟨vp_in_nI (by omega) (by omega), ?_⟩) | (refine ⟨fun zc => ?_, fun zc => ?_⟩ <;> try (exfalso; omega)) | fail)
      intro f2 g2 w1 w2 w3
      try simp only [ky_aft, ky_vl, Nat.reduceAdd]
      repeat' (first | (refine ky_ok_stp rfl ?_; simp (disch := first | omega | assumption) only [ky_stp, ky_inv, ky_ldi, ky_ldl, ky_ldd, ky_lda, ky_cl2, ky_st1, ky_st2, ky_s1i, ky_s2i, ky_s1l, ky_s2l, ky_sli, ky_s1f, ky_s2f, ky_s1d, ky_s2d, ky_sr, ky_sai, ky_sasi, ky_sasl, ky_sasr, ky_svr, ky_sv, ky_sv2, ky_s1, ky_cs, ky_pop, ky_nth, ky_snt, ky_obj, ky_ari, ky_arl, ky_arr, ky_arn, ky_fv, ky_rcv, List.map_cons, List.map_nil, List.drop_succ_cons, List.drop_zero, Value.category, Nat.reduceAdd, Nat.reduceSub, true_and, and_true, true_or, or_true, reduceCtorEq, ite_true, ite_false, eq_self, Nat.reduceEqDiff, Nat.reduceLeDiff, nI_add, nI_1, nI_leI, nI_ltI, nI_eq, nI_clamp, kz_m1, kz_mn, kz_mn2, kz_n0, kz_0n, kz_0, kz_le0, kz_0lt, false_implies, true_implies, not_false_eq_true, not_true_eq_false, Nat.zero_le, kb_0, kz_10, kz_of, ky_sw, kz_mx, kz_mi]) | (refine ⟨vp_in_nI (by omega) (by omega), ?_⟩) | (refine ⟨fun zc => ?_, fun zc => ?_⟩ <;> try (exfalso; omega)) | fail)
      (first | exact hq f2 g2 w1 w2 (kfr_tr hF1 w3 fun j hj => ⟨hj, hj⟩) | exact ⟨by decide, hq f2 g2 w1 w2 (kfr_tr hF1 w3 fun j hj => ⟨hj, hj⟩)⟩)
    obtain ⟨j, hj, hxj⟩ := kHas_j.mp hx
    have hx1 : x + 1 = nI j := by rw [hxj, kz_j1]
    have hE := kE_le (kL s.o.R) (kLv (kL s.o.R) j) (s.o.n - j) j
    have hlen := kCl_le hj
    have hv : kCl s.o j = kCh (kL s.o.R) (kLv (kL s.o.R) j + 1) j (kE (kL s.o.R) (kLv (kL s.o.R) j) j (s.o.n - j) - j) [] := rfl
    have c242 : ∀ {Q : ky_Q}, Q (.inl (some (.int (nI (kE (kL s.o.R) (kLv (kL s.o.R) j) j (s.o.n - j)))))) f1 → ky_cl adK 242 [.ref (a 170), .int x] f1 Q := fun hQ => kx242x hMo hr ho hR hj hxj hQ
    generalize kE (kL s.o.R) (kLv (kL s.o.R) j) j (s.o.n - j) = e at hE hv c242
    by_cases hy0 : y < 0
    · have hq := hz j hj hxj (fun i hi w => by rw [w] at hy0; exact nI_pos (by omega) hy0)
      by_cases hxm : x = -1
      · repeat' (first | (refine kx170n hMo h10 ?_; simp only [ky_aft, ky_vl, Nat.reduceAdd]) | (refine kx170t (p := 2) hM1 h10 (by decide) ?_) | (refine ky_ok_stp rfl ?_; simp (disch := first | omega | assumption) only [ky_stp, ky_inv, ky_ldi, ky_ldl, ky_ldd, ky_lda, ky_cl2, ky_st1, ky_st2, ky_s1i, ky_s2i, ky_s1l, ky_s2l, ky_sli, ky_s1f, ky_s2f, ky_s1d, ky_s2d, ky_sr, ky_sai, ky_sasi, ky_sasl, ky_sasr, ky_svr, ky_sv, ky_sv2, ky_s1, ky_cs, ky_pop, ky_nth, ky_snt, ky_obj, ky_ari, ky_arl, ky_arr, ky_arn, ky_fv, ky_rcv, List.map_cons, List.map_nil, List.drop_succ_cons, List.drop_zero, Value.category, Nat.reduceAdd, Nat.reduceSub, true_and, and_true, true_or, or_true, reduceCtorEq, ite_true, ite_false, eq_self, Nat.reduceEqDiff, Nat.reduceLeDiff, nI_add, nI_1, nI_leI, nI_ltI, nI_eq, nI_clamp, kz_m1, kz_mn, kz_mn2, kz_n0, kz_0n, kz_0, kz_le0, kz_0lt, false_implies, true_implies, not_false_eq_true, not_true_eq_false, Nat.zero_le, kb_0, kz_10, kz_of, ky_sw, kz_mx, kz_mi, mh, eq_true hxm, eq_true hy0, eq_false (Int32.not_le.mpr hy0)]) | (refine ⟨vp_in_nI (by omega) (by omega), ?_⟩) | (refine ⟨fun zc => ?_, fun zc => ?_⟩ <;> try (exfalso; omega)) | fail)
        intro f2 g2 w1 w2 w3
        try simp only [ky_aft, ky_vl, Nat.reduceAdd]
        repeat' (first | (refine ky_ok_stp rfl ?_; simp (disch := first | omega | assumption) only [ky_stp, ky_inv, ky_ldi, ky_ldl, ky_ldd, ky_lda, ky_cl2, ky_st1, ky_st2, ky_s1i, ky_s2i, ky_s1l, ky_s2l, ky_sli, ky_s1f, ky_s2f, ky_s1d, ky_s2d, ky_sr, ky_sai, ky_sasi, ky_sasl, ky_sasr, ky_svr, ky_sv, ky_sv2, ky_s1, ky_cs, ky_pop, ky_nth, ky_snt, ky_obj, ky_ari, ky_arl, ky_arr, ky_arn, ky_fv, ky_rcv, List.map_cons, List.map_nil, List.drop_succ_cons, List.drop_zero, Value.category, Nat.reduceAdd, Nat.reduceSub, true_and, and_true, true_or, or_true, reduceCtorEq, ite_true, ite_false, eq_self, Nat.reduceEqDiff, Nat.reduceLeDiff, nI_add, nI_1, nI_leI, nI_ltI, nI_eq, nI_clamp, kz_m1, kz_mn, kz_mn2, kz_n0, kz_0n, kz_0, kz_le0, kz_0lt, false_implies, true_implies, not_false_eq_true, not_true_eq_false, Nat.zero_le, kb_0, kz_10, kz_of, ky_sw, kz_mx, kz_mi]) | (refine ⟨vp_in_nI (by omega) (by omega), ?_⟩) | (refine ⟨fun zc => ?_, fun zc => ?_⟩ <;> try (exfalso; omega)) | fail)
        (first | exact hq f2 g2 w1 w2 (kfr_tr hF1 w3 fun j hj => ⟨hj, hj⟩) | exact ⟨by decide, hq f2 g2 w1 w2 (kfr_tr hF1 w3 fun j hj => ⟨hj, hj⟩)⟩)
      · repeat' (first | ((refine kx222 hMo hr h60 hR.1 (fun _ => ?_) (fun w => absurd (hx.resolve_right hxm) w); simp only [ky_aft, ky_vl, Nat.reduceAdd])) | (refine kx170n hMo h10 ?_; simp only [ky_aft, ky_vl, Nat.reduceAdd]) | (refine kx170t (p := 2) hM1 h10 (by decide) ?_) | (refine ky_ok_stp rfl ?_; simp (disch := first | omega | assumption) only [ky_stp, ky_inv, ky_ldi, ky_ldl, ky_ldd, ky_lda, ky_cl2, ky_st1, ky_st2, ky_s1i, ky_s2i, ky_s1l, ky_s2l, ky_sli, ky_s1f, ky_s2f, ky_s1d, ky_s2d, ky_sr, ky_sai, ky_sasi, ky_sasl, ky_sasr, ky_svr, ky_sv, ky_sv2, ky_s1, ky_cs, ky_pop, ky_nth, ky_snt, ky_obj, ky_ari, ky_arl, ky_arr, ky_arn, ky_fv, ky_rcv, List.map_cons, List.map_nil, List.drop_succ_cons, List.drop_zero, Value.category, Nat.reduceAdd, Nat.reduceSub, true_and, and_true, true_or, or_true, reduceCtorEq, ite_true, ite_false, eq_self, Nat.reduceEqDiff, Nat.reduceLeDiff, nI_add, nI_1, nI_leI, nI_ltI, nI_eq, nI_clamp, kz_m1, kz_mn, kz_mn2, kz_n0, kz_0n, kz_0, kz_le0, kz_0lt, false_implies, true_implies, not_false_eq_true, not_true_eq_false, Nat.zero_le, kb_0, kz_10, kz_of, ky_sw, kz_mx, kz_mi, mh, eq_false hxm, eq_true hy0, eq_false (Int32.not_le.mpr hy0)]) | (refine ⟨vp_in_nI (by omega) (by omega), ?_⟩) | (refine ⟨fun zc => ?_, fun zc => ?_⟩ <;> try (exfalso; omega)) | fail)
        intro f2 g2 w1 w2 w3
        try simp only [ky_aft, ky_vl, Nat.reduceAdd]
        repeat' (first | (refine ky_ok_stp rfl ?_; simp (disch := first | omega | assumption) only [ky_stp, ky_inv, ky_ldi, ky_ldl, ky_ldd, ky_lda, ky_cl2, ky_st1, ky_st2, ky_s1i, ky_s2i, ky_s1l, ky_s2l, ky_sli, ky_s1f, ky_s2f, ky_s1d, ky_s2d, ky_sr, ky_sai, ky_sasi, ky_sasl, ky_sasr, ky_svr, ky_sv, ky_sv2, ky_s1, ky_cs, ky_pop, ky_nth, ky_snt, ky_obj, ky_ari, ky_arl, ky_arr, ky_arn, ky_fv, ky_rcv, List.map_cons, List.map_nil, List.drop_succ_cons, List.drop_zero, Value.category, Nat.reduceAdd, Nat.reduceSub, true_and, and_true, true_or, or_true, reduceCtorEq, ite_true, ite_false, eq_self, Nat.reduceEqDiff, Nat.reduceLeDiff, nI_add, nI_1, nI_leI, nI_ltI, nI_eq, nI_clamp, kz_m1, kz_mn, kz_mn2, kz_n0, kz_0n, kz_0, kz_le0, kz_0lt, false_implies, true_implies, not_false_eq_true, not_true_eq_false, Nat.zero_le, kb_0, kz_10, kz_of, ky_sw, kz_mx, kz_mi]) | (refine ⟨vp_in_nI (by omega) (by omega), ?_⟩) | (refine ⟨fun zc => ?_, fun zc => ?_⟩ <;> try (exfalso; omega)) | fail)
        (first | exact hq f2 g2 w1 w2 (kfr_tr hF1 w3 fun j hj => ⟨hj, hj⟩) | exact ⟨by decide, hq f2 g2 w1 w2 (kfr_tr hF1 w3 fun j hj => ⟨hj, hj⟩)⟩)
    obtain ⟨c, hc, rfl⟩ := nI_of hy0
    have loop : ∀ m k (l : List Nat), e - k ≤ m → k ≤ e → l.length ≤ k → l.length ≤ c → (k = e ∧ kCl s.o j = l ∨ k < e ∧ kCl s.o j = kCh (kL s.o.R) (kLv (kL s.o.R) j + 1) (k + 1) (e - (k + 1)) (l ++ [k])) → ky_ok adK 244 74 [some (.ref (a 170)), some (.int x), some (.int (nI c)), some (.int (nI e)), some (.int (nI k)), some (.int (nI l.length))] [] f1 0 0 Q := by
      intro m
      induction m with
      | zero =>
        intro k l hm hk hl hlc hd
        rcases hd with ⟨h1', h2'⟩ | ⟨h1', h2'⟩
        · have hq := hz j hj hxj (fun i hi w => by rw [nI_eq (by omega) (by omega)] at w; rw [h2'] at hi; omega)
          by_cases hcl : l.length < c
          · repeat' (first | (refine kx170t (p := 2) hM1 h10 (by decide) ?_) | (refine ky_ok_stp rfl ?_; simp (disch := first | omega | assumption) only [ky_stp, ky_inv, ky_ldi, ky_ldl, ky_ldd, ky_lda, ky_cl2, ky_st1, ky_st2, ky_s1i, ky_s2i, ky_s1l, ky_s2l, ky_sli, ky_s1f, ky_s2f, ky_s1d, ky_s2d, ky_sr, ky_sai, ky_sasi, ky_sasl, ky_sasr, ky_svr, ky_sv, ky_sv2, ky_s1, ky_cs, ky_pop, ky_nth, ky_snt, ky_obj, ky_ari, ky_arl, ky_arr, ky_arn, ky_fv, ky_rcv, List.map_cons, List.map_nil, List.drop_succ_cons, List.drop_zero, Value.category, Nat.reduceAdd, Nat.reduceSub, true_and, and_true, true_or, or_true, reduceCtorEq, ite_true, ite_false, eq_self, Nat.reduceEqDiff, Nat.reduceLeDiff, nI_add, nI_1, nI_leI, nI_ltI, nI_eq, nI_clamp, kz_m1, kz_mn, kz_mn2, kz_n0, kz_0n, kz_0, kz_le0, kz_0lt, false_implies, true_implies, not_false_eq_true, not_true_eq_false, Nat.zero_le, kb_0, kz_10, kz_of, ky_sw, kz_mx, kz_mi, mh, h1']) | (refine ⟨vp_in_nI (by omega) (by omega), ?_⟩) | (refine ⟨fun zc => ?_, fun zc => ?_⟩ <;> try (exfalso; omega)) | fail)
            intro f2 g2 w1 w2 w3
            try simp only [ky_aft, ky_vl, Nat.reduceAdd]
            repeat' (first | (refine ky_ok_stp rfl ?_; simp (disch := first | omega | assumption) only [ky_stp, ky_inv, ky_ldi, ky_ldl, ky_ldd, ky_lda, ky_cl2, ky_st1, ky_st2, ky_s1i, ky_s2i, ky_s1l, ky_s2l, ky_sli, ky_s1f, ky_s2f, ky_s1d, ky_s2d, ky_sr, ky_sai, ky_sasi, ky_sasl, ky_sasr, ky_svr, ky_sv, ky_sv2, ky_s1, ky_cs, ky_pop, ky_nth, ky_snt, ky_obj, ky_ari, ky_arl, ky_arr, ky_arn, ky_fv, ky_rcv, List.map_cons, List.map_nil, List.drop_succ_cons, List.drop_zero, Value.category, Nat.reduceAdd, Nat.reduceSub, true_and, and_true, true_or, or_true, reduceCtorEq, ite_true, ite_false, eq_self, Nat.reduceEqDiff, Nat.reduceLeDiff, nI_add, nI_1, nI_leI, nI_ltI, nI_eq, nI_clamp, kz_m1, kz_mn, kz_mn2, kz_n0, kz_0n, kz_0, kz_le0, kz_0lt, false_implies, true_implies, not_false_eq_true, not_true_eq_false, Nat.zero_le, kb_0, kz_10, kz_of, ky_sw, kz_mx, kz_mi]) | (refine ⟨vp_in_nI (by omega) (by omega), ?_⟩) | (refine ⟨fun zc => ?_, fun zc => ?_⟩ <;> try (exfalso; omega)) | fail)
            (first | exact hq f2 g2 w1 w2 (kfr_tr hF1 w3 fun j hj => ⟨hj, hj⟩) | exact ⟨by decide, hq f2 g2 w1 w2 (kfr_tr hF1 w3 fun j hj => ⟨hj, hj⟩)⟩)
          · repeat' (first | (refine kx170t (p := 2) hM1 h10 (by decide) ?_) | (refine ky_ok_stp rfl ?_; simp (disch := first | omega | assumption) only [ky_stp, ky_inv, ky_ldi, ky_ldl, ky_ldd, ky_lda, ky_cl2, ky_st1, ky_st2, ky_s1i, ky_s2i, ky_s1l, ky_s2l, ky_sli, ky_s1f, ky_s2f, ky_s1d, ky_s2d, ky_sr, ky_sai, ky_sasi, ky_sasl, ky_sasr, ky_svr, ky_sv, ky_sv2, ky_s1, ky_cs, ky_pop, ky_nth, ky_snt, ky_obj, ky_ari, ky_arl, ky_arr, ky_arn, ky_fv, ky_rcv, List.map_cons, List.map_nil, List.drop_succ_cons, List.drop_zero, Value.category, Nat.reduceAdd, Nat.reduceSub, true_and, and_true, true_or, or_true, reduceCtorEq, ite_true, ite_false, eq_self, Nat.reduceEqDiff, Nat.reduceLeDiff, nI_add, nI_1, nI_leI, nI_ltI, nI_eq, nI_clamp, kz_m1, kz_mn, kz_mn2, kz_n0, kz_0n, kz_0, kz_le0, kz_0lt, false_implies, true_implies, not_false_eq_true, not_true_eq_false, Nat.zero_le, kb_0, kz_10, kz_of, ky_sw, kz_mx, kz_mi, mh, h1']) | (refine ⟨vp_in_nI (by omega) (by omega), ?_⟩) | (refine ⟨fun zc => ?_, fun zc => ?_⟩ <;> try (exfalso; omega)) | fail)
            intro f2 g2 w1 w2 w3
            try simp only [ky_aft, ky_vl, Nat.reduceAdd]
            repeat' (first | (refine ky_ok_stp rfl ?_; simp (disch := first | omega | assumption) only [ky_stp, ky_inv, ky_ldi, ky_ldl, ky_ldd, ky_lda, ky_cl2, ky_st1, ky_st2, ky_s1i, ky_s2i, ky_s1l, ky_s2l, ky_sli, ky_s1f, ky_s2f, ky_s1d, ky_s2d, ky_sr, ky_sai, ky_sasi, ky_sasl, ky_sasr, ky_svr, ky_sv, ky_sv2, ky_s1, ky_cs, ky_pop, ky_nth, ky_snt, ky_obj, ky_ari, ky_arl, ky_arr, ky_arn, ky_fv, ky_rcv, List.map_cons, List.map_nil, List.drop_succ_cons, List.drop_zero, Value.category, Nat.reduceAdd, Nat.reduceSub, true_and, and_true, true_or, or_true, reduceCtorEq, ite_true, ite_false, eq_self, Nat.reduceEqDiff, Nat.reduceLeDiff, nI_add, nI_1, nI_leI, nI_ltI, nI_eq, nI_clamp, kz_m1, kz_mn, kz_mn2, kz_n0, kz_0n, kz_0, kz_le0, kz_0lt, false_implies, true_implies, not_false_eq_true, not_true_eq_false, Nat.zero_le, kb_0, kz_10, kz_of, ky_sw, kz_mx, kz_mi]) | (refine ⟨vp_in_nI (by omega) (by omega), ?_⟩) | (refine ⟨fun zc => ?_, fun zc => ?_⟩ <;> try (exfalso; omega)) | fail)
            (first | exact hq f2 g2 w1 w2 (kfr_tr hF1 w3 fun j hj => ⟨hj, hj⟩) | exact ⟨by decide, hq f2 g2 w1 w2 (kfr_tr hF1 w3 fun j hj => ⟨hj, hj⟩)⟩)
        · omega
      | succ m ih =>
        intro k l hm hk hl hlc hd
        rcases hd with ⟨h1', h2'⟩ | ⟨h1', h2'⟩
        · have hq := hz j hj hxj (fun i hi w => by rw [nI_eq (by omega) (by omega)] at w; rw [h2'] at hi; omega)
          by_cases hcl : l.length < c
          · repeat' (first | (refine kx170t (p := 2) hM1 h10 (by decide) ?_) | (refine ky_ok_stp rfl ?_; simp (disch := first | omega | assumption) only [ky_stp, ky_inv, ky_ldi, ky_ldl, ky_ldd, ky_lda, ky_cl2, ky_st1, ky_st2, ky_s1i, ky_s2i, ky_s1l, ky_s2l, ky_sli, ky_s1f, ky_s2f, ky_s1d, ky_s2d, ky_sr, ky_sai, ky_sasi, ky_sasl, ky_sasr, ky_svr, ky_sv, ky_sv2, ky_s1, ky_cs, ky_pop, ky_nth, ky_snt, ky_obj, ky_ari, ky_arl, ky_arr, ky_arn, ky_fv, ky_rcv, List.map_cons, List.map_nil, List.drop_succ_cons, List.drop_zero, Value.category, Nat.reduceAdd, Nat.reduceSub, true_and, and_true, true_or, or_true, reduceCtorEq, ite_true, ite_false, eq_self, Nat.reduceEqDiff, Nat.reduceLeDiff, nI_add, nI_1, nI_leI, nI_ltI, nI_eq, nI_clamp, kz_m1, kz_mn, kz_mn2, kz_n0, kz_0n, kz_0, kz_le0, kz_0lt, false_implies, true_implies, not_false_eq_true, not_true_eq_false, Nat.zero_le, kb_0, kz_10, kz_of, ky_sw, kz_mx, kz_mi, mh, h1']) | (refine ⟨vp_in_nI (by omega) (by omega), ?_⟩) | (refine ⟨fun zc => ?_, fun zc => ?_⟩ <;> try (exfalso; omega)) | fail)
            intro f2 g2 w1 w2 w3
            try simp only [ky_aft, ky_vl, Nat.reduceAdd]
            repeat' (first | (refine ky_ok_stp rfl ?_; simp (disch := first | omega | assumption) only [ky_stp, ky_inv, ky_ldi, ky_ldl, ky_ldd, ky_lda, ky_cl2, ky_st1, ky_st2, ky_s1i, ky_s2i, ky_s1l, ky_s2l, ky_sli, ky_s1f, ky_s2f, ky_s1d, ky_s2d, ky_sr, ky_sai, ky_sasi, ky_sasl, ky_sasr, ky_svr, ky_sv, ky_sv2, ky_s1, ky_cs, ky_pop, ky_nth, ky_snt, ky_obj, ky_ari, ky_arl, ky_arr, ky_arn, ky_fv, ky_rcv, List.map_cons, List.map_nil, List.drop_succ_cons, List.drop_zero, Value.category, Nat.reduceAdd, Nat.reduceSub, true_and, and_true, true_or, or_true, reduceCtorEq, ite_true, ite_false, eq_self, Nat.reduceEqDiff, Nat.reduceLeDiff, nI_add, nI_1, nI_leI, nI_ltI, nI_eq, nI_clamp, kz_m1, kz_mn, kz_mn2, kz_n0, kz_0n, kz_0, kz_le0, kz_0lt, false_implies, true_implies, not_false_eq_true, not_true_eq_false, Nat.zero_le, kb_0, kz_10, kz_of, ky_sw, kz_mx, kz_mi]) | (refine ⟨vp_in_nI (by omega) (by omega), ?_⟩) | (refine ⟨fun zc => ?_, fun zc => ?_⟩ <;> try (exfalso; omega)) | fail)
            (first | exact hq f2 g2 w1 w2 (kfr_tr hF1 w3 fun j hj => ⟨hj, hj⟩) | exact ⟨by decide, hq f2 g2 w1 w2 (kfr_tr hF1 w3 fun j hj => ⟨hj, hj⟩)⟩)
          · repeat' (first | (refine kx170t (p := 2) hM1 h10 (by decide) ?_) | (refine ky_ok_stp rfl ?_; simp (disch := first | omega | assumption) only [ky_stp, ky_inv, ky_ldi, ky_ldl, ky_ldd, ky_lda, ky_cl2, ky_st1, ky_st2, ky_s1i, ky_s2i, ky_s1l, ky_s2l, ky_sli, ky_s1f, ky_s2f, ky_s1d, ky_s2d, ky_sr, ky_sai, ky_sasi, ky_sasl, ky_sasr, ky_svr, ky_sv, ky_sv2, ky_s1, ky_cs, ky_pop, ky_nth, ky_snt, ky_obj, ky_ari, ky_arl, ky_arr, ky_arn, ky_fv, ky_rcv, List.map_cons, List.map_nil, List.drop_succ_cons, List.drop_zero, Value.category, Nat.reduceAdd, Nat.reduceSub, true_and, and_true, true_or, or_true, reduceCtorEq, ite_true, ite_false, eq_self, Nat.reduceEqDiff, Nat.reduceLeDiff, nI_add, nI_1, nI_leI, nI_ltI, nI_eq, nI_clamp, kz_m1, kz_mn, kz_mn2, kz_n0, kz_0n, kz_0, kz_le0, kz_0lt, false_implies, true_implies, not_false_eq_true, not_true_eq_false, Nat.zero_le, kb_0, kz_10, kz_of, ky_sw, kz_mx, kz_mi, mh, h1']) | (refine ⟨vp_in_nI (by omega) (by omega), ?_⟩) | (refine ⟨fun zc => ?_, fun zc => ?_⟩ <;> try (exfalso; omega)) | fail)
            intro f2 g2 w1 w2 w3
            try simp only [ky_aft, ky_vl, Nat.reduceAdd]
            repeat' (first | (refine ky_ok_stp rfl ?_; simp (disch := first | omega | assumption) only [ky_stp, ky_inv, ky_ldi, ky_ldl, ky_ldd, ky_lda, ky_cl2, ky_st1, ky_st2, ky_s1i, ky_s2i, ky_s1l, ky_s2l, ky_sli, ky_s1f, ky_s2f, ky_s1d, ky_s2d, ky_sr, ky_sai, ky_sasi, ky_sasl, ky_sasr, ky_svr, ky_sv, ky_sv2, ky_s1, ky_cs, ky_pop, ky_nth, ky_snt, ky_obj, ky_ari, ky_arl, ky_arr, ky_arn, ky_fv, ky_rcv, List.map_cons, List.map_nil, List.drop_succ_cons, List.drop_zero, Value.category, Nat.reduceAdd, Nat.reduceSub, true_and, and_true, true_or, or_true, reduceCtorEq, ite_true, ite_false, eq_self, Nat.reduceEqDiff, Nat.reduceLeDiff, nI_add, nI_1, nI_leI, nI_ltI, nI_eq, nI_clamp, kz_m1, kz_mn, kz_mn2, kz_n0, kz_0n, kz_0, kz_le0, kz_0lt, false_implies, true_implies, not_false_eq_true, not_true_eq_false, Nat.zero_le, kb_0, kz_10, kz_of, ky_sw, kz_mx, kz_mi]) | (refine ⟨vp_in_nI (by omega) (by omega), ?_⟩) | (refine ⟨fun zc => ?_, fun zc => ?_⟩ <;> try (exfalso; omega)) | fail)
            (first | exact hq f2 g2 w1 w2 (kfr_tr hF1 w3 fun j hj => ⟨hj, hj⟩) | exact ⟨by decide, hq f2 g2 w1 w2 (kfr_tr hF1 w3 fun j hj => ⟨hj, hj⟩)⟩)
        · by_cases hcl : l.length < c
          · have hnx := kCh_nx (kL s.o.R) (kLv (kL s.o.R) j + 1) (e - (k + 1)) (k + 1) (l ++ [k])
            have hnl := kNx2_le (kL s.o.R) (kLv (kL s.o.R) j + 1) (e - (k + 1)) (k + 1)
            rw [show k + 1 + (e - (k + 1)) = e by omega] at hnx hnl
            have ell : (l ++ [k]).length = l.length + 1 := by rw [List.length_append, List.length_singleton]
            have hi := ih (kNx2 (kL s.o.R) (kLv (kL s.o.R) j + 1) (k + 1) (e - (k + 1))) (l ++ [k]) (by omega) hnl.2 (by omega) (by omega) (by
              rcases hnx with ⟨n1, n2⟩ | ⟨n1, n2, n3⟩
              · exact .inl ⟨n1, h2'.trans n2⟩
              · exact .inr ⟨n1, h2'.trans n3⟩)
            rw [ell] at hi
            repeat' (first | (refine kx243x hMo hr ho hR hj hxj ?_; simp only [ky_aft, ky_vl, Nat.reduceAdd]) | (refine kx241 (p := k + 1) (t := e) hMo hr hL (show e ≤ s.o.n by omega) (hp := .inl (by omega)) ?_; simp only [ky_aft, ky_vl, Nat.reduceAdd]) | (exact hi) | (refine ky_ok_stp rfl ?_; simp (disch := first | omega | assumption) only [ky_stp, ky_inv, ky_ldi, ky_ldl, ky_ldd, ky_lda, ky_cl2, ky_st1, ky_st2, ky_s1i, ky_s2i, ky_s1l, ky_s2l, ky_sli, ky_s1f, ky_s2f, ky_s1d, ky_s2d, ky_sr, ky_sai, ky_sasi, ky_sasl, ky_sasr, ky_svr, ky_sv, ky_sv2, ky_s1, ky_cs, ky_pop, ky_nth, ky_snt, ky_obj, ky_ari, ky_arl, ky_arr, ky_arn, ky_fv, ky_rcv, List.map_cons, List.map_nil, List.drop_succ_cons, List.drop_zero, Value.category, Nat.reduceAdd, Nat.reduceSub, true_and, and_true, true_or, or_true, reduceCtorEq, ite_true, ite_false, eq_self, Nat.reduceEqDiff, Nat.reduceLeDiff, nI_add, nI_1, nI_leI, nI_ltI, nI_eq, nI_clamp, kz_m1, kz_mn, kz_mn2, kz_n0, kz_0n, kz_0, kz_le0, kz_0lt, false_implies, true_implies, not_false_eq_true, not_true_eq_false, Nat.zero_le, kb_0, kz_10, kz_of, ky_sw, kz_mx, kz_mi, mh]) | (refine ⟨vp_in_nI (by omega) (by omega), ?_⟩) | (refine ⟨fun zc => ?_, fun zc => ?_⟩ <;> try (exfalso; omega)) | fail)
          · have ec : c = l.length := by omega
            have hr2 : kCl s.o j = l ++ ([k] ++ kCh (kL s.o.R) (kLv (kL s.o.R) j + 1) (k + 1) (e - (k + 1)) []) := by rw [h2', kCh_app, List.append_assoc]
            have hq := hy j c hj hxj (by rw [hr2, List.length_append, List.length_append, List.length_singleton]; omega) rfl f1 g1 hM1 h10 hF1
            rw [hr2, kgd_r (by omega), show c - l.length = 0 by omega] at hq
            repeat' (first | (refine kx170n hMo h10 ?_; simp only [ky_aft, ky_vl, Nat.reduceAdd]) | (refine ky_ok_stp rfl ?_; simp (disch := first | omega | assumption) only [ky_stp, ky_inv, ky_ldi, ky_ldl, ky_ldd, ky_lda, ky_cl2, ky_st1, ky_st2, ky_s1i, ky_s2i, ky_s1l, ky_s2l, ky_sli, ky_s1f, ky_s2f, ky_s1d, ky_s2d, ky_sr, ky_sai, ky_sasi, ky_sasl, ky_sasr, ky_svr, ky_sv, ky_sv2, ky_s1, ky_cs, ky_pop, ky_nth, ky_snt, ky_obj, ky_ari, ky_arl, ky_arr, ky_arn, ky_fv, ky_rcv, List.map_cons, List.map_nil, List.drop_succ_cons, List.drop_zero, Value.category, Nat.reduceAdd, Nat.reduceSub, true_and, and_true, true_or, or_true, reduceCtorEq, ite_true, ite_false, eq_self, Nat.reduceEqDiff, Nat.reduceLeDiff, nI_add, nI_1, nI_leI, nI_ltI, nI_eq, nI_clamp, kz_m1, kz_mn, kz_mn2, kz_n0, kz_0n, kz_0, kz_le0, kz_0lt, false_implies, true_implies, not_false_eq_true, not_true_eq_false, Nat.zero_le, kb_0, kz_10, kz_of, ky_sw, kz_mx, kz_mi, mh]) | (refine ⟨vp_in_nI (by omega) (by omega), ?_⟩) | (refine ⟨fun zc => ?_, fun zc => ?_⟩ <;> try (exfalso; omega)) | fail)
            exact hq
    have hnx := kCh_nx (kL s.o.R) (kLv (kL s.o.R) j + 1) (e - j) j []
    have hnl := kNx2_le (kL s.o.R) (kLv (kL s.o.R) j + 1) (e - j) j
    rw [show j + (e - j) = e by omega, ← hv] at hnx
    rw [show j + (e - j) = e by omega] at hnl
    have hl := loop e (kNx2 (kL s.o.R) (kLv (kL s.o.R) j + 1) j (e - j)) [] (by omega) hnl.2 (Nat.zero_le _) (Nat.zero_le _) (by
      rcases hnx with ⟨n1, n2⟩ | ⟨n1, n2, n3⟩
      · exact .inl ⟨n1, n2⟩
      · exact .inr ⟨n1, n3⟩)
    by_cases hxm : x = -1
    · repeat' (first | (refine kx170n hMo h10 ?_; simp only [ky_aft, ky_vl, Nat.reduceAdd]) | (refine c242 ?_; simp only [ky_aft, ky_vl, Nat.reduceAdd]) | (refine kx243x hMo hr ho hR hj hxj ?_; simp only [ky_aft, ky_vl, Nat.reduceAdd]) | (refine kx241 (p := j) (t := e) hMo hr hL (show e ≤ s.o.n by omega) (hp := .inl (by omega)) ?_; simp only [ky_aft, ky_vl, Nat.reduceAdd]) | (exact hl) | (refine ky_ok_stp rfl ?_; simp (disch := first | omega | assumption) only [ky_stp, ky_inv, ky_ldi, ky_ldl, ky_ldd, ky_lda, ky_cl2, ky_st1, ky_st2, ky_s1i, ky_s2i, ky_s1l, ky_s2l, ky_sli, ky_s1f, ky_s2f, ky_s1d, ky_s2d, ky_sr, ky_sai, ky_sasi, ky_sasl, ky_sasr, ky_svr, ky_sv, ky_sv2, ky_s1, ky_cs, ky_pop, ky_nth, ky_snt, ky_obj, ky_ari, ky_arl, ky_arr, ky_arn, ky_fv, ky_rcv, List.map_cons, List.map_nil, List.drop_succ_cons, List.drop_zero, Value.category, Nat.reduceAdd, Nat.reduceSub, true_and, and_true, true_or, or_true, reduceCtorEq, ite_true, ite_false, eq_self, Nat.reduceEqDiff, Nat.reduceLeDiff, nI_add, nI_1, nI_leI, nI_ltI, nI_eq, nI_clamp, kz_m1, kz_mn, kz_mn2, kz_n0, kz_0n, kz_0, kz_le0, kz_0lt, false_implies, true_implies, not_false_eq_true, not_true_eq_false, Nat.zero_le, kb_0, kz_10, kz_of, ky_sw, kz_mx, kz_mi, mh, eq_true hxm, hx1]) | (refine ⟨vp_in_nI (by omega) (by omega), ?_⟩) | (refine ⟨fun zc => ?_, fun zc => ?_⟩ <;> try (exfalso; omega)) | fail)
    · repeat' (first | ((refine kx222 hMo hr h60 hR.1 (fun _ => ?_) (fun w => absurd (hx.resolve_right hxm) w); simp only [ky_aft, ky_vl, Nat.reduceAdd])) | (refine kx170n hMo h10 ?_; simp only [ky_aft, ky_vl, Nat.reduceAdd]) | (refine c242 ?_; simp only [ky_aft, ky_vl, Nat.reduceAdd]) | (refine kx243x hMo hr ho hR hj hxj ?_; simp only [ky_aft, ky_vl, Nat.reduceAdd]) | (refine kx241 (p := j) (t := e) hMo hr hL (show e ≤ s.o.n by omega) (hp := .inl (by omega)) ?_; simp only [ky_aft, ky_vl, Nat.reduceAdd]) | (exact hl) | (refine ky_ok_stp rfl ?_; simp (disch := first | omega | assumption) only [ky_stp, ky_inv, ky_ldi, ky_ldl, ky_ldd, ky_lda, ky_cl2, ky_st1, ky_st2, ky_s1i, ky_s2i, ky_s1l, ky_s2l, ky_sli, ky_s1f, ky_s2f, ky_s1d, ky_s2d, ky_sr, ky_sai, ky_sasi, ky_sasl, ky_sasr, ky_svr, ky_sv, ky_sv2, ky_s1, ky_cs, ky_pop, ky_nth, ky_snt, ky_obj, ky_ari, ky_arl, ky_arr, ky_arn, ky_fv, ky_rcv, List.map_cons, List.map_nil, List.drop_succ_cons, List.drop_zero, Value.category, Nat.reduceAdd, Nat.reduceSub, true_and, and_true, true_or, or_true, reduceCtorEq, ite_true, ite_false, eq_self, Nat.reduceEqDiff, Nat.reduceLeDiff, nI_add, nI_1, nI_leI, nI_ltI, nI_eq, nI_clamp, kz_m1, kz_mn, kz_mn2, kz_n0, kz_0n, kz_0, kz_le0, kz_0lt, false_implies, true_implies, not_false_eq_true, not_true_eq_false, Nat.zero_le, kb_0, kz_10, kz_of, ky_sw, kz_mx, kz_mi, mh, eq_false hxm, hx1]) | (refine ⟨vp_in_nI (by omega) (by omega), ?_⟩) | (refine ⟨fun zc => ?_, fun zc => ?_⟩ <;> try (exfalso; omega)) | fail)
  have mh := hM.2.1
  unfold kMo at mh
  refine ⟨Nat.le_of_ble_eq_true rfl, fun z => absurd z (by decide), ?_⟩; show ky_ok adK 244 0 [some (.ref (a 170)), some (.int x), some (.int y), none, none, none] [] f 0 0 _
  repeat' (first | (exact rest _ _ (kM_t0 hM) rfl (kMF_170 (kfr_up hM.1 kfr_rf rfl))) | (refine ky_ok_stp rfl ?_; simp (disch := first | omega | assumption) only [ky_stp, ky_inv, ky_ldi, ky_ldl, ky_ldd, ky_lda, ky_cl2, ky_st1, ky_st2, ky_s1i, ky_s2i, ky_s1l, ky_s2l, ky_sli, ky_s1f, ky_s2f, ky_s1d, ky_s2d, ky_sr, ky_sai, ky_sasi, ky_sasl, ky_sasr, ky_svr, ky_sv, ky_sv2, ky_s1, ky_cs, ky_pop, ky_nth, ky_snt, ky_obj, ky_ari, ky_arl, ky_arr, ky_arn, ky_fv, ky_rcv, List.map_cons, List.map_nil, List.drop_succ_cons, List.drop_zero, Value.category, Nat.reduceAdd, Nat.reduceSub, true_and, and_true, true_or, or_true, reduceCtorEq, ite_true, ite_false, eq_self, Nat.reduceEqDiff, Nat.reduceLeDiff, nI_add, nI_1, nI_leI, nI_ltI, nI_eq, nI_clamp, kz_m1, kz_mn, kz_mn2, kz_n0, kz_0n, kz_0, kz_le0, kz_0lt, false_implies, true_implies, not_false_eq_true, not_true_eq_false, Nat.zero_le, kb_0, kz_10, kz_of, ky_sw, kz_mx, kz_mi, mh]) | (refine ⟨vp_in_nI (by omega) (by omega), ?_⟩) | (refine ⟨fun zc => ?_, fun zc => ?_⟩ <;> try (exfalso; omega)) | fail)
theorem kx257 (hM : kM a f g s) (ho : kZo s.o) (hy : kHas s.o.n x → kHas s.o.n y → kRg 0 3 v → kMQ a f s 0 Q 0) (h1 : ¬ (kHas s.o.n x ∧ kHas s.o.n y) → kMQ a f s 1 Q 1) (h2' : kHas s.o.n x → kHas s.o.n y → ¬ kRg 0 3 v → kMQ a f s 2 Q 1) : ky_cl adK 257 [.ref (a 170), .int x, .int y, .int v] f Q := by
  have e3 : (3 : Int32) = nI 3 := rfl
  have rest : ∀ f1 g1, kM a f1 g1 s → g1 0 = 0 → kfr a f f1 kMF → ky_ok adK 257 5 [some (.ref (a 170)), some (.int x), some (.int y), some (.int v)] [] f1 0 0 Q := by
    intro f1 g1 hM1 h10 hF1
    obtain ⟨ha, hMo, ⟨⟨r, hr, hR⟩, hU, hV, hC, hT, hW⟩, h2, h3, h4⟩ := id hM1
    have mh := hMo
    unfold kMo at mh
    have h60 := ho.n60
    have hL := kRw_l ho hR
    by_cases hx : kHas s.o.n x
    · by_cases hyy : kHas s.o.n y
      · by_cases hw : kRg 0 3 v
        · have hq := hy hx hyy hw f1 g1 hM1 h10 hF1
          repeat' (first | (refine kr_nh hM1 ho h10 hx ?_; simp only [ky_aft, ky_vl, Nat.reduceAdd]) | (refine kr_nh hM1 ho h10 hyy ?_; simp only [ky_aft, ky_vl, Nat.reduceAdd]) | ((refine kr_in (lo := 0) (hi := 3) (by decide) (by decide) hw ?_; simp only [ky_aft, ky_vl, Nat.reduceAdd])) | (refine kx170n hMo h10 ?_; simp only [ky_aft, ky_vl, Nat.reduceAdd]) | (refine ky_ok_stp rfl ?_; simp (disch := first | omega | assumption) only [ky_stp, ky_inv, ky_ldi, ky_ldl, ky_ldd, ky_lda, ky_cl2, ky_st1, ky_st2, ky_s1i, ky_s2i, ky_s1l, ky_s2l, ky_sli, ky_s1f, ky_s2f, ky_s1d, ky_s2d, ky_sr, ky_sai, ky_sasi, ky_sasl, ky_sasr, ky_svr, ky_sv, ky_sv2, ky_s1, ky_cs, ky_pop, ky_nth, ky_snt, ky_obj, ky_ari, ky_arl, ky_arr, ky_arn, ky_fv, ky_rcv, List.map_cons, List.map_nil, List.drop_succ_cons, List.drop_zero, Value.category, Nat.reduceAdd, Nat.reduceSub, true_and, and_true, true_or, or_true, reduceCtorEq, ite_true, ite_false, eq_self, Nat.reduceEqDiff, Nat.reduceLeDiff, nI_add, nI_1, nI_leI, nI_ltI, nI_eq, nI_clamp, kz_m1, kz_mn, kz_mn2, kz_n0, kz_0n, kz_0, kz_le0, kz_0lt, false_implies, true_implies, not_false_eq_true, not_true_eq_false, Nat.zero_le, kb_0, kz_10, kz_of, ky_sw, kz_mx, kz_mi, mh, e3]) | (refine ⟨vp_in_nI (by omega) (by omega), ?_⟩) | (refine ⟨fun zc => ?_, fun zc => ?_⟩ <;> try (exfalso; omega)) | fail)
          exact hq
        · have hq := h2' hx hyy hw
          repeat' (first | (refine kr_nh hM1 ho h10 hx ?_; simp only [ky_aft, ky_vl, Nat.reduceAdd]) | (refine kr_nh hM1 ho h10 hyy ?_; simp only [ky_aft, ky_vl, Nat.reduceAdd]) | ((refine kr_inx (lo := 0) (hi := 3) (by decide) (by decide) hw ?_; simp only [ky_aft, ky_vl, Nat.reduceAdd])) | (refine kx170t (p := 2) hM1 h10 (by decide) ?_) | (refine ky_ok_stp rfl ?_; simp (disch := first | omega | assumption) only [ky_stp, ky_inv, ky_ldi, ky_ldl, ky_ldd, ky_lda, ky_cl2, ky_st1, ky_st2, ky_s1i, ky_s2i, ky_s1l, ky_s2l, ky_sli, ky_s1f, ky_s2f, ky_s1d, ky_s2d, ky_sr, ky_sai, ky_sasi, ky_sasl, ky_sasr, ky_svr, ky_sv, ky_sv2, ky_s1, ky_cs, ky_pop, ky_nth, ky_snt, ky_obj, ky_ari, ky_arl, ky_arr, ky_arn, ky_fv, ky_rcv, List.map_cons, List.map_nil, List.drop_succ_cons, List.drop_zero, Value.category, Nat.reduceAdd, Nat.reduceSub, true_and, and_true, true_or, or_true, reduceCtorEq, ite_true, ite_false, eq_self, Nat.reduceEqDiff, Nat.reduceLeDiff, nI_add, nI_1, nI_leI, nI_ltI, nI_eq, nI_clamp, kz_m1, kz_mn, kz_mn2, kz_n0, kz_0n, kz_0, kz_le0, kz_0lt, false_implies, true_implies, not_false_eq_true, not_true_eq_false, Nat.zero_le, kb_0, kz_10, kz_of, ky_sw, kz_mx, kz_mi, mh, e3]) | (refine ⟨vp_in_nI (by omega) (by omega), ?_⟩) | (refine ⟨fun zc => ?_, fun zc => ?_⟩ <;> try (exfalso; omega)) | fail)
          intro f2 g2 w1 w2 w3
          try simp only [ky_aft, ky_vl, Nat.reduceAdd]
          repeat' (first | (refine ky_ok_stp rfl ?_; simp (disch := first | omega | assumption) only [ky_stp, ky_inv, ky_ldi, ky_ldl, ky_ldd, ky_lda, ky_cl2, ky_st1, ky_st2, ky_s1i, ky_s2i, ky_s1l, ky_s2l, ky_sli, ky_s1f, ky_s2f, ky_s1d, ky_s2d, ky_sr, ky_sai, ky_sasi, ky_sasl, ky_sasr, ky_svr, ky_sv, ky_sv2, ky_s1, ky_cs, ky_pop, ky_nth, ky_snt, ky_obj, ky_ari, ky_arl, ky_arr, ky_arn, ky_fv, ky_rcv, List.map_cons, List.map_nil, List.drop_succ_cons, List.drop_zero, Value.category, Nat.reduceAdd, Nat.reduceSub, true_and, and_true, true_or, or_true, reduceCtorEq, ite_true, ite_false, eq_self, Nat.reduceEqDiff, Nat.reduceLeDiff, nI_add, nI_1, nI_leI, nI_ltI, nI_eq, nI_clamp, kz_m1, kz_mn, kz_mn2, kz_n0, kz_0n, kz_0, kz_le0, kz_0lt, false_implies, true_implies, not_false_eq_true, not_true_eq_false, Nat.zero_le, kb_0, kz_10, kz_of, ky_sw, kz_mx, kz_mi]) | (refine ⟨vp_in_nI (by omega) (by omega), ?_⟩) | (refine ⟨fun zc => ?_, fun zc => ?_⟩ <;> try (exfalso; omega)) | fail)
          (first | exact hq f2 g2 w1 w2 (kfr_tr hF1 w3 fun j hj => ⟨hj, hj⟩) | exact ⟨by decide, hq f2 g2 w1 w2 (kfr_tr hF1 w3 fun j hj => ⟨hj, hj⟩)⟩)
      · have hq := h1 fun w => hyy w.2
        repeat' (first | (refine kr_nh hM1 ho h10 hx ?_; simp only [ky_aft, ky_vl, Nat.reduceAdd]) | (refine kr_nhx hM1 ho h10 hyy ?_) | (refine ky_ok_stp rfl ?_; simp (disch := first | omega | assumption) only [ky_stp, ky_inv, ky_ldi, ky_ldl, ky_ldd, ky_lda, ky_cl2, ky_st1, ky_st2, ky_s1i, ky_s2i, ky_s1l, ky_s2l, ky_sli, ky_s1f, ky_s2f, ky_s1d, ky_s2d, ky_sr, ky_sai, ky_sasi, ky_sasl, ky_sasr, ky_svr, ky_sv, ky_sv2, ky_s1, ky_cs, ky_pop, ky_nth, ky_snt, ky_obj, ky_ari, ky_arl, ky_arr, ky_arn, ky_fv, ky_rcv, List.map_cons, List.map_nil, List.drop_succ_cons, List.drop_zero, Value.category, Nat.reduceAdd, Nat.reduceSub, true_and, and_true, true_or, or_true, reduceCtorEq, ite_true, ite_false, eq_self, Nat.reduceEqDiff, Nat.reduceLeDiff, nI_add, nI_1, nI_leI, nI_ltI, nI_eq, nI_clamp, kz_m1, kz_mn, kz_mn2, kz_n0, kz_0n, kz_0, kz_le0, kz_0lt, false_implies, true_implies, not_false_eq_true, not_true_eq_false, Nat.zero_le, kb_0, kz_10, kz_of, ky_sw, kz_mx, kz_mi, mh]) | (refine ⟨vp_in_nI (by omega) (by omega), ?_⟩) | (refine ⟨fun zc => ?_, fun zc => ?_⟩ <;> try (exfalso; omega)) | fail)
        intro f2 g2 w1 w2 w3
        try simp only [ky_aft, ky_vl, Nat.reduceAdd]
        repeat' (first | (refine ky_ok_stp rfl ?_; simp (disch := first | omega | assumption) only [ky_stp, ky_inv, ky_ldi, ky_ldl, ky_ldd, ky_lda, ky_cl2, ky_st1, ky_st2, ky_s1i, ky_s2i, ky_s1l, ky_s2l, ky_sli, ky_s1f, ky_s2f, ky_s1d, ky_s2d, ky_sr, ky_sai, ky_sasi, ky_sasl, ky_sasr, ky_svr, ky_sv, ky_sv2, ky_s1, ky_cs, ky_pop, ky_nth, ky_snt, ky_obj, ky_ari, ky_arl, ky_arr, ky_arn, ky_fv, ky_rcv, List.map_cons, List.map_nil, List.drop_succ_cons, List.drop_zero, Value.category, Nat.reduceAdd, Nat.reduceSub, true_and, and_true, true_or, or_true, reduceCtorEq, ite_true, ite_false, eq_self, Nat.reduceEqDiff, Nat.reduceLeDiff, nI_add, nI_1, nI_leI, nI_ltI, nI_eq, nI_clamp, kz_m1, kz_mn, kz_mn2, kz_n0, kz_0n, kz_0, kz_le0, kz_0lt, false_implies, true_implies, not_false_eq_true, not_true_eq_false, Nat.zero_le, kb_0, kz_10, kz_of, ky_sw, kz_mx, kz_mi]) | (refine ⟨vp_in_nI (by omega) (by omega), ?_⟩) | (refine ⟨fun zc => ?_, fun zc => ?_⟩ <;> try (exfalso; omega)) | fail)
        (first | exact hq f2 g2 w1 w2 (kfr_tr hF1 w3 fun j hj => ⟨hj, hj⟩) | exact ⟨by decide, hq f2 g2 w1 w2 (kfr_tr hF1 w3 fun j hj => ⟨hj, hj⟩)⟩)
    · have hq := h1 fun w => hx w.1
      repeat' (first | (refine kr_nhx hM1 ho h10 hx ?_) | (refine ky_ok_stp rfl ?_; simp (disch := first | omega | assumption) only [ky_stp, ky_inv, ky_ldi, ky_ldl, ky_ldd, ky_lda, ky_cl2, ky_st1, ky_st2, ky_s1i, ky_s2i, ky_s1l, ky_s2l, ky_sli, ky_s1f, ky_s2f, ky_s1d, ky_s2d, ky_sr, ky_sai, ky_sasi, ky_sasl, ky_sasr, ky_svr, ky_sv, ky_sv2, ky_s1, ky_cs, ky_pop, ky_nth, ky_snt, ky_obj, ky_ari, ky_arl, ky_arr, ky_arn, ky_fv, ky_rcv, List.map_cons, List.map_nil, List.drop_succ_cons, List.drop_zero, Value.category, Nat.reduceAdd, Nat.reduceSub, true_and, and_true, true_or, or_true, reduceCtorEq, ite_true, ite_false, eq_self, Nat.reduceEqDiff, Nat.reduceLeDiff, nI_add, nI_1, nI_leI, nI_ltI, nI_eq, nI_clamp, kz_m1, kz_mn, kz_mn2, kz_n0, kz_0n, kz_0, kz_le0, kz_0lt, false_implies, true_implies, not_false_eq_true, not_true_eq_false, Nat.zero_le, kb_0, kz_10, kz_of, ky_sw, kz_mx, kz_mi, mh]) | (refine ⟨vp_in_nI (by omega) (by omega), ?_⟩) | (refine ⟨fun zc => ?_, fun zc => ?_⟩ <;> try (exfalso; omega)) | fail)
      intro f2 g2 w1 w2 w3
      try simp only [ky_aft, ky_vl, Nat.reduceAdd]
      repeat' (first | (refine ky_ok_stp rfl ?_; simp (disch := first | omega | assumption) only [ky_stp, ky_inv, ky_ldi, ky_ldl, ky_ldd, ky_lda, ky_cl2, ky_st1, ky_st2, ky_s1i, ky_s2i, ky_s1l, ky_s2l, ky_sli, ky_s1f, ky_s2f, ky_s1d, ky_s2d, ky_sr, ky_sai, ky_sasi, ky_sasl, ky_sasr, ky_svr, ky_sv, ky_sv2, ky_s1, ky_cs, ky_pop, ky_nth, ky_snt, ky_obj, ky_ari, ky_arl, ky_arr, ky_arn, ky_fv, ky_rcv, List.map_cons, List.map_nil, List.drop_succ_cons, List.drop_zero, Value.category, Nat.reduceAdd, Nat.reduceSub, true_and, and_true, true_or, or_true, reduceCtorEq, ite_true, ite_false, eq_self, Nat.reduceEqDiff, Nat.reduceLeDiff, nI_add, nI_1, nI_leI, nI_ltI, nI_eq, nI_clamp, kz_m1, kz_mn, kz_mn2, kz_n0, kz_0n, kz_0, kz_le0, kz_0lt, false_implies, true_implies, not_false_eq_true, not_true_eq_false, Nat.zero_le, kb_0, kz_10, kz_of, ky_sw, kz_mx, kz_mi]) | (refine ⟨vp_in_nI (by omega) (by omega), ?_⟩) | (refine ⟨fun zc => ?_, fun zc => ?_⟩ <;> try (exfalso; omega)) | fail)
      (first | exact hq f2 g2 w1 w2 (kfr_tr hF1 w3 fun j hj => ⟨hj, hj⟩) | exact ⟨by decide, hq f2 g2 w1 w2 (kfr_tr hF1 w3 fun j hj => ⟨hj, hj⟩)⟩)
  have mh := hM.2.1
  unfold kMo at mh
  refine ⟨Nat.le_of_ble_eq_true rfl, fun z => absurd z (by decide), ?_⟩; show ky_ok adK 257 0 [some (.ref (a 170)), some (.int x), some (.int y), some (.int v)] [] f 0 0 _
  repeat' (first | (exact rest _ _ (kM_t0 hM) rfl (kMF_170 (kfr_up hM.1 kfr_rf rfl))) | (refine ky_ok_stp rfl ?_; simp (disch := first | omega | assumption) only [ky_stp, ky_inv, ky_ldi, ky_ldl, ky_ldd, ky_lda, ky_cl2, ky_st1, ky_st2, ky_s1i, ky_s2i, ky_s1l, ky_s2l, ky_sli, ky_s1f, ky_s2f, ky_s1d, ky_s2d, ky_sr, ky_sai, ky_sasi, ky_sasl, ky_sasr, ky_svr, ky_sv, ky_sv2, ky_s1, ky_cs, ky_pop, ky_nth, ky_snt, ky_obj, ky_ari, ky_arl, ky_arr, ky_arn, ky_fv, ky_rcv, List.map_cons, List.map_nil, List.drop_succ_cons, List.drop_zero, Value.category, Nat.reduceAdd, Nat.reduceSub, true_and, and_true, true_or, or_true, reduceCtorEq, ite_true, ite_false, eq_self, Nat.reduceEqDiff, Nat.reduceLeDiff, nI_add, nI_1, nI_leI, nI_ltI, nI_eq, nI_clamp, kz_m1, kz_mn, kz_mn2, kz_n0, kz_0n, kz_0, kz_le0, kz_0lt, false_implies, true_implies, not_false_eq_true, not_true_eq_false, Nat.zero_le, kb_0, kz_10, kz_of, ky_sw, kz_mx, kz_mi, mh]) | (refine ⟨vp_in_nI (by omega) (by omega), ?_⟩) | (refine ⟨fun zc => ?_, fun zc => ?_⟩ <;> try (exfalso; omega)) | fail)
theorem kx258 (hM : kM a f g s) (ho : kZo s.o) (hy : ∀ p t w, p < s.o.n → t < s.o.n → w ≤ 3 → x = nI p → y = nI t → v = nI w → kMQ a f s 0 Q (kMR s.o p t w)) (h1 : ¬ (kHas s.o.n x ∧ kHas s.o.n y) → kMQ a f s 1 Q 0) (h2' : kHas s.o.n x → kHas s.o.n y → ¬ kRg 0 3 v → kMQ a f s 2 Q 0) : ky_cl adK 258 [.ref (a 170), .int x, .int y, .int v] f Q := by
  have mh := hM.2.1
  unfold kMo at mh
  refine ⟨Nat.le_of_ble_eq_true rfl, fun z => absurd z (by decide), ?_⟩; show ky_ok adK 258 0 [some (.ref (a 170)), some (.int x), some (.int y), some (.int v)] [] f 0 0 _
  repeat' (first | (refine kx257 hM ho (fun hx hyy hw => ?_) (fun hx => ?_) (fun hx hyy hw => ?_)) | (refine ky_ok_stp rfl ?_; simp (disch := first | omega | assumption) only [ky_stp, ky_inv, ky_ldi, ky_ldl, ky_ldd, ky_lda, ky_cl2, ky_st1, ky_st2, ky_s1i, ky_s2i, ky_s1l, ky_s2l, ky_sli, ky_s1f, ky_s2f, ky_s1d, ky_s2d, ky_sr, ky_sai, ky_sasi, ky_sasl, ky_sasr, ky_svr, ky_sv, ky_sv2, ky_s1, ky_cs, ky_pop, ky_nth, ky_snt, ky_obj, ky_ari, ky_arl, ky_arr, ky_arn, ky_fv, ky_rcv, List.map_cons, List.map_nil, List.drop_succ_cons, List.drop_zero, Value.category, Nat.reduceAdd, Nat.reduceSub, true_and, and_true, true_or, or_true, reduceCtorEq, ite_true, ite_false, eq_self, Nat.reduceEqDiff, Nat.reduceLeDiff, nI_add, nI_1, nI_leI, nI_ltI, nI_eq, nI_clamp, kz_m1, kz_mn, kz_mn2, kz_n0, kz_0n, kz_0, kz_le0, kz_0lt, false_implies, true_implies, not_false_eq_true, not_true_eq_false, Nat.zero_le, kb_0, kz_10, kz_of, ky_sw, kz_mx, kz_mi, mh]) | (refine ⟨vp_in_nI (by omega) (by omega), ?_⟩) | (refine ⟨fun zc => ?_, fun zc => ?_⟩ <;> try (exfalso; omega)) | fail)
  · intro f1 g1 hM1 h10 hF1
    (try simp only [ky_aft, ky_vl, Nat.reduceAdd])
    obtain ⟨p, hp, rfl⟩ := hx
    obtain ⟨t, ht, rfl⟩ := hyy
    obtain ⟨w, -, hw, rfl⟩ := hw
    obtain ⟨ha, hMo, ⟨⟨r, hr, hR⟩, -⟩, -⟩ := id hM1
    have mh := hMo
    unfold kMo at mh
    repeat' (first | (refine kx252 hMo hr ho hR hp ht hw ?_; simp only [ky_aft, ky_vl, Nat.reduceAdd]) | (refine ky_ok_stp rfl ?_; simp (disch := first | omega | assumption) only [ky_stp, ky_inv, ky_ldi, ky_ldl, ky_ldd, ky_lda, ky_cl2, ky_st1, ky_st2, ky_s1i, ky_s2i, ky_s1l, ky_s2l, ky_sli, ky_s1f, ky_s2f, ky_s1d, ky_s2d, ky_sr, ky_sai, ky_sasi, ky_sasl, ky_sasr, ky_svr, ky_sv, ky_sv2, ky_s1, ky_cs, ky_pop, ky_nth, ky_snt, ky_obj, ky_ari, ky_arl, ky_arr, ky_arn, ky_fv, ky_rcv, List.map_cons, List.map_nil, List.drop_succ_cons, List.drop_zero, Value.category, Nat.reduceAdd, Nat.reduceSub, true_and, and_true, true_or, or_true, reduceCtorEq, ite_true, ite_false, eq_self, Nat.reduceEqDiff, Nat.reduceLeDiff, nI_add, nI_1, nI_leI, nI_ltI, nI_eq, nI_clamp, kz_m1, kz_mn, kz_mn2, kz_n0, kz_0n, kz_0, kz_le0, kz_0lt, false_implies, true_implies, not_false_eq_true, not_true_eq_false, Nat.zero_le, kb_0, kz_10, kz_of, ky_sw, kz_mx, kz_mi, mh]) | (refine ⟨vp_in_nI (by omega) (by omega), ?_⟩) | (refine ⟨fun zc => ?_, fun zc => ?_⟩ <;> try (exfalso; omega)) | fail)
    exact hy p t w hp ht hw rfl rfl rfl f1 g1 hM1 h10 hF1
  · intro f1 g1 hM1 h10 hF1
    (try simp only [ky_aft, ky_vl, Nat.reduceAdd])
    repeat' (first | (refine ky_ok_stp rfl ?_; simp (disch := first | omega | assumption) only [ky_stp, ky_inv, ky_ldi, ky_ldl, ky_ldd, ky_lda, ky_cl2, ky_st1, ky_st2, ky_s1i, ky_s2i, ky_s1l, ky_s2l, ky_sli, ky_s1f, ky_s2f, ky_s1d, ky_s2d, ky_sr, ky_sai, ky_sasi, ky_sasl, ky_sasr, ky_svr, ky_sv, ky_sv2, ky_s1, ky_cs, ky_pop, ky_nth, ky_snt, ky_obj, ky_ari, ky_arl, ky_arr, ky_arn, ky_fv, ky_rcv, List.map_cons, List.map_nil, List.drop_succ_cons, List.drop_zero, Value.category, Nat.reduceAdd, Nat.reduceSub, true_and, and_true, true_or, or_true, reduceCtorEq, ite_true, ite_false, eq_self, Nat.reduceEqDiff, Nat.reduceLeDiff, nI_add, nI_1, nI_leI, nI_ltI, nI_eq, nI_clamp, kz_m1, kz_mn, kz_mn2, kz_n0, kz_0n, kz_0, kz_le0, kz_0lt, false_implies, true_implies, not_false_eq_true, not_true_eq_false, Nat.zero_le, kb_0, kz_10, kz_of, ky_sw, kz_mx, kz_mi]) | (refine ⟨vp_in_nI (by omega) (by omega), ?_⟩) | (refine ⟨fun zc => ?_, fun zc => ?_⟩ <;> try (exfalso; omega)) | fail)
    exact h1 hx f1 g1 hM1 h10 hF1
  · intro f1 g1 hM1 h10 hF1
    (try simp only [ky_aft, ky_vl, Nat.reduceAdd])
    repeat' (first | (refine ky_ok_stp rfl ?_; simp (disch := first | omega | assumption) only [ky_stp, ky_inv, ky_ldi, ky_ldl, ky_ldd, ky_lda, ky_cl2, ky_st1, ky_st2, ky_s1i, ky_s2i, ky_s1l, ky_s2l, ky_sli, ky_s1f, ky_s2f, ky_s1d, ky_s2d, ky_sr, ky_sai, ky_sasi, ky_sasl, ky_sasr, ky_svr, ky_sv, ky_sv2, ky_s1, ky_cs, ky_pop, ky_nth, ky_snt, ky_obj, ky_ari, ky_arl, ky_arr, ky_arn, ky_fv, ky_rcv, List.map_cons, List.map_nil, List.drop_succ_cons, List.drop_zero, Value.category, Nat.reduceAdd, Nat.reduceSub, true_and, and_true, true_or, or_true, reduceCtorEq, ite_true, ite_false, eq_self, Nat.reduceEqDiff, Nat.reduceLeDiff, nI_add, nI_1, nI_leI, nI_ltI, nI_eq, nI_clamp, kz_m1, kz_mn, kz_mn2, kz_n0, kz_0n, kz_0, kz_le0, kz_0lt, false_implies, true_implies, not_false_eq_true, not_true_eq_false, Nat.zero_le, kb_0, kz_10, kz_of, ky_sw, kz_mx, kz_mi]) | (refine ⟨vp_in_nI (by omega) (by omega), ?_⟩) | (refine ⟨fun zc => ?_, fun zc => ?_⟩ <;> try (exfalso; omega)) | fail)
    exact h2' hx hyy hw f1 g1 hM1 h10 hF1
/-- holds in its branch, or is it -/
def kAn (z : kZ) (q p : Nat) : Prop := q ≤ p ∧ p < kEnd z q
end KXM
theorem kE_sp (L : Nat → Int32) (lv : Int32) : ∀ m i, (∀ t, i ≤ t → t < kE L lv i m → lv < L t) ∧ (kE L lv i m < i + m → ¬ lv < L (kE L lv i m))
  | 0, i => ⟨fun t h1 h2 => by rw [kE] at h2; omega, fun h => by rw [kE] at h; omega⟩
  | m + 1, i => by
    rw [kE]
    by_cases e : lv < L i
    · rw [if_pos e]
      obtain ⟨h1, h2⟩ := kE_sp L lv m (i + 1)
      exact ⟨fun t t1 t2 => if z : t = i then z ▸ e else h1 t (by omega) t2, fun h => h2 (by omega)⟩
    · rw [if_neg e]
      exact ⟨fun t t1 t2 => by omega, fun _ => e⟩
theorem kAn_i {z : kZ} {q p : Nat} (hp : p < z.n) : kAn z q p ↔ q ≤ p ∧ ∀ t, q < t → t ≤ p → kL z.R q < kL z.R t := by
  have h := kE_sp (kL z.R) (kL z.R q) (z.n - (q + 1)) (q + 1)
  have hE : kE (kL z.R) (kL z.R q) (q + 1) (z.n - (q + 1)) = kEnd z q := rfl
  rw [hE] at h
  constructor
  · rintro ⟨h1, h2⟩
    exact ⟨h1, fun t t1 t2 => h.1 t (by omega) (by omega)⟩
  · rintro ⟨h1, h2⟩
    refine ⟨h1, ?_⟩
    by_cases e : p < kEnd z q
    · exact e
    · have hk := kEnd_le (z := z) (p := q) (by omega)
      exact absurd (h2 _ (by omega) (by omega)) (h.2 (by omega))
theorem kAn_r {z : kZ} {p : Nat} (hp : p < z.n) : kAn z p p := (kAn_i hp).mpr ⟨Nat.le_refl _, fun t h1 h2 => by omega⟩
/-- what is above p is above its parent, or it -/
theorem kAn_p {z : kZ} {p q : Nat} (hp : p < z.n) : (kAn z q p ∧ q ≠ p) ↔ ∃ u, kP (kL z.R) (kL z.R p) p = u + 1 ∧ kAn z q u := by
  rw [kAn_i hp]
  rcases kP_sp (kL z.R) (kL z.R p) p with ⟨h1, h2⟩ | ⟨u, h1, h2, h3, h4⟩
  · constructor
    · rintro ⟨⟨w1, w2⟩, w3⟩
      exact absurd (w2 p (by omega) (Nat.le_refl _)) (Int32.not_lt.mpr (h2 q (by omega)))
    · rintro ⟨u, w, -⟩
      omega
  · constructor
    · rintro ⟨⟨w1, w2⟩, w3⟩
      refine ⟨u, h1, (kAn_i (by omega)).mpr ⟨?_, fun t t1 t2 => w2 t t1 (by omega)⟩⟩
      by_cases e : q ≤ u
      · exact e
      · exact absurd (w2 p (by omega) (Nat.le_refl _)) (Int32.not_lt.mpr (h4 q (by omega) (by omega)))
    · rintro ⟨u', w1, w2⟩
      obtain rfl : u' = u := by omega
      obtain ⟨w3, w4⟩ := (kAn_i (by omega)).mp w2
      have hqu : ∀ t, u' < t → t ≤ p → kL z.R u' < kL z.R t := fun t t1 t2 => if e : t = p then e ▸ h3 else kil h3 (h4 t t1 (by omega))
      refine ⟨⟨by omega, fun t t1 t2 => ?_⟩, by omega⟩
      by_cases e : t ≤ u'
      · exact w4 t t1 e
      · by_cases e2 : q = u'
        · rw [e2]; exact hqu t (by omega) t2
        · exact kil (w4 u' (by omega) (Nat.le_refl _)) (Int32.le_of_lt (hqu t (by omega) t2))
/-- the nearest above both (places plus 1) -/
def kNr (z : kZ) (u l r : Nat) : Prop := (∀ q, (∃ p, u = p + 1 ∧ kAn z q p) → (∃ t, l = t + 1 ∧ kAn z q t) → q + 1 ≤ r) ∧ (r = 0 ∨ ∃ q p t, r = q + 1 ∧ u = p + 1 ∧ l = t + 1 ∧ kAn z q p ∧ kAn z q t)
theorem kNr_u {z : kZ} {u l r r' : Nat} (h : kNr z u l r) (h' : kNr z u l r') : r = r' := by
  obtain ⟨h1, h2⟩ := h
  obtain ⟨h1', h2'⟩ := h'
  have a1 : r ≤ r' := by
    rcases h2 with rfl | ⟨q, p, t, rfl, e1, e2, k1, k2⟩
    · exact Nat.zero_le _
    · exact h1' q ⟨p, e1, k1⟩ ⟨t, e2, k2⟩
  have a2 : r' ≤ r := by
    rcases h2' with rfl | ⟨q, p, t, rfl, e1, e2, k1, k2⟩
    · exact Nat.zero_le _
    · exact h1 q ⟨p, e1, k1⟩ ⟨t, e2, k2⟩
  omega
theorem kNr_s {z : kZ} {u l r : Nat} (h : kNr z u l r) : kNr z l u r :=
  ⟨fun q h1 h2 => h.1 q h2 h1, h.2.imp id fun ⟨q, p, t, a1, a2, a3, a4, a5⟩ => ⟨q, t, p, a1, a3, a2, a5, a4⟩⟩
theorem kNr_st {z : kZ} {u l r : Nat} (hl : l + 1 ≤ z.n) (hu : u < l + 1) (h : kNr z u (kP (kL z.R) (kL z.R l) l) r) : kNr z u (l + 1) r := by
  have key : ∀ q p, u = p + 1 → kAn z q p → (kAn z q l ↔ ∃ t, kP (kL z.R) (kL z.R l) l = t + 1 ∧ kAn z q t) := fun q p e k => by
    rw [← kAn_p (by omega)]
    have := k.1
    exact ⟨fun w => ⟨w, by omega⟩, fun w => w.1⟩
  constructor
  · rintro q ⟨p, e1, k1⟩ ⟨t, e2, k2⟩
    obtain rfl : t = l := by omega
    exact h.1 q ⟨p, e1, k1⟩ ((key q p e1 k1).mp k2)
  · rcases h.2 with h0 | ⟨q, p, t, e0, e1, e2, k1, k2⟩
    · exact .inl h0
    · exact .inr ⟨q, p, l, e0, e1, rfl, k1, (key q p e1 k1).mpr ⟨t, e2, k2⟩⟩
theorem kNr_0 {z : kZ} {u l : Nat} (h : u = 0 ∨ l = 0) : kNr z u l 0 := by
  refine ⟨?_, .inl rfl⟩
  rintro q ⟨p, e1, k1⟩ ⟨t, e2, k2⟩
  omega
theorem kNr_r {z : kZ} {u : Nat} (h : u ≤ z.n) : kNr z u u u := by
  match u, h with
  | 0, _ => exact kNr_0 (.inl rfl)
  | u + 1, h =>
    refine ⟨?_, .inr ⟨u, u, u, rfl, rfl, rfl, kAn_r (by omega), kAn_r (by omega)⟩⟩
    rintro q ⟨p, e1, k1⟩ -
    have := k1.1
    omega
def kLw (z : kZ) (u : Nat) : Nat := if u = 0 then 0 else kV z.R (u - 1)
theorem kLw_P {z : kZ} (ho : kZo z) {l : Nat} (hl : l < z.n) : kLw z (kP (kL z.R) (kL z.R l) l) + 1 ≤ kLw z (l + 1) := by
  obtain ⟨l0, l1, l6⟩ := ho.lv l hl
  have e : kLw z (l + 1) = kV z.R l := by rw [kLw, if_neg (Nat.succ_ne_zero l), Nat.add_sub_cancel]
  rw [e]
  unfold kLw
  rcases kP_sp (kL z.R) (kL z.R l) l with ⟨h1, h2⟩ | ⟨u, h1, h2, h3, h4⟩
  · rw [if_pos h1]; omega
  · rw [h1, if_neg (by omega), Nat.add_sub_cancel]
    obtain ⟨u0, u1, u6⟩ := ho.lv u (by omega)
    rw [u0, l0, nI_ltI (by omega) (by omega)] at h3
    omega
theorem kCom_n {z : kZ} (ho : kZo z) : ∀ m u l, u ≤ z.n → l ≤ z.n → kLw z u + kLw z l ≤ m → kNr z u l (kCom (kL z.R) m u l)
  | 0, u, l, hu, hl, hm => by
    rw [kCom]
    have : u = 0 := by
      by_cases e : u = 0
      · exact e
      · have := (ho.lv (u - 1) (by omega)).2.1
        unfold kLw at hm
        rw [if_neg e] at hm
        omega
    subst this
    exact kNr_0 (.inl rfl)
  | m + 1, u, l, hu, hl, hm => by
    rw [kCom]
    by_cases e : u = l
    · rw [if_pos e, ← e]; exact kNr_r hu
    · rw [if_neg e]
      by_cases e2 : u ≤ l
      · rw [if_pos e2]
        obtain ⟨l', rfl⟩ : ∃ l', l = l' + 1 := ⟨l - 1, by omega⟩
        rw [Nat.add_sub_cancel]
        have hP := kP_le (kL z.R) (kL z.R l') l'
        have hw := kLw_P ho (l := l') (by omega)
        exact kNr_st hl (by omega) (kCom_n ho m u _ hu (by omega) (by omega))
      · rw [if_neg e2]
        obtain ⟨u', rfl⟩ : ∃ u', u = u' + 1 := ⟨u - 1, by omega⟩
        rw [Nat.add_sub_cancel]
        have hP := kP_le (kL z.R) (kL z.R u') u'
        have hw := kLw_P ho (l := u') (by omega)
        exact kNr_s (kNr_st hu (by omega) (kNr_s (kCom_n ho m _ l (by omega) hl (by omega))))
theorem kNr_lo {z : kZ} {u t r : Nat} (hu : u < z.n) (hut : u ≤ t) (hn : ¬ t < kEnd z u) (h : kNr z (kP (kL z.R) (kL z.R u) u) (t + 1) r) : kNr z (u + 1) (t + 1) r := by
  have key : ∀ q t', t + 1 = t' + 1 → kAn z q t' → (kAn z q u ↔ ∃ p, kP (kL z.R) (kL z.R u) u = p + 1 ∧ kAn z q p) := fun q t' e k => by
    rw [← kAn_p hu]
    refine ⟨fun w => ⟨w, fun e2 => hn ?_⟩, fun w => w.1⟩
    obtain rfl : t' = t := by omega
    rw [← e2]
    exact k.2
  constructor
  · rintro q ⟨p, e1, k1⟩ ⟨t', e2, k2⟩
    obtain rfl : p = u := by omega
    exact h.1 q ((key q t' e2 k2).mp k1) ⟨t', e2, k2⟩
  · rcases h.2 with h0 | ⟨q, p, t', e0, e1, e2, k1, k2⟩
    · exact .inl h0
    · exact .inr ⟨q, u, t', e0, rfl, e2, (key q t' e2 k2).mpr ⟨p, e1, k1⟩, k2⟩
theorem kNr_hi {z : kZ} {u t : Nat} (hu : u < z.n) (hut : u ≤ t) (hn : t < kEnd z u) : kNr z (u + 1) (t + 1) (u + 1) := by
  refine ⟨?_, .inr ⟨u, u, t, rfl, rfl, rfl, kAn_r hu, ⟨hut, hn⟩⟩⟩
  rintro q ⟨p, e1, k1⟩ -
  have := k1.1
  omega
section KXM
variable {adK a : Nat → Nat} {f : ky_H} {Q : ky_Q} {g r : Nat → Int32} {s : kSt} {p w n l i j t : Nat} {x y v : Int32} {z : kZ}
theorem kx245 (hM : kM a f g s) (ho : kZo s.o) (hy : ∀ p t, p < s.o.n → t < s.o.n → x = nI p → y = nI t → kMQ a f s 0 Q (nI (kCom (kL s.o.R) 12 (p + 1) (t + 1)) - 1)) (h1 : ¬ (kHas s.o.n x ∧ kHas s.o.n y) → kMQ a f s 1 Q 0) : ky_cl adK 245 [.ref (a 170), .int x, .int y] f Q := by
  have rest : ∀ f1 g1, kM a f1 g1 s → g1 0 = 0 → kfr a f f1 kMF → ky_ok adK 245 5 [some (.ref (a 170)), some (.int x), some (.int y), none, none, none] [] f1 0 0 Q := by
    intro f1 g1 hM1 h10 hF1
    obtain ⟨ha, hMo, ⟨⟨r, hr, hR⟩, hU, hV, hC, hT, hW⟩, h2, h3, h4⟩ := id hM1
    have mh := hMo
    unfold kMo at mh
    have h60 := ho.n60
    have hL := kRw_l ho hR
    by_cases hx : kHas s.o.n x
    · by_cases hyy : kHas s.o.n y
      · obtain ⟨p, hp, rfl⟩ := id hx
        obtain ⟨t, ht, rfl⟩ := id hyy
        have hq := hy p t hp ht rfl rfl f1 g1 hM1 h10 hF1
        have hlw : ∀ u, u < s.o.n → kLw s.o (u + 1) ≤ 6 := fun u hu => by
          unfold kLw
          rw [if_neg (by omega)]
          exact (ho.lv u hu).2.2
        have hcm := kCom_n ho 12 (p + 1) (t + 1) (by omega) (by omega) (by have := hlw p hp; have := hlw t ht; omega)
        have hcm2 : kNr s.o (min p t + 1) (max p t + 1) (kCom (kL s.o.R) 12 (p + 1) (t + 1)) := by
          by_cases e : p ≤ t
          · rw [Nat.min_eq_left e, Nat.max_eq_right e]; exact hcm
          · rw [Nat.min_eq_right (by omega), Nat.max_eq_left (by omega)]; exact kNr_s hcm
        have loop : ∀ k u, u ≤ k → u ≤ min p t + 1 → kNr s.o u (max p t + 1) (kCom (kL s.o.R) 12 (p + 1) (t + 1)) → ky_ok adK 245 39 [some (.ref (a 170)), some (.int (nI p)), some (.int (nI t)), some (.int (nI (min p t))), some (.int (nI (max p t))), some (.int (nI u - 1))] [] f1 0 0 Q := by
          intro k
          induction k with
          | zero =>
            intro u hk hu hN
            obtain rfl : u = 0 := by omega
            have e0 := kNr_u hN (kNr_0 (.inl rfl))
            rw [e0, kz_z] at hq
            rw [kz_z]
            repeat' (first | (refine ky_ok_stp rfl ?_; simp (disch := first | omega | assumption) only [ky_stp, ky_inv, ky_ldi, ky_ldl, ky_ldd, ky_lda, ky_cl2, ky_st1, ky_st2, ky_s1i, ky_s2i, ky_s1l, ky_s2l, ky_sli, ky_s1f, ky_s2f, ky_s1d, ky_s2d, ky_sr, ky_sai, ky_sasi, ky_sasl, ky_sasr, ky_svr, ky_sv, ky_sv2, ky_s1, ky_cs, ky_pop, ky_nth, ky_snt, ky_obj, ky_ari, ky_arl, ky_arr, ky_arn, ky_fv, ky_rcv, List.map_cons, List.map_nil, List.drop_succ_cons, List.drop_zero, Value.category, Nat.reduceAdd, Nat.reduceSub, true_and, and_true, true_or, or_true, reduceCtorEq, ite_true, ite_false, eq_self, Nat.reduceEqDiff, Nat.reduceLeDiff, nI_add, nI_1, nI_leI, nI_ltI, nI_eq, nI_clamp, kz_m1, kz_mn, kz_mn2, kz_n0, kz_0n, kz_0, kz_le0, kz_0lt, false_implies, true_implies, not_false_eq_true, not_true_eq_false, Nat.zero_le, kb_0, kz_10, kz_of, ky_sw, kz_mx, kz_mi]) | (refine ⟨vp_in_nI (by omega) (by omega), ?_⟩) | (refine ⟨fun zc => ?_, fun zc => ?_⟩ <;> try (exfalso; omega)) | fail)
            exact hq
          | succ k ih =>
            intro u hk hu hN
            match u, hk, hu, hN with
            | 0, hk, hu, hN =>
              have e0 := kNr_u hN (kNr_0 (.inl rfl))
              rw [e0, kz_z] at hq
              rw [kz_z]
              repeat' (first | (refine ky_ok_stp rfl ?_; simp (disch := first | omega | assumption) only [ky_stp, ky_inv, ky_ldi, ky_ldl, ky_ldd, ky_lda, ky_cl2, ky_st1, ky_st2, ky_s1i, ky_s2i, ky_s1l, ky_s2l, ky_sli, ky_s1f, ky_s2f, ky_s1d, ky_s2d, ky_sr, ky_sai, ky_sasi, ky_sasl, ky_sasr, ky_svr, ky_sv, ky_sv2, ky_s1, ky_cs, ky_pop, ky_nth, ky_snt, ky_obj, ky_ari, ky_arl, ky_arr, ky_arn, ky_fv, ky_rcv, List.map_cons, List.map_nil, List.drop_succ_cons, List.drop_zero, Value.category, Nat.reduceAdd, Nat.reduceSub, true_and, and_true, true_or, or_true, reduceCtorEq, ite_true, ite_false, eq_self, Nat.reduceEqDiff, Nat.reduceLeDiff, nI_add, nI_1, nI_leI, nI_ltI, nI_eq, nI_clamp, kz_m1, kz_mn, kz_mn2, kz_n0, kz_0n, kz_0, kz_le0, kz_0lt, false_implies, true_implies, not_false_eq_true, not_true_eq_false, Nat.zero_le, kb_0, kz_10, kz_of, ky_sw, kz_mx, kz_mi]) | (refine ⟨vp_in_nI (by omega) (by omega), ?_⟩) | (refine ⟨fun zc => ?_, fun zc => ?_⟩ <;> try (exfalso; omega)) | fail)
              exact hq
            | u + 1, hk, hu, hN =>
              have hun : u < s.o.n := by omega
              have hE : kE (kL s.o.R) (kL s.o.R u) (u + 1) (s.o.n - (u + 1)) = kEnd s.o u := rfl
              have hE2 := kEnd_le hun
              rw [nI_pred]
              by_cases e : max p t < kEnd s.o u
              · have e0 := kNr_u hN (kNr_hi hun (by omega) e)
                rw [e0, nI_pred] at hq
                repeat' (first | (refine kx177 hMo hr hL hun ?_; simp only [ky_aft, ky_vl, Nat.reduceAdd]) | (refine ky_ok_stp rfl ?_; simp (disch := first | omega | assumption) only [ky_stp, ky_inv, ky_ldi, ky_ldl, ky_ldd, ky_lda, ky_cl2, ky_st1, ky_st2, ky_s1i, ky_s2i, ky_s1l, ky_s2l, ky_sli, ky_s1f, ky_s2f, ky_s1d, ky_s2d, ky_sr, ky_sai, ky_sasi, ky_sasl, ky_sasr, ky_svr, ky_sv, ky_sv2, ky_s1, ky_cs, ky_pop, ky_nth, ky_snt, ky_obj, ky_ari, ky_arl, ky_arr, ky_arn, ky_fv, ky_rcv, List.map_cons, List.map_nil, List.drop_succ_cons, List.drop_zero, Value.category, Nat.reduceAdd, Nat.reduceSub, true_and, and_true, true_or, or_true, reduceCtorEq, ite_true, ite_false, eq_self, Nat.reduceEqDiff, Nat.reduceLeDiff, nI_add, nI_1, nI_leI, nI_ltI, nI_eq, nI_clamp, kz_m1, kz_mn, kz_mn2, kz_n0, kz_0n, kz_0, kz_le0, kz_0lt, false_implies, true_implies, not_false_eq_true, not_true_eq_false, Nat.zero_le, kb_0, kz_10, kz_of, ky_sw, kz_mx, kz_mi, mh, hE]) | (refine ⟨vp_in_nI (by omega) (by omega), ?_⟩) | (refine ⟨fun zc => ?_, fun zc => ?_⟩ <;> try (exfalso; omega)) | fail)
                exact hq
              · have hP := kP_le (kL s.o.R) (kL s.o.R u) u
                have hN2 : kNr s.o (kP (kL s.o.R) (kL s.o.R u) u) (max p t + 1) (kCom (kL s.o.R) 12 (p + 1) (t + 1)) := by
                  have hc := kCom_n ho 12 (kP (kL s.o.R) (kL s.o.R u) u) (max p t + 1) (by omega) (by omega) (by have := hlw (max p t) (by omega); have := kLw_P ho hun; have := hlw u hun; omega)
                  rw [kNr_u hN (kNr_lo hun (by omega) e hc)]
                  exact hc
                have hi := ih _ (by omega) (by omega) hN2
                repeat' (first | (refine kx177 hMo hr hL hun ?_; simp only [ky_aft, ky_vl, Nat.reduceAdd]) | (refine kx178 hMo hr hL hun ?_; simp only [ky_aft, ky_vl, Nat.reduceAdd]) | (exact hi) | (refine ky_ok_stp rfl ?_; simp (disch := first | omega | assumption) only [ky_stp, ky_inv, ky_ldi, ky_ldl, ky_ldd, ky_lda, ky_cl2, ky_st1, ky_st2, ky_s1i, ky_s2i, ky_s1l, ky_s2l, ky_sli, ky_s1f, ky_s2f, ky_s1d, ky_s2d, ky_sr, ky_sai, ky_sasi, ky_sasl, ky_sasr, ky_svr, ky_sv, ky_sv2, ky_s1, ky_cs, ky_pop, ky_nth, ky_snt, ky_obj, ky_ari, ky_arl, ky_arr, ky_arn, ky_fv, ky_rcv, List.map_cons, List.map_nil, List.drop_succ_cons, List.drop_zero, Value.category, Nat.reduceAdd, Nat.reduceSub, true_and, and_true, true_or, or_true, reduceCtorEq, ite_true, ite_false, eq_self, Nat.reduceEqDiff, Nat.reduceLeDiff, nI_add, nI_1, nI_leI, nI_ltI, nI_eq, nI_clamp, kz_m1, kz_mn, kz_mn2, kz_n0, kz_0n, kz_0, kz_le0, kz_0lt, false_implies, true_implies, not_false_eq_true, not_true_eq_false, Nat.zero_le, kb_0, kz_10, kz_of, ky_sw, kz_mx, kz_mi, mh, hE]) | (refine ⟨vp_in_nI (by omega) (by omega), ?_⟩) | (refine ⟨fun zc => ?_, fun zc => ?_⟩ <;> try (exfalso; omega)) | fail)
        have hl := loop (min p t + 1) (min p t + 1) (Nat.le_refl _) (Nat.le_refl _) hcm2
        rw [nI_pred] at hl
        repeat' (first | (refine kr_nh hM1 ho h10 hx ?_; simp only [ky_aft, ky_vl, Nat.reduceAdd]) | (refine kr_nh hM1 ho h10 hyy ?_; simp only [ky_aft, ky_vl, Nat.reduceAdd]) | (exact hl) | (refine ky_ok_stp rfl ?_; simp (disch := first | omega | assumption) only [ky_stp, ky_inv, ky_ldi, ky_ldl, ky_ldd, ky_lda, ky_cl2, ky_st1, ky_st2, ky_s1i, ky_s2i, ky_s1l, ky_s2l, ky_sli, ky_s1f, ky_s2f, ky_s1d, ky_s2d, ky_sr, ky_sai, ky_sasi, ky_sasl, ky_sasr, ky_svr, ky_sv, ky_sv2, ky_s1, ky_cs, ky_pop, ky_nth, ky_snt, ky_obj, ky_ari, ky_arl, ky_arr, ky_arn, ky_fv, ky_rcv, List.map_cons, List.map_nil, List.drop_succ_cons, List.drop_zero, Value.category, Nat.reduceAdd, Nat.reduceSub, true_and, and_true, true_or, or_true, reduceCtorEq, ite_true, ite_false, eq_self, Nat.reduceEqDiff, Nat.reduceLeDiff, nI_add, nI_1, nI_leI, nI_ltI, nI_eq, nI_clamp, kz_m1, kz_mn, kz_mn2, kz_n0, kz_0n, kz_0, kz_le0, kz_0lt, false_implies, true_implies, not_false_eq_true, not_true_eq_false, Nat.zero_le, kb_0, kz_10, kz_of, ky_sw, kz_mx, kz_mi, mh]) | (refine ⟨vp_in_nI (by omega) (by omega), ?_⟩) | (refine ⟨fun zc => ?_, fun zc => ?_⟩ <;> try (exfalso; omega)) | fail)
      · have hq := h1 fun w => hyy w.2
        repeat' (first | (refine kr_nh hM1 ho h10 hx ?_; simp only [ky_aft, ky_vl, Nat.reduceAdd]) | (refine kr_nhx hM1 ho h10 hyy ?_) | (refine ky_ok_stp rfl ?_; simp (disch := first | omega | assumption) only [ky_stp, ky_inv, ky_ldi, ky_ldl, ky_ldd, ky_lda, ky_cl2, ky_st1, ky_st2, ky_s1i, ky_s2i, ky_s1l, ky_s2l, ky_sli, ky_s1f, ky_s2f, ky_s1d, ky_s2d, ky_sr, ky_sai, ky_sasi, ky_sasl, ky_sasr, ky_svr, ky_sv, ky_sv2, ky_s1, ky_cs, ky_pop, ky_nth, ky_snt, ky_obj, ky_ari, ky_arl, ky_arr, ky_arn, ky_fv, ky_rcv, List.map_cons, List.map_nil, List.drop_succ_cons, List.drop_zero, Value.category, Nat.reduceAdd, Nat.reduceSub, true_and, and_true, true_or, or_true, reduceCtorEq, ite_true, ite_false, eq_self, Nat.reduceEqDiff, Nat.reduceLeDiff, nI_add, nI_1, nI_leI, nI_ltI, nI_eq, nI_clamp, kz_m1, kz_mn, kz_mn2, kz_n0, kz_0n, kz_0, kz_le0, kz_0lt, false_implies, true_implies, not_false_eq_true, not_true_eq_false, Nat.zero_le, kb_0, kz_10, kz_of, ky_sw, kz_mx, kz_mi, mh]) | (refine ⟨vp_in_nI (by omega) (by omega), ?_⟩) | (refine ⟨fun zc => ?_, fun zc => ?_⟩ <;> try (exfalso; omega)) | fail)
        intro f2 g2 w1 w2 w3
        try simp only [ky_aft, ky_vl, Nat.reduceAdd]
        repeat' (first | (refine ky_ok_stp rfl ?_; simp (disch := first | omega | assumption) only [ky_stp, ky_inv, ky_ldi, ky_ldl, ky_ldd, ky_lda, ky_cl2, ky_st1, ky_st2, ky_s1i, ky_s2i, ky_s1l, ky_s2l, ky_sli, ky_s1f, ky_s2f, ky_s1d, ky_s2d, ky_sr, ky_sai, ky_sasi, ky_sasl, ky_sasr, ky_svr, ky_sv, ky_sv2, ky_s1, ky_cs, ky_pop, ky_nth, ky_snt, ky_obj, ky_ari, ky_arl, ky_arr, ky_arn, ky_fv, ky_rcv, List.map_cons, List.map_nil, List.drop_succ_cons, List.drop_zero, Value.category, Nat.reduceAdd, Nat.reduceSub, true_and, and_true, true_or, or_true, reduceCtorEq, ite_true, ite_false, eq_self, Nat.reduceEqDiff, Nat.reduceLeDiff, nI_add, nI_1, nI_leI, nI_ltI, nI_eq, nI_clamp, kz_m1, kz_mn, kz_mn2, kz_n0, kz_0n, kz_0, kz_le0, kz_0lt, false_implies, true_implies, not_false_eq_true, not_true_eq_false, Nat.zero_le, kb_0, kz_10, kz_of, ky_sw, kz_mx, kz_mi]) | (refine ⟨vp_in_nI (by omega) (by omega), ?_⟩) | (refine ⟨fun zc => ?_, fun zc => ?_⟩ <;> try (exfalso; omega)) | fail)
        (first | exact hq f2 g2 w1 w2 (kfr_tr hF1 w3 fun j hj => ⟨hj, hj⟩) | exact ⟨by decide, hq f2 g2 w1 w2 (kfr_tr hF1 w3 fun j hj => ⟨hj, hj⟩)⟩)
    · have hq := h1 fun w => hx w.1
      repeat' (first | (refine kr_nhx hM1 ho h10 hx ?_) | (refine ky_ok_stp rfl ?_; simp (disch := first | omega | assumption) only [ky_stp, ky_inv, ky_ldi, ky_ldl, ky_ldd, ky_lda, ky_cl2, ky_st1, ky_st2, ky_s1i, ky_s2i, ky_s1l, ky_s2l, ky_sli, ky_s1f, ky_s2f, ky_s1d, ky_s2d, ky_sr, ky_sai, ky_sasi, ky_sasl, ky_sasr, ky_svr, ky_sv, ky_sv2, ky_s1, ky_cs, ky_pop, ky_nth, ky_snt, ky_obj, ky_ari, ky_arl, ky_arr, ky_arn, ky_fv, ky_rcv, List.map_cons, List.map_nil, List.drop_succ_cons, List.drop_zero, Value.category, Nat.reduceAdd, Nat.reduceSub, true_and, and_true, true_or, or_true, reduceCtorEq, ite_true, ite_false, eq_self, Nat.reduceEqDiff, Nat.reduceLeDiff, nI_add, nI_1, nI_leI, nI_ltI, nI_eq, nI_clamp, kz_m1, kz_mn, kz_mn2, kz_n0, kz_0n, kz_0, kz_le0, kz_0lt, false_implies, true_implies, not_false_eq_true, not_true_eq_false, Nat.zero_le, kb_0, kz_10, kz_of, ky_sw, kz_mx, kz_mi, mh]) | (refine ⟨vp_in_nI (by omega) (by omega), ?_⟩) | (refine ⟨fun zc => ?_, fun zc => ?_⟩ <;> try (exfalso; omega)) | fail)
      intro f2 g2 w1 w2 w3
      try simp only [ky_aft, ky_vl, Nat.reduceAdd]
      repeat' (first | (refine ky_ok_stp rfl ?_; simp (disch := first | omega | assumption) only [ky_stp, ky_inv, ky_ldi, ky_ldl, ky_ldd, ky_lda, ky_cl2, ky_st1, ky_st2, ky_s1i, ky_s2i, ky_s1l, ky_s2l, ky_sli, ky_s1f, ky_s2f, ky_s1d, ky_s2d, ky_sr, ky_sai, ky_sasi, ky_sasl, ky_sasr, ky_svr, ky_sv, ky_sv2, ky_s1, ky_cs, ky_pop, ky_nth, ky_snt, ky_obj, ky_ari, ky_arl, ky_arr, ky_arn, ky_fv, ky_rcv, List.map_cons, List.map_nil, List.drop_succ_cons, List.drop_zero, Value.category, Nat.reduceAdd, Nat.reduceSub, true_and, and_true, true_or, or_true, reduceCtorEq, ite_true, ite_false, eq_self, Nat.reduceEqDiff, Nat.reduceLeDiff, nI_add, nI_1, nI_leI, nI_ltI, nI_eq, nI_clamp, kz_m1, kz_mn, kz_mn2, kz_n0, kz_0n, kz_0, kz_le0, kz_0lt, false_implies, true_implies, not_false_eq_true, not_true_eq_false, Nat.zero_le, kb_0, kz_10, kz_of, ky_sw, kz_mx, kz_mi]) | (refine ⟨vp_in_nI (by omega) (by omega), ?_⟩) | (refine ⟨fun zc => ?_, fun zc => ?_⟩ <;> try (exfalso; omega)) | fail)
      (first | exact hq f2 g2 w1 w2 (kfr_tr hF1 w3 fun j hj => ⟨hj, hj⟩) | exact ⟨by decide, hq f2 g2 w1 w2 (kfr_tr hF1 w3 fun j hj => ⟨hj, hj⟩)⟩)
  have mh := hM.2.1
  unfold kMo at mh
  refine ⟨Nat.le_of_ble_eq_true rfl, fun z => absurd z (by decide), ?_⟩; show ky_ok adK 245 0 [some (.ref (a 170)), some (.int x), some (.int y), none, none, none] [] f 0 0 _
  repeat' (first | (exact rest _ _ (kM_t0 hM) rfl (kMF_170 (kfr_up hM.1 kfr_rf rfl))) | (refine ky_ok_stp rfl ?_; simp (disch := first | omega | assumption) only [ky_stp, ky_inv, ky_ldi, ky_ldl, ky_ldd, ky_lda, ky_cl2, ky_st1, ky_st2, ky_s1i, ky_s2i, ky_s1l, ky_s2l, ky_sli, ky_s1f, ky_s2f, ky_s1d, ky_s2d, ky_sr, ky_sai, ky_sasi, ky_sasl, ky_sasr, ky_svr, ky_sv, ky_sv2, ky_s1, ky_cs, ky_pop, ky_nth, ky_snt, ky_obj, ky_ari, ky_arl, ky_arr, ky_arn, ky_fv, ky_rcv, List.map_cons, List.map_nil, List.drop_succ_cons, List.drop_zero, Value.category, Nat.reduceAdd, Nat.reduceSub, true_and, and_true, true_or, or_true, reduceCtorEq, ite_true, ite_false, eq_self, Nat.reduceEqDiff, Nat.reduceLeDiff, nI_add, nI_1, nI_leI, nI_ltI, nI_eq, nI_clamp, kz_m1, kz_mn, kz_mn2, kz_n0, kz_0n, kz_0, kz_le0, kz_0lt, false_implies, true_implies, not_false_eq_true, not_true_eq_false, Nat.zero_le, kb_0, kz_10, kz_of, ky_sw, kz_mx, kz_mi, mh]) | (refine ⟨vp_in_nI (by omega) (by omega), ?_⟩) | (refine ⟨fun zc => ?_, fun zc => ?_⟩ <;> try (exfalso; omega)) | fail)
/-- next of the first level -/
theorem kE_nx {z : kZ} (ho : kZo z) : ∀ m i, i + m = z.n → kE (kL z.R) 1 i m = kNx2 (kL z.R) 1 i m
  | 0, i, _ => rfl
  | m + 1, i, h => by
    obtain ⟨l0, l1, l6⟩ := ho.lv i (by omega)
    rw [kE, kNx2, l0]
    by_cases e : kV z.R i = 1
    · rw [e, if_neg (show ¬ (1 : Int32) < nI 1 by decide), if_pos (show nI 1 = (1 : Int32) from rfl)]
    · rw [if_pos (by show nI 1 < nI _; rw [nI_ltI (by omega) (by omega)]; omega), if_neg (by rw [show (1 : Int32) = nI 1 from rfl, nI_eq (by omega) (by omega)]; exact e)]
      exact kE_nx ho m (i + 1) (by omega)
theorem kx247 (hM : kM a f g s) (ho : kZo s.o) (hq : kMQ a f s 0 Q (nI (kLgs s.o (kCl s.o 0) 0 0) - 1)) : ky_cl adK 247 [.ref (a 170)] f Q := by
  have rest : ∀ f1 g1, kM a f1 g1 s → g1 0 = 0 → kfr a f f1 kMF → ky_ok adK 247 5 [some (.ref (a 170)), none, none] [] f1 0 0 Q := by
    intro f1 g1 hM1 h10 hF1
    obtain ⟨ha, hMo, ⟨⟨r, hr, hR⟩, hU, hV, hC, hT, hW⟩, h2, h3, h4⟩ := id hM1
    have mh := hMo
    unfold kMo at mh
    have h60 := ho.n60
    have hL := kRw_l ho hR
    have hq := hq f1 g1 hM1 h10 hF1
    have r0 := hR.1
    have hkE0 : kE (kL s.o.R) 0 0 s.o.n = s.o.n := by
      have : ∀ m i, i + m = s.o.n → kE (kL s.o.R) 0 i m = s.o.n := by
        intro m
        induction m with
        | zero => intro i hi; exact hi
        | succ m ih =>
          intro i hi
          obtain ⟨l0, l1, l6⟩ := ho.lv i (by omega)
          rw [kE, l0, if_pos (by show nI 0 < nI _; rw [nI_ltI (by omega) (by omega)]; omega)]
          exact ih (i + 1) (by omega)
      exact this _ _ (by omega)
    have hcl : kCl s.o 0 = kCh (kL s.o.R) 1 0 s.o.n [] := by
      show kCh (kL s.o.R) (0 + 1) 0 (kE (kL s.o.R) 0 0 s.o.n - 0) [] = _
      rw [hkE0]; rfl
    rw [hcl] at hq
    have loop : ∀ m k b M, s.o.n - k ≤ m → k ≤ s.o.n → b ≤ k → (b = 0 ∧ M = 0 ∨ ∃ c, b = c + 1 ∧ M = kEnd s.o c - c) → (k < s.o.n → kL s.o.R k = 1) → Q (.inl (some (.int (nI (kLgs s.o (kCh (kL s.o.R) 1 k (s.o.n - k) []) b M) - 1)))) f1 → ky_ok adK 247 9 [some (.ref (a 170)), some (.int (nI b - 1)), some (.int (nI k))] [] f1 0 0 Q := by
      intro m
      induction m with
      | zero =>
        intro k b M hm hk hb hbM hk1 hq
        obtain rfl : k = s.o.n := by omega
        rw [Nat.sub_self, kCh, kLgs] at hq
        repeat' (first | (refine kx172 hMo hr ?_; simp only [ky_aft, ky_vl, Nat.reduceAdd]) | (refine ky_ok_stp rfl ?_; simp (disch := first | omega | assumption) only [ky_stp, ky_inv, ky_ldi, ky_ldl, ky_ldd, ky_lda, ky_cl2, ky_st1, ky_st2, ky_s1i, ky_s2i, ky_s1l, ky_s2l, ky_sli, ky_s1f, ky_s2f, ky_s1d, ky_s2d, ky_sr, ky_sai, ky_sasi, ky_sasl, ky_sasr, ky_svr, ky_sv, ky_sv2, ky_s1, ky_cs, ky_pop, ky_nth, ky_snt, ky_obj, ky_ari, ky_arl, ky_arr, ky_arn, ky_fv, ky_rcv, List.map_cons, List.map_nil, List.drop_succ_cons, List.drop_zero, Value.category, Nat.reduceAdd, Nat.reduceSub, true_and, and_true, true_or, or_true, reduceCtorEq, ite_true, ite_false, eq_self, Nat.reduceEqDiff, Nat.reduceLeDiff, nI_add, nI_1, nI_leI, nI_ltI, nI_eq, nI_clamp, kz_m1, kz_mn, kz_mn2, kz_n0, kz_0n, kz_0, kz_le0, kz_0lt, false_implies, true_implies, not_false_eq_true, not_true_eq_false, Nat.zero_le, kb_0, kz_10, kz_of, ky_sw, kz_mx, kz_mi, mh, r0]) | (refine ⟨vp_in_nI (by omega) (by omega), ?_⟩) | (refine ⟨fun zc => ?_, fun zc => ?_⟩ <;> try (exfalso; omega)) | fail)
        exact hq
      | succ m ih =>
        intro k b M hm hk hb hbM hk1 hq
        by_cases hkn : k < s.o.n
        · have hE1 := kEnd_le hkn
          have hE : kE (kL s.o.R) (kL s.o.R k) (k + 1) (s.o.n - (k + 1)) = kEnd s.o k := rfl
          have hk1' := hk1 hkn
          have hEn : kEnd s.o k = kNx2 (kL s.o.R) 1 (k + 1) (s.o.n - (k + 1)) := by
            rw [← hE, hk1']; exact kE_nx ho _ _ (by omega)
          have hnx := kCh_nx (kL s.o.R) 1 (s.o.n - (k + 1)) (k + 1) []
          rw [← hEn, show k + 1 + (s.o.n - (k + 1)) = s.o.n by omega] at hnx
          have hlst : kCh (kL s.o.R) 1 k (s.o.n - k) [] = k :: kCh (kL s.o.R) 1 (kEnd s.o k) (s.o.n - kEnd s.o k) [] := by
            rw [show s.o.n - k = (s.o.n - (k + 1)) + 1 from (by clear hbM ih; omega), kCh, if_pos hk1', List.nil_append, kCh_app]
            rw [List.singleton_append]
            congr 1
            rcases hnx with ⟨n1, n2⟩ | ⟨n1, n2, n3⟩
            · rw [n2, n1, Nat.sub_self, kCh]
            · rw [n3]
              obtain ⟨d, hd⟩ : ∃ d, s.o.n - kEnd s.o k = d + 1 := ⟨s.o.n - kEnd s.o k - 1, by omega⟩
              rw [hd, kCh, if_pos n2, show s.o.n - (kEnd s.o k + 1) = d by omega]
          rw [hlst, kLgs] at hq
          have hs1 : nI (kEnd s.o k) - nI k = nI (kEnd s.o k - k) := nI_sub (by omega)
          have hk2 : kEnd s.o k < s.o.n → kL s.o.R (kEnd s.o k) = 1 := fun w => by
            rcases hnx with ⟨n1, n2⟩ | ⟨n1, n2, n3⟩
            · omega
            · exact n2
          rcases hbM with ⟨rfl, rfl⟩ | ⟨c, rfl, rfl⟩
          · rw [if_pos (by omega)] at hq
            have hi := ih (kEnd s.o k) (k + 1) _ (by omega) (by omega) (by omega) (.inr ⟨k, rfl, rfl⟩) hk2 hq
            rw [nI_pred] at hi
            rw [kz_z]
            repeat' (first | (refine kx172 hMo hr ?_; simp only [ky_aft, ky_vl, Nat.reduceAdd]) | (refine kx177 hMo hr hL hkn ?_; simp only [ky_aft, ky_vl, Nat.reduceAdd]) | (exact hi) | (refine ky_ok_stp rfl ?_; simp (disch := first | omega | assumption) only [ky_stp, ky_inv, ky_ldi, ky_ldl, ky_ldd, ky_lda, ky_cl2, ky_st1, ky_st2, ky_s1i, ky_s2i, ky_s1l, ky_s2l, ky_sli, ky_s1f, ky_s2f, ky_s1d, ky_s2d, ky_sr, ky_sai, ky_sasi, ky_sasl, ky_sasr, ky_svr, ky_sv, ky_sv2, ky_s1, ky_cs, ky_pop, ky_nth, ky_snt, ky_obj, ky_ari, ky_arl, ky_arr, ky_arn, ky_fv, ky_rcv, List.map_cons, List.map_nil, List.drop_succ_cons, List.drop_zero, Value.category, Nat.reduceAdd, Nat.reduceSub, true_and, and_true, true_or, or_true, reduceCtorEq, ite_true, ite_false, eq_self, Nat.reduceEqDiff, Nat.reduceLeDiff, nI_add, nI_1, nI_leI, nI_ltI, nI_eq, nI_clamp, kz_m1, kz_mn, kz_mn2, kz_n0, kz_0n, kz_0, kz_le0, kz_0lt, false_implies, true_implies, not_false_eq_true, not_true_eq_false, Nat.zero_le, kb_0, kz_10, kz_of, ky_sw, kz_mx, kz_mi, mh, r0, hE]) | (refine ⟨vp_in_nI (by omega) (by omega), ?_⟩) | (refine ⟨fun zc => ?_, fun zc => ?_⟩ <;> try (exfalso; omega)) | fail)
          · have hcn : c < s.o.n := by omega
            have hEc : kE (kL s.o.R) (kL s.o.R c) (c + 1) (s.o.n - (c + 1)) = kEnd s.o c := rfl
            have hc1 := kEnd_le hcn
            have hs2 : nI (kEnd s.o c) - nI c = nI (kEnd s.o c - c) := nI_sub (by omega)
            rw [nI_pred]
            by_cases e : kEnd s.o c - c < kEnd s.o k - k
            · rw [if_pos e] at hq
              have hi := ih (kEnd s.o k) (k + 1) _ (by omega) (by omega) (by omega) (.inr ⟨k, rfl, rfl⟩) hk2 hq
              rw [nI_pred] at hi
              repeat' (first | (refine kx172 hMo hr ?_; simp only [ky_aft, ky_vl, Nat.reduceAdd]) | (refine kx177 hMo hr hL hkn ?_; simp only [ky_aft, ky_vl, Nat.reduceAdd]) | (refine kx177 hMo hr hL hcn ?_; simp only [ky_aft, ky_vl, Nat.reduceAdd]) | (exact hi) | (refine ky_ok_stp rfl ?_; simp (disch := first | omega | assumption) only [ky_stp, ky_inv, ky_ldi, ky_ldl, ky_ldd, ky_lda, ky_cl2, ky_st1, ky_st2, ky_s1i, ky_s2i, ky_s1l, ky_s2l, ky_sli, ky_s1f, ky_s2f, ky_s1d, ky_s2d, ky_sr, ky_sai, ky_sasi, ky_sasl, ky_sasr, ky_svr, ky_sv, ky_sv2, ky_s1, ky_cs, ky_pop, ky_nth, ky_snt, ky_obj, ky_ari, ky_arl, ky_arr, ky_arn, ky_fv, ky_rcv, List.map_cons, List.map_nil, List.drop_succ_cons, List.drop_zero, Value.category, Nat.reduceAdd, Nat.reduceSub, true_and, and_true, true_or, or_true, reduceCtorEq, ite_true, ite_false, eq_self, Nat.reduceEqDiff, Nat.reduceLeDiff, nI_add, nI_1, nI_leI, nI_ltI, nI_eq, nI_clamp, kz_m1, kz_mn, kz_mn2, kz_n0, kz_0n, kz_0, kz_le0, kz_0lt, false_implies, true_implies, not_false_eq_true, not_true_eq_false, Nat.zero_le, kb_0, kz_10, kz_of, ky_sw, kz_mx, kz_mi, mh, r0, hE, hEc, hs1, hs2, kz_nm]) | (refine ⟨vp_in_nI (by omega) (by omega), ?_⟩) | (refine ⟨fun zc => ?_, fun zc => ?_⟩ <;> try (exfalso; omega)) | fail)
            · rw [if_neg e] at hq
              have hi := ih (kEnd s.o k) (c + 1) _ (by omega) (by omega) (by omega) (.inr ⟨c, rfl, rfl⟩) hk2 hq
              rw [nI_pred] at hi
              repeat' (first | (refine kx172 hMo hr ?_; simp only [ky_aft, ky_vl, Nat.reduceAdd]) | (refine kx177 hMo hr hL hkn ?_; simp only [ky_aft, ky_vl, Nat.reduceAdd]) | (refine kx177 hMo hr hL hcn ?_; simp only [ky_aft, ky_vl, Nat.reduceAdd]) | (exact hi) | (refine ky_ok_stp rfl ?_; simp (disch := first | omega | assumption) only [ky_stp, ky_inv, ky_ldi, ky_ldl, ky_ldd, ky_lda, ky_cl2, ky_st1, ky_st2, ky_s1i, ky_s2i, ky_s1l, ky_s2l, ky_sli, ky_s1f, ky_s2f, ky_s1d, ky_s2d, ky_sr, ky_sai, ky_sasi, ky_sasl, ky_sasr, ky_svr, ky_sv, ky_sv2, ky_s1, ky_cs, ky_pop, ky_nth, ky_snt, ky_obj, ky_ari, ky_arl, ky_arr, ky_arn, ky_fv, ky_rcv, List.map_cons, List.map_nil, List.drop_succ_cons, List.drop_zero, Value.category, Nat.reduceAdd, Nat.reduceSub, true_and, and_true, true_or, or_true, reduceCtorEq, ite_true, ite_false, eq_self, Nat.reduceEqDiff, Nat.reduceLeDiff, nI_add, nI_1, nI_leI, nI_ltI, nI_eq, nI_clamp, kz_m1, kz_mn, kz_mn2, kz_n0, kz_0n, kz_0, kz_le0, kz_0lt, false_implies, true_implies, not_false_eq_true, not_true_eq_false, Nat.zero_le, kb_0, kz_10, kz_of, ky_sw, kz_mx, kz_mi, mh, r0, hE, hEc, hs1, hs2, kz_nm]) | (refine ⟨vp_in_nI (by omega) (by omega), ?_⟩) | (refine ⟨fun zc => ?_, fun zc => ?_⟩ <;> try (exfalso; omega)) | fail)
        · obtain rfl : k = s.o.n := by omega
          rw [Nat.sub_self, kCh, kLgs] at hq
          repeat' (first | (refine kx172 hMo hr ?_; simp only [ky_aft, ky_vl, Nat.reduceAdd]) | (refine ky_ok_stp rfl ?_; simp (disch := first | omega | assumption) only [ky_stp, ky_inv, ky_ldi, ky_ldl, ky_ldd, ky_lda, ky_cl2, ky_st1, ky_st2, ky_s1i, ky_s2i, ky_s1l, ky_s2l, ky_sli, ky_s1f, ky_s2f, ky_s1d, ky_s2d, ky_sr, ky_sai, ky_sasi, ky_sasl, ky_sasr, ky_svr, ky_sv, ky_sv2, ky_s1, ky_cs, ky_pop, ky_nth, ky_snt, ky_obj, ky_ari, ky_arl, ky_arr, ky_arn, ky_fv, ky_rcv, List.map_cons, List.map_nil, List.drop_succ_cons, List.drop_zero, Value.category, Nat.reduceAdd, Nat.reduceSub, true_and, and_true, true_or, or_true, reduceCtorEq, ite_true, ite_false, eq_self, Nat.reduceEqDiff, Nat.reduceLeDiff, nI_add, nI_1, nI_leI, nI_ltI, nI_eq, nI_clamp, kz_m1, kz_mn, kz_mn2, kz_n0, kz_0n, kz_0, kz_le0, kz_0lt, false_implies, true_implies, not_false_eq_true, not_true_eq_false, Nat.zero_le, kb_0, kz_10, kz_of, ky_sw, kz_mx, kz_mi, mh, r0]) | (refine ⟨vp_in_nI (by omega) (by omega), ?_⟩) | (refine ⟨fun zc => ?_, fun zc => ?_⟩ <;> try (exfalso; omega)) | fail)
          exact hq
    have hl := loop s.o.n 0 0 0 (by omega) (Nat.zero_le _) (Nat.le_refl _) (.inl ⟨rfl, rfl⟩) (fun h => by
      obtain ⟨l0, -⟩ := ho.lv 0 h
      rw [l0, ho.l0 h]; rfl) hq
    rw [kz_z] at hl
    repeat' (first | (exact hl) | (refine ky_ok_stp rfl ?_; simp (disch := first | omega | assumption) only [ky_stp, ky_inv, ky_ldi, ky_ldl, ky_ldd, ky_lda, ky_cl2, ky_st1, ky_st2, ky_s1i, ky_s2i, ky_s1l, ky_s2l, ky_sli, ky_s1f, ky_s2f, ky_s1d, ky_s2d, ky_sr, ky_sai, ky_sasi, ky_sasl, ky_sasr, ky_svr, ky_sv, ky_sv2, ky_s1, ky_cs, ky_pop, ky_nth, ky_snt, ky_obj, ky_ari, ky_arl, ky_arr, ky_arn, ky_fv, ky_rcv, List.map_cons, List.map_nil, List.drop_succ_cons, List.drop_zero, Value.category, Nat.reduceAdd, Nat.reduceSub, true_and, and_true, true_or, or_true, reduceCtorEq, ite_true, ite_false, eq_self, Nat.reduceEqDiff, Nat.reduceLeDiff, nI_add, nI_1, nI_leI, nI_ltI, nI_eq, nI_clamp, kz_m1, kz_mn, kz_mn2, kz_n0, kz_0n, kz_0, kz_le0, kz_0lt, false_implies, true_implies, not_false_eq_true, not_true_eq_false, Nat.zero_le, kb_0, kz_10, kz_of, ky_sw, kz_mx, kz_mi, mh]) | (refine ⟨vp_in_nI (by omega) (by omega), ?_⟩) | (refine ⟨fun zc => ?_, fun zc => ?_⟩ <;> try (exfalso; omega)) | fail)
  have mh := hM.2.1
  unfold kMo at mh
  refine ⟨Nat.le_of_ble_eq_true rfl, fun z => absurd z (by decide), ?_⟩; show ky_ok adK 247 0 [some (.ref (a 170)), none, none] [] f 0 0 _
  repeat' (first | (exact rest _ _ (kM_t0 hM) rfl (kMF_170 (kfr_up hM.1 kfr_rf rfl))) | (refine ky_ok_stp rfl ?_; simp (disch := first | omega | assumption) only [ky_stp, ky_inv, ky_ldi, ky_ldl, ky_ldd, ky_lda, ky_cl2, ky_st1, ky_st2, ky_s1i, ky_s2i, ky_s1l, ky_s2l, ky_sli, ky_s1f, ky_s2f, ky_s1d, ky_s2d, ky_sr, ky_sai, ky_sasi, ky_sasl, ky_sasr, ky_svr, ky_sv, ky_sv2, ky_s1, ky_cs, ky_pop, ky_nth, ky_snt, ky_obj, ky_ari, ky_arl, ky_arr, ky_arn, ky_fv, ky_rcv, List.map_cons, List.map_nil, List.drop_succ_cons, List.drop_zero, Value.category, Nat.reduceAdd, Nat.reduceSub, true_and, and_true, true_or, or_true, reduceCtorEq, ite_true, ite_false, eq_self, Nat.reduceEqDiff, Nat.reduceLeDiff, nI_add, nI_1, nI_leI, nI_ltI, nI_eq, nI_clamp, kz_m1, kz_mn, kz_mn2, kz_n0, kz_0n, kz_0, kz_le0, kz_0lt, false_implies, true_implies, not_false_eq_true, not_true_eq_false, Nat.zero_le, kb_0, kz_10, kz_of, ky_sw, kz_mx, kz_mi, mh]) | (refine ⟨vp_in_nI (by omega) (by omega), ?_⟩) | (refine ⟨fun zc => ?_, fun zc => ?_⟩ <;> try (exfalso; omega)) | fail)
end KXM
