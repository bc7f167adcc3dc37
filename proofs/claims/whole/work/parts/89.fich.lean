/-! ## the reference: find, the cheapest move -/
/-- the cheapest so far, place by place -/
noncomputable def kCgm (z : kZ) (p l : Nat) : Nat → Nat × Nat
  | 0 => (0, 61)
  | m + 1 => kCg z p l (m / 4) (m % 4) (kCgm z p l m)
theorem kCgm_4 (z : kZ) (p l t : Nat) : kCgm z p l (4 * (t + 1)) = kCgi z p l t 4 0 (kCgm z p l (4 * t)) := by
  rw [show 4 * (t + 1) = 4 * t + 3 + 1 by omega, kCgm, kCgm, kCgm, kCgm]
  rw [show (4 * t + 3) / 4 = t by omega, show (4 * t + 3) % 4 = 3 by omega, show (4 * t + 2) / 4 = t by omega, show (4 * t + 2) % 4 = 2 by omega, show (4 * t + 1) / 4 = t by omega, show (4 * t + 1) % 4 = 1 by omega, show (4 * t) / 4 = t by omega, show (4 * t) % 4 = 0 by omega]
  rfl
theorem kCgo_m (z : kZ) (p l : Nat) : ∀ m t, kCgo z p l m t (kCgm z p l (4 * t)) = kCgm z p l (4 * (t + m))
  | 0, t => rfl
  | m + 1, t => by
    rw [kCgo, ← kCgm_4, kCgo_m z p l m (t + 1), show t + 1 + m = t + (m + 1) by omega]
section KXM
variable {adK a : Nat → Nat} {f : ky_H} {Q : ky_Q} {g r B : Nat → Int32} {s : kSt} {p w n l i j t e m : Nat} {x y v b : Int32} {z : kZ}
theorem kM_b0 {f' : ky_H} {g' : Nat → Int32} (h : kM a f g s) (h0 : kMo a f' g') (h3 : g' 3 = 0) (hg : ∀ j, j = 1 ∨ j = 8 ∨ j = 9 ∨ j = 12 → g' j = g j) (hF : kfr a f f' (fun j => j = 170)) : kM a f' g' (s.setB 0 s.bc) := by
  obtain ⟨ha, _, ⟨⟨r, h1, h2⟩, ⟨U, h3', h4⟩, ⟨V, B, h5, h6, h7⟩, ⟨C, h8', h9'⟩, ⟨T', h10, h11⟩, ⟨W, h12, h13⟩⟩, ⟨q1, q2, q3, q4, q5, q6, q7, q8, q9⟩, k3, k4⟩ := h
  exact ⟨ha, h0, ⟨⟨r, (hF 171 (by omega)).trans h1, h2⟩, ⟨U, (hF 174 (by omega)).trans h3', h4⟩, ⟨V, B, (hF 175 (by omega)).trans h5, (hF 176 (by omega)).trans h6, h7⟩, ⟨C, (hF 177 (by omega)).trans h8', h9'⟩, ⟨T', (hF 182 (by omega)).trans h10, fun i hi => absurd hi (Nat.not_lt_zero i)⟩, ⟨W, (hF 186 (by omega)).trans h12, h13⟩⟩, ⟨kar_fr q1 (hF 172 (by omega)), kar_fr q2 (hF 173 (by omega)), kar_fr q3 (hF 178 (by omega)), kar_fr q4 (hF 179 (by omega)), kar_fr q5 (hF 180 (by omega)), kar_fr q6 (hF 181 (by omega)), kar_fr q7 (hF 183 (by omega)), kar_fr q8 (hF 184 (by omega)), kar_fr q9 (hF 185 (by omega))⟩, ⟨(hg 1 (by omega)).trans k3.1, h3, (hg 8 (by omega)).trans k3.2.2.1, (hg 9 (by omega)).trans k3.2.2.2.1, (hg 12 (by omega)).trans k3.2.2.2.2⟩, ⟨k4.1, Nat.zero_le _, fun i hi => absurd hi (Nat.not_lt_zero i), k4.2.2.2⟩⟩
theorem kx227 (hM : kM a f g s) (ho : kZo s.o) (hb : k01 b) (hQ : kMQ a f (s.setB 0 s.bc) 0 Q (if s.bl = 0 then -1 else nI (kFnd s b) - 1)) : ky_cl adK 227 [.ref (a 170), .int b] f Q := by
  have rest : ∀ f1 g1, kM a f1 g1 s → g1 0 = 0 → kfr a f f1 kMF → ky_ok adK 227 5 [some (.ref (a 170)), some (.int b), none, none] [] f1 0 0 Q := by
    intro f1 g1 hM1 h10 hF1
    obtain ⟨ha, hMo, ⟨⟨r, hr, hR⟩, hU, hV, hC, hT, hW⟩, h2, h3, h4⟩ := id hM1
    have mh := hMo
    unfold kMo at mh
    have h60 := ho.n60
    have hL := kRw_l ho hR
    repeat' (first | (refine kx195m hM1 ho ?_) | (refine ky_ok_stp rfl ?_; simp (disch := first | omega | assumption) only [ky_stp, ky_inv, ky_ldi, ky_ldl, ky_ldd, ky_lda, ky_cl2, ky_st1, ky_st2, ky_s1i, ky_s2i, ky_s1l, ky_s2l, ky_sli, ky_s1f, ky_s2f, ky_s1d, ky_s2d, ky_sr, ky_sai, ky_sasi, ky_sasl, ky_sasr, ky_svr, ky_sv, ky_sv2, ky_s1, ky_cs, ky_pop, ky_nth, ky_snt, ky_obj, ky_ari, ky_arl, ky_arr, ky_arn, ky_fv, ky_rcv, List.map_cons, List.map_nil, List.drop_succ_cons, List.drop_zero, Value.category, Nat.reduceAdd, Nat.reduceSub, true_and, and_true, true_or, or_true, reduceCtorEq, ite_true, ite_false, eq_self, Nat.reduceEqDiff, Nat.reduceLeDiff, nI_add, nI_1, nI_leI, nI_ltI, nI_eq, nI_clamp, kz_m1, kz_mn, kz_mn2, kz_n0, kz_0n, kz_0, kz_le0, kz_0lt, false_implies, true_implies, not_false_eq_true, not_true_eq_false, Nat.zero_le, kb_0, kz_10, kz_of, ky_sw, kz_mx, kz_mi, mh]) | (refine ⟨vp_in_nI (by omega) (by omega), ?_⟩) | (refine ⟨fun zc => ?_, fun zc => ?_⟩ <;> try (exfalso; omega)) | fail)
    intro f2 g2 hM2 w2 w3 w4
    (try simp only [ky_aft, ky_vl, Nat.reduceAdd])
    obtain ⟨ha, hMo, ⟨⟨r, hr, hR⟩, -⟩, h2, h3, h4⟩ := id hM2
    have mh := hMo
    unfold kMo at mh
    have r0 := hR.1
    have hMt := kM_mt hM2
    have g3 := h3.2.1
    have hbl := h4.2.1
    have hF2 := kfr_tr (T := kMF) hF1 w4 fun j hj => ⟨hj, hj⟩
    have fin : ∀ v k, v = (if s.bl = 0 then -1 else nI (kFnd s b) - 1) → ky_ok adK 227 64 [some (.ref (a 170)), some (.int b), some (.int v), k] [] f2 0 0 Q := by
      rintro v k rfl
      repeat' (first | (refine ky_ok_stp rfl ?_; simp (disch := first | omega | assumption) only [ky_stp, ky_inv, ky_ldi, ky_ldl, ky_ldd, ky_lda, ky_cl2, ky_st1, ky_st2, ky_s1i, ky_s2i, ky_s1l, ky_s2l, ky_sli, ky_s1f, ky_s2f, ky_s1d, ky_s2d, ky_sr, ky_sai, ky_sasi, ky_sasl, ky_sasr, ky_svr, ky_sv, ky_sv2, ky_s1, ky_cs, ky_pop, ky_nth, ky_snt, ky_obj, ky_ari, ky_arl, ky_arr, ky_arn, ky_fv, ky_rcv, List.map_cons, List.map_nil, List.drop_succ_cons, List.drop_zero, Value.category, Nat.reduceAdd, Nat.reduceSub, true_and, and_true, true_or, or_true, reduceCtorEq, ite_true, ite_false, eq_self, Nat.reduceEqDiff, Nat.reduceLeDiff, nI_add, nI_1, nI_leI, nI_ltI, nI_eq, nI_clamp, kz_m1, kz_mn, kz_mn2, kz_n0, kz_0n, kz_0, kz_le0, kz_0lt, false_implies, true_implies, not_false_eq_true, not_true_eq_false, Nat.zero_le, kb_0, kz_10, kz_of, ky_sw, kz_mx, kz_mi, mh]) | (refine ⟨vp_in_nI (by omega) (by omega), ?_⟩) | (refine ⟨fun zc => ?_, fun zc => ?_⟩ <;> try (exfalso; omega)) | fail)
      exact hQ _ (upd g2 3 0) (kM_b0 hM2 (by unfold kMo; rw [kz_same]; rfl) rfl (fun j hj => pk_un (by omega)) (kfr_up ha kfr_rf rfl)) ((w2 0 (by decide)).trans h10) (kfr_tr hF2 (kfr_up (S := fun j => j = 170) ha kfr_rf rfl) fun j hj => ⟨hj, fun w => hj (by unfold kMF; omega)⟩)
    by_cases h0 : s.bl = 0
    · have hf := fun k => fin (-1) k (by rw [if_pos h0])
      by_cases hn0 : s.o.n = 0
      · repeat' (first | (exact hf _) | (refine kx172 hMo hr ?_; simp only [ky_aft, ky_vl, Nat.reduceAdd]) | (refine ky_ok_stp rfl ?_; simp (disch := first | omega | assumption) only [ky_stp, ky_inv, ky_ldi, ky_ldl, ky_ldd, ky_lda, ky_cl2, ky_st1, ky_st2, ky_s1i, ky_s2i, ky_s1l, ky_s2l, ky_sli, ky_s1f, ky_s2f, ky_s1d, ky_s2d, ky_sr, ky_sai, ky_sasi, ky_sasl, ky_sasr, ky_svr, ky_sv, ky_sv2, ky_s1, ky_cs, ky_pop, ky_nth, ky_snt, ky_obj, ky_ari, ky_arl, ky_arr, ky_arn, ky_fv, ky_rcv, List.map_cons, List.map_nil, List.drop_succ_cons, List.drop_zero, Value.category, Nat.reduceAdd, Nat.reduceSub, true_and, and_true, true_or, or_true, reduceCtorEq, ite_true, ite_false, eq_self, Nat.reduceEqDiff, Nat.reduceLeDiff, nI_add, nI_1, nI_leI, nI_ltI, nI_eq, nI_clamp, kz_m1, kz_mn, kz_mn2, kz_n0, kz_0n, kz_0, kz_le0, kz_0lt, false_implies, true_implies, not_false_eq_true, not_true_eq_false, Nat.zero_le, kb_0, kz_10, kz_of, ky_sw, kz_mx, kz_mi, mh, r0, hn0, kz_z]) | (refine ⟨vp_in_nI (by omega) (by omega), ?_⟩) | (refine ⟨fun zc => ?_, fun zc => ?_⟩ <;> try (exfalso; omega)) | fail)
      · have e1 : nI s.o.n - 1 = nI (s.o.n - 1) := by rw [show (1 : Int32) = nI 1 from rfl]; exact nI_sub (by omega)
        repeat' (first | (exact hf _) | (refine kx172 hMo hr ?_; simp only [ky_aft, ky_vl, Nat.reduceAdd]) | (refine ky_ok_stp rfl ?_; simp (disch := first | omega | assumption) only [ky_stp, ky_inv, ky_ldi, ky_ldl, ky_ldd, ky_lda, ky_cl2, ky_st1, ky_st2, ky_s1i, ky_s2i, ky_s1l, ky_s2l, ky_sli, ky_s1f, ky_s2f, ky_s1d, ky_s2d, ky_sr, ky_sai, ky_sasi, ky_sasl, ky_sasr, ky_svr, ky_sv, ky_sv2, ky_s1, ky_cs, ky_pop, ky_nth, ky_snt, ky_obj, ky_ari, ky_arl, ky_arr, ky_arn, ky_fv, ky_rcv, List.map_cons, List.map_nil, List.drop_succ_cons, List.drop_zero, Value.category, Nat.reduceAdd, Nat.reduceSub, true_and, and_true, true_or, or_true, reduceCtorEq, ite_true, ite_false, eq_self, Nat.reduceEqDiff, Nat.reduceLeDiff, nI_add, nI_1, nI_leI, nI_ltI, nI_eq, nI_clamp, kz_m1, kz_mn, kz_mn2, kz_n0, kz_0n, kz_0, kz_le0, kz_0lt, false_implies, true_implies, not_false_eq_true, not_true_eq_false, Nat.zero_le, kb_0, kz_10, kz_of, ky_sw, kz_mx, kz_mi, mh, r0, g3, h0, e1]) | (refine ⟨vp_in_nI (by omega) (by omega), ?_⟩) | (refine ⟨fun zc => ?_, fun zc => ?_⟩ <;> try (exfalso; omega)) | fail)
    rw [if_neg h0] at fin
    have hbl0 : ¬ s.bl ≤ 0 := by omega
    have lp : ∀ j, j ≤ s.o.n → ky_ok adK 227 18 [some (.ref (a 170)), some (.int b), some (.int (nI (kFf (fun i => kLk (kXf s.o b i) s.bl s.bc) j (s.o.n - j)) - 1)), some (.int (nI j - 1))] [] f2 0 0 Q := by
      intro j
      induction j with
      | zero =>
        intro hj
        have hf := fun k => fin (nI (kFnd s b) - 1) k rfl
        rw [kz_z]
        repeat' (first | (exact hf _) | (refine ky_ok_stp rfl ?_; simp (disch := first | omega | assumption) only [ky_stp, ky_inv, ky_ldi, ky_ldl, ky_ldd, ky_lda, ky_cl2, ky_st1, ky_st2, ky_s1i, ky_s2i, ky_s1l, ky_s2l, ky_sli, ky_s1f, ky_s2f, ky_s1d, ky_s2d, ky_sr, ky_sai, ky_sasi, ky_sasl, ky_sasr, ky_svr, ky_sv, ky_sv2, ky_s1, ky_cs, ky_pop, ky_nth, ky_snt, ky_obj, ky_ari, ky_arl, ky_arr, ky_arn, ky_fv, ky_rcv, List.map_cons, List.map_nil, List.drop_succ_cons, List.drop_zero, Value.category, Nat.reduceAdd, Nat.reduceSub, true_and, and_true, true_or, or_true, reduceCtorEq, ite_true, ite_false, eq_self, Nat.reduceEqDiff, Nat.reduceLeDiff, nI_add, nI_1, nI_leI, nI_ltI, nI_eq, nI_clamp, kz_m1, kz_mn, kz_mn2, kz_n0, kz_0n, kz_0, kz_le0, kz_0lt, false_implies, true_implies, not_false_eq_true, not_true_eq_false, Nat.zero_le, kb_0, kz_10, kz_of, ky_sw, kz_mx, kz_mi, mh]) | (refine ⟨vp_in_nI (by omega) (by omega), ?_⟩) | (refine ⟨fun zc => ?_, fun zc => ?_⟩ <;> try (exfalso; omega)) | fail)
      | succ j ih =>
        intro hj
        have hi := ih (by omega)
        have hjn : j < s.o.n := by omega
        rw [show s.o.n - j = s.o.n - (j + 1) + 1 by omega] at hi
        obtain ⟨hWd, n3, n4⟩ := kRw_w hR hjn
        have em : nI j + -1 = nI j - 1 := (Int32.sub_eq_add_neg _ _).symm
        rw [nI_pred]
        by_cases hk : kLk (kXf s.o b j) s.bl s.bc
        · rw [kFf_s1 hk, nI_pred] at hi
          rcases hb with rfl | rfl
          · have hk2 : kLk (kWo (kN s.o.R j)) s.bl s.bc := hk
            repeat' (first | ((refine kx225 hMt hr (show j < 60 by omega) hWd n3 n4 (fun _ => ?_) (fun w => absurd hk2 w); simp only [ky_aft, ky_vl, Nat.reduceAdd])) | (exact hi) | (refine ky_ok_stp rfl ?_; simp (disch := first | omega | assumption) only [ky_stp, ky_inv, ky_ldi, ky_ldl, ky_ldd, ky_lda, ky_cl2, ky_st1, ky_st2, ky_s1i, ky_s2i, ky_s1l, ky_s2l, ky_sli, ky_s1f, ky_s2f, ky_s1d, ky_s2d, ky_sr, ky_sai, ky_sasi, ky_sasl, ky_sasr, ky_svr, ky_sv, ky_sv2, ky_s1, ky_cs, ky_pop, ky_nth, ky_snt, ky_obj, ky_ari, ky_arl, ky_arr, ky_arn, ky_fv, ky_rcv, List.map_cons, List.map_nil, List.drop_succ_cons, List.drop_zero, Value.category, Nat.reduceAdd, Nat.reduceSub, true_and, and_true, true_or, or_true, reduceCtorEq, ite_true, ite_false, eq_self, Nat.reduceEqDiff, Nat.reduceLeDiff, nI_add, nI_1, nI_leI, nI_ltI, nI_eq, nI_clamp, kz_m1, kz_mn, kz_mn2, kz_n0, kz_0n, kz_0, kz_le0, kz_0lt, false_implies, true_implies, not_false_eq_true, not_true_eq_false, Nat.zero_le, kb_0, kz_10, kz_of, ky_sw, kz_mx, kz_mi, mh, g3, kz_0, eq_false h0, eq_false hbl0, em]) | (refine ⟨vp_in_nI (by omega) (by omega), ?_⟩) | (refine ⟨fun zc => ?_, fun zc => ?_⟩ <;> try (exfalso; omega)) | fail)
          · have hk2 : kLk (kNO s.o j) s.bl s.bc := hk
            repeat' (first | ((refine kx226 hMt ho w3 hjn (fun _ => ?_) (fun w => absurd hk2 w); simp only [ky_aft, ky_vl, Nat.reduceAdd])) | (exact hi) | (refine ky_ok_stp rfl ?_; simp (disch := first | omega | assumption) only [ky_stp, ky_inv, ky_ldi, ky_ldl, ky_ldd, ky_lda, ky_cl2, ky_st1, ky_st2, ky_s1i, ky_s2i, ky_s1l, ky_s2l, ky_sli, ky_s1f, ky_s2f, ky_s1d, ky_s2d, ky_sr, ky_sai, ky_sasi, ky_sasl, ky_sasr, ky_svr, ky_sv, ky_sv2, ky_s1, ky_cs, ky_pop, ky_nth, ky_snt, ky_obj, ky_ari, ky_arl, ky_arr, ky_arn, ky_fv, ky_rcv, List.map_cons, List.map_nil, List.drop_succ_cons, List.drop_zero, Value.category, Nat.reduceAdd, Nat.reduceSub, true_and, and_true, true_or, or_true, reduceCtorEq, ite_true, ite_false, eq_self, Nat.reduceEqDiff, Nat.reduceLeDiff, nI_add, nI_1, nI_leI, nI_ltI, nI_eq, nI_clamp, kz_m1, kz_mn, kz_mn2, kz_n0, kz_0n, kz_0, kz_le0, kz_0lt, false_implies, true_implies, not_false_eq_true, not_true_eq_false, Nat.zero_le, kb_0, kz_10, kz_of, ky_sw, kz_mx, kz_mi, mh, g3, kz_0, eq_false h0, eq_false hbl0, em]) | (refine ⟨vp_in_nI (by omega) (by omega), ?_⟩) | (refine ⟨fun zc => ?_, fun zc => ?_⟩ <;> try (exfalso; omega)) | fail)
        · rw [kFf_s0 hk] at hi
          rcases hb with rfl | rfl
          · have hk2 : ¬ kLk (kWo (kN s.o.R j)) s.bl s.bc := hk
            repeat' (first | ((refine kx225 hMt hr (show j < 60 by omega) hWd n3 n4 (fun w => absurd w hk2) (fun _ => ?_); simp only [ky_aft, ky_vl, Nat.reduceAdd])) | (exact hi) | (refine ky_ok_stp rfl ?_; simp (disch := first | omega | assumption) only [ky_stp, ky_inv, ky_ldi, ky_ldl, ky_ldd, ky_lda, ky_cl2, ky_st1, ky_st2, ky_s1i, ky_s2i, ky_s1l, ky_s2l, ky_sli, ky_s1f, ky_s2f, ky_s1d, ky_s2d, ky_sr, ky_sai, ky_sasi, ky_sasl, ky_sasr, ky_svr, ky_sv, ky_sv2, ky_s1, ky_cs, ky_pop, ky_nth, ky_snt, ky_obj, ky_ari, ky_arl, ky_arr, ky_arn, ky_fv, ky_rcv, List.map_cons, List.map_nil, List.drop_succ_cons, List.drop_zero, Value.category, Nat.reduceAdd, Nat.reduceSub, true_and, and_true, true_or, or_true, reduceCtorEq, ite_true, ite_false, eq_self, Nat.reduceEqDiff, Nat.reduceLeDiff, nI_add, nI_1, nI_leI, nI_ltI, nI_eq, nI_clamp, kz_m1, kz_mn, kz_mn2, kz_n0, kz_0n, kz_0, kz_le0, kz_0lt, false_implies, true_implies, not_false_eq_true, not_true_eq_false, Nat.zero_le, kb_0, kz_10, kz_of, ky_sw, kz_mx, kz_mi, mh, g3, kz_0, eq_false h0, eq_false hbl0, em]) | (refine ⟨vp_in_nI (by omega) (by omega), ?_⟩) | (refine ⟨fun zc => ?_, fun zc => ?_⟩ <;> try (exfalso; omega)) | fail)
          · have hk2 : ¬ kLk (kNO s.o j) s.bl s.bc := hk
            repeat' (first | ((refine kx226 hMt ho w3 hjn (fun w => absurd w hk2) (fun _ => ?_); simp only [ky_aft, ky_vl, Nat.reduceAdd])) | (exact hi) | (refine ky_ok_stp rfl ?_; simp (disch := first | omega | assumption) only [ky_stp, ky_inv, ky_ldi, ky_ldl, ky_ldd, ky_lda, ky_cl2, ky_st1, ky_st2, ky_s1i, ky_s2i, ky_s1l, ky_s2l, ky_sli, ky_s1f, ky_s2f, ky_s1d, ky_s2d, ky_sr, ky_sai, ky_sasi, ky_sasl, ky_sasr, ky_svr, ky_sv, ky_sv2, ky_s1, ky_cs, ky_pop, ky_nth, ky_snt, ky_obj, ky_ari, ky_arl, ky_arr, ky_arn, ky_fv, ky_rcv, List.map_cons, List.map_nil, List.drop_succ_cons, List.drop_zero, Value.category, Nat.reduceAdd, Nat.reduceSub, true_and, and_true, true_or, or_true, reduceCtorEq, ite_true, ite_false, eq_self, Nat.reduceEqDiff, Nat.reduceLeDiff, nI_add, nI_1, nI_leI, nI_ltI, nI_eq, nI_clamp, kz_m1, kz_mn, kz_mn2, kz_n0, kz_0n, kz_0, kz_le0, kz_0lt, false_implies, true_implies, not_false_eq_true, not_true_eq_false, Nat.zero_le, kb_0, kz_10, kz_of, ky_sw, kz_mx, kz_mi, mh, g3, kz_0, eq_false h0, eq_false hbl0, em]) | (refine ⟨vp_in_nI (by omega) (by omega), ?_⟩) | (refine ⟨fun zc => ?_, fun zc => ?_⟩ <;> try (exfalso; omega)) | fail)
    have hl := lp s.o.n (Nat.le_refl _)
    rw [Nat.sub_self, kFf, kz_z] at hl
    repeat' (first | (exact hl) | (refine kx172 hMo hr ?_; simp only [ky_aft, ky_vl, Nat.reduceAdd]) | (refine ky_ok_stp rfl ?_; simp (disch := first | omega | assumption) only [ky_stp, ky_inv, ky_ldi, ky_ldl, ky_ldd, ky_lda, ky_cl2, ky_st1, ky_st2, ky_s1i, ky_s2i, ky_s1l, ky_s2l, ky_sli, ky_s1f, ky_s2f, ky_s1d, ky_s2d, ky_sr, ky_sai, ky_sasi, ky_sasl, ky_sasr, ky_svr, ky_sv, ky_sv2, ky_s1, ky_cs, ky_pop, ky_nth, ky_snt, ky_obj, ky_ari, ky_arl, ky_arr, ky_arn, ky_fv, ky_rcv, List.map_cons, List.map_nil, List.drop_succ_cons, List.drop_zero, Value.category, Nat.reduceAdd, Nat.reduceSub, true_and, and_true, true_or, or_true, reduceCtorEq, ite_true, ite_false, eq_self, Nat.reduceEqDiff, Nat.reduceLeDiff, nI_add, nI_1, nI_leI, nI_ltI, nI_eq, nI_clamp, kz_m1, kz_mn, kz_mn2, kz_n0, kz_0n, kz_0, kz_le0, kz_0lt, false_implies, true_implies, not_false_eq_true, not_true_eq_false, Nat.zero_le, kb_0, kz_10, kz_of, ky_sw, kz_mx, kz_mi, mh, r0]) | (refine ⟨vp_in_nI (by omega) (by omega), ?_⟩) | (refine ⟨fun zc => ?_, fun zc => ?_⟩ <;> try (exfalso; omega)) | fail)
  have mh := hM.2.1
  unfold kMo at mh
  refine ⟨Nat.le_of_ble_eq_true rfl, fun z => absurd z (by decide), ?_⟩; show ky_ok adK 227 0 [some (.ref (a 170)), some (.int b), none, none] [] f 0 0 _
  repeat' (first | (exact rest _ _ (kM_t0 hM) rfl (kMF_170 (kfr_up hM.1 kfr_rf rfl))) | (refine ky_ok_stp rfl ?_; simp (disch := first | omega | assumption) only [ky_stp, ky_inv, ky_ldi, ky_ldl, ky_ldd, ky_lda, ky_cl2, ky_st1, ky_st2, ky_s1i, ky_s2i, ky_s1l, ky_s2l, ky_sli, ky_s1f, ky_s2f, ky_s1d, ky_s2d, ky_sr, ky_sai, ky_sasi, ky_sasl, ky_sasr, ky_svr, ky_sv, ky_sv2, ky_s1, ky_cs, ky_pop, ky_nth, ky_snt, ky_obj, ky_ari, ky_arl, ky_arr, ky_arn, ky_fv, ky_rcv, List.map_cons, List.map_nil, List.drop_succ_cons, List.drop_zero, Value.category, Nat.reduceAdd, Nat.reduceSub, true_and, and_true, true_or, or_true, reduceCtorEq, ite_true, ite_false, eq_self, Nat.reduceEqDiff, Nat.reduceLeDiff, nI_add, nI_1, nI_leI, nI_ltI, nI_eq, nI_clamp, kz_m1, kz_mn, kz_mn2, kz_n0, kz_0n, kz_0, kz_le0, kz_0lt, false_implies, true_implies, not_false_eq_true, not_true_eq_false, Nat.zero_le, kb_0, kz_10, kz_of, ky_sw, kz_mx, kz_mi, mh]) | (refine ⟨vp_in_nI (by omega) (by omega), ?_⟩) | (refine ⟨fun zc => ?_, fun zc => ?_⟩ <;> try (exfalso; omega)) | fail)
theorem kx262 (hM : kM a f g s) (ho : kZo s.o) (hy : ∀ p l, p < s.o.n → 1 ≤ l → l ≤ 6 → x = nI p → y = nI l → kMQ a f s 0 Q (nI (kCgo s.o p l s.o.n 0 (0, 61)).1 - 1)) (h1 : ¬ (kHas s.o.n x ∧ kLvl y) → kMQ a f s 1 Q 0) : ky_cl adK 262 [.ref (a 170), .int x, .int y] f Q := by
  have rest : ∀ f1 g1, kM a f1 g1 s → g1 0 = 0 → kfr a f f1 kMF → ky_ok adK 262 5 [some (.ref (a 170)), some (.int x), some (.int y), none, none, none, none] [] f1 0 0 Q := by
    intro f1 g1 hM1 h10 hF1
    obtain ⟨ha, hMo, ⟨⟨r, hr, hR⟩, hU, hV, hC, hT, hW⟩, h2, h3, h4⟩ := id hM1
    have mh := hMo
    unfold kMo at mh
    have h60 := ho.n60
    have hL := kRw_l ho hR
    by_cases hx : kHas s.o.n x
    case neg =>
      have hq := h1 fun w => hx w.1
      repeat' (first | (refine kr_nhx hM1 ho h10 hx ?_) | (refine ky_ok_stp rfl ?_; simp (disch := first | omega | assumption) only [ky_stp, ky_inv, ky_ldi, ky_ldl, ky_ldd, ky_lda, ky_cl2, ky_st1, ky_st2, ky_s1i, ky_s2i, ky_s1l, ky_s2l, ky_sli, ky_s1f, ky_s2f, ky_s1d, ky_s2d, ky_sr, ky_sai, ky_sasi, ky_sasl, ky_sasr, ky_svr, ky_sv, ky_sv2, ky_s1, ky_cs, ky_pop, ky_nth, ky_snt, ky_obj, ky_ari, ky_arl, ky_arr, ky_arn, ky_fv, ky_rcv, List.map_cons, List.map_nil, List.drop_succ_cons, List.drop_zero, Value.category, Nat.reduceAdd, Nat.reduceSub, true_and, and_true, true_or, or_true, reduceCtorEq, ite_true, ite_false, eq_self, Nat.reduceEqDiff, Nat.reduceLeDiff, nI_add, nI_1, nI_leI, nI_ltI, nI_eq, nI_clamp, kz_m1, kz_mn, kz_mn2, kz_n0, kz_0n, kz_0, kz_le0, kz_0lt, false_implies, true_implies, not_false_eq_true, not_true_eq_false, Nat.zero_le, kb_0, kz_10, kz_of, ky_sw, kz_mx, kz_mi, mh]) | (refine ⟨vp_in_nI (by omega) (by omega), ?_⟩) | (refine ⟨fun zc => ?_, fun zc => ?_⟩ <;> try (exfalso; omega)) | fail)
      intro f2 g2 w1 w2 w3
      try simp only [ky_aft, ky_vl, Nat.reduceAdd]
      repeat' (first | (refine ky_ok_stp rfl ?_; simp (disch := first | omega | assumption) only [ky_stp, ky_inv, ky_ldi, ky_ldl, ky_ldd, ky_lda, ky_cl2, ky_st1, ky_st2, ky_s1i, ky_s2i, ky_s1l, ky_s2l, ky_sli, ky_s1f, ky_s2f, ky_s1d, ky_s2d, ky_sr, ky_sai, ky_sasi, ky_sasl, ky_sasr, ky_svr, ky_sv, ky_sv2, ky_s1, ky_cs, ky_pop, ky_nth, ky_snt, ky_obj, ky_ari, ky_arl, ky_arr, ky_arn, ky_fv, ky_rcv, List.map_cons, List.map_nil, List.drop_succ_cons, List.drop_zero, Value.category, Nat.reduceAdd, Nat.reduceSub, true_and, and_true, true_or, or_true, reduceCtorEq, ite_true, ite_false, eq_self, Nat.reduceEqDiff, Nat.reduceLeDiff, nI_add, nI_1, nI_leI, nI_ltI, nI_eq, nI_clamp, kz_m1, kz_mn, kz_mn2, kz_n0, kz_0n, kz_0, kz_le0, kz_0lt, false_implies, true_implies, not_false_eq_true, not_true_eq_false, Nat.zero_le, kb_0, kz_10, kz_of, ky_sw, kz_mx, kz_mi]) | (refine ⟨vp_in_nI (by omega) (by omega), ?_⟩) | (refine ⟨fun zc => ?_, fun zc => ?_⟩ <;> try (exfalso; omega)) | fail)
      (first | exact hq f2 g2 w1 w2 (kfr_tr hF1 w3 fun j hj => ⟨hj, hj⟩) | exact ⟨by decide, hq f2 g2 w1 w2 (kfr_tr hF1 w3 fun j hj => ⟨hj, hj⟩)⟩)
    by_cases hyy : kLvl y
    case neg =>
      have hq := h1 fun w => hyy w.2
      repeat' (first | (refine kr_nh hM1 ho h10 hx ?_; simp only [ky_aft, ky_vl, Nat.reduceAdd]) | (refine kr_nlx hM1 h10 hyy ?_) | (refine ky_ok_stp rfl ?_; simp (disch := first | omega | assumption) only [ky_stp, ky_inv, ky_ldi, ky_ldl, ky_ldd, ky_lda, ky_cl2, ky_st1, ky_st2, ky_s1i, ky_s2i, ky_s1l, ky_s2l, ky_sli, ky_s1f, ky_s2f, ky_s1d, ky_s2d, ky_sr, ky_sai, ky_sasi, ky_sasl, ky_sasr, ky_svr, ky_sv, ky_sv2, ky_s1, ky_cs, ky_pop, ky_nth, ky_snt, ky_obj, ky_ari, ky_arl, ky_arr, ky_arn, ky_fv, ky_rcv, List.map_cons, List.map_nil, List.drop_succ_cons, List.drop_zero, Value.category, Nat.reduceAdd, Nat.reduceSub, true_and, and_true, true_or, or_true, reduceCtorEq, ite_true, ite_false, eq_self, Nat.reduceEqDiff, Nat.reduceLeDiff, nI_add, nI_1, nI_leI, nI_ltI, nI_eq, nI_clamp, kz_m1, kz_mn, kz_mn2, kz_n0, kz_0n, kz_0, kz_le0, kz_0lt, false_implies, true_implies, not_false_eq_true, not_true_eq_false, Nat.zero_le, kb_0, kz_10, kz_of, ky_sw, kz_mx, kz_mi, mh]) | (refine ⟨vp_in_nI (by omega) (by omega), ?_⟩) | (refine ⟨fun zc => ?_, fun zc => ?_⟩ <;> try (exfalso; omega)) | fail)
      intro f2 g2 w1 w2 w3
      try simp only [ky_aft, ky_vl, Nat.reduceAdd]
      repeat' (first | (refine ky_ok_stp rfl ?_; simp (disch := first | omega | assumption) only [ky_stp, ky_inv, ky_ldi, ky_ldl, ky_ldd, ky_lda, ky_cl2, ky_st1, ky_st2, ky_s1i, ky_s2i, ky_s1l, ky_s2l, ky_sli, ky_s1f, ky_s2f, ky_s1d, ky_s2d, ky_sr, ky_sai, ky_sasi, ky_sasl, ky_sasr, ky_svr, ky_sv, ky_sv2, ky_s1, ky_cs, ky_pop, ky_nth, ky_snt, ky_obj, ky_ari, ky_arl, ky_arr, ky_arn, ky_fv, ky_rcv, List.map_cons, List.map_nil, List.drop_succ_cons, List.drop_zero, Value.category, Nat.reduceAdd, Nat.reduceSub, true_and, and_true, true_or, or_true, reduceCtorEq, ite_true, ite_false, eq_self, Nat.reduceEqDiff, Nat.reduceLeDiff, nI_add, nI_1, nI_leI, nI_ltI, nI_eq, nI_clamp, kz_m1, kz_mn, kz_mn2, kz_n0, kz_0n, kz_0, kz_le0, kz_0lt, false_implies, true_implies, not_false_eq_true, not_true_eq_false, Nat.zero_le, kb_0, kz_10, kz_of, ky_sw, kz_mx, kz_mi]) | (refine ⟨vp_in_nI (by omega) (by omega), ?_⟩) | (refine ⟨fun zc => ?_, fun zc => ?_⟩ <;> try (exfalso; omega)) | fail)
      (first | exact hq f2 g2 w1 w2 (kfr_tr hF1 w3 fun j hj => ⟨hj, hj⟩) | exact ⟨by decide, hq f2 g2 w1 w2 (kfr_tr hF1 w3 fun j hj => ⟨hj, hj⟩)⟩)
    obtain ⟨p, hp, rfl⟩ := id hx
    obtain ⟨l, l1, l6, rfl⟩ := id hyy
    have hq := hy p l hp l1 l6 rfl rfl
    rw [show kCgo s.o p l s.o.n 0 (0, 61) = kCgm s.o p l (4 * s.o.n) from (kCgo_m s.o p l s.o.n 0).trans (by rw [Nat.zero_add])] at hq
    repeat' (first | (refine kr_nh hM1 ho h10 hx ?_; simp only [ky_aft, ky_vl, Nat.reduceAdd]) | (refine kr_nl hM1 h10 hyy ?_; simp only [ky_aft, ky_vl, Nat.reduceAdd]) | (refine kx260 hM1 ho ?_) | (refine ky_ok_stp rfl ?_; simp (disch := first | omega | assumption) only [ky_stp, ky_inv, ky_ldi, ky_ldl, ky_ldd, ky_lda, ky_cl2, ky_st1, ky_st2, ky_s1i, ky_s2i, ky_s1l, ky_s2l, ky_sli, ky_s1f, ky_s2f, ky_s1d, ky_s2d, ky_sr, ky_sai, ky_sasi, ky_sasl, ky_sasr, ky_svr, ky_sv, ky_sv2, ky_s1, ky_cs, ky_pop, ky_nth, ky_snt, ky_obj, ky_ari, ky_arl, ky_arr, ky_arn, ky_fv, ky_rcv, List.map_cons, List.map_nil, List.drop_succ_cons, List.drop_zero, Value.category, Nat.reduceAdd, Nat.reduceSub, true_and, and_true, true_or, or_true, reduceCtorEq, ite_true, ite_false, eq_self, Nat.reduceEqDiff, Nat.reduceLeDiff, nI_add, nI_1, nI_leI, nI_ltI, nI_eq, nI_clamp, kz_m1, kz_mn, kz_mn2, kz_n0, kz_0n, kz_0, kz_le0, kz_0lt, false_implies, true_implies, not_false_eq_true, not_true_eq_false, Nat.zero_le, kb_0, kz_10, kz_of, ky_sw, kz_mx, kz_mi, mh]) | (refine ⟨vp_in_nI (by omega) (by omega), ?_⟩) | (refine ⟨fun zc => ?_, fun zc => ?_⟩ <;> try (exfalso; omega)) | fail)
    intro f2 g2 hM2 w2 w3 w4
    (try simp only [ky_aft, ky_vl, Nat.reduceAdd])
    have z4 : ((4 : Int32) = 0) = False := by decide
    have e4n : (4 : Int32) * nI s.o.n = nI (4 * s.o.n) := by rw [show (4 : Int32) = nI 4 from rfl, nI_mul]
    have lp : ∀ d m f3 g3 b c its v, m + d = 4 * s.o.n → kCgm s.o p l m = (b, c) → b ≤ 1000 → (b = 0 ∧ c = 61 ∨ b ≠ 0 ∧ its = nI c ∧ c ≤ 60) → kM a f3 g3 s → g3 0 = 0 → kLo a f3 s.o s.o.n → kfr a f f3 kMF → ky_ok adK 262 35 [some (.ref (a 170)), some (.int (nI p)), some (.int (nI l)), some (.int (nI b - 1)), some (.int its), some (.int (nI m)), v] [] f3 0 0 Q := by
      intro d
      induction d with
      | zero =>
        intro m f3 g3 b c its v hm hC hb hbc hM3 h30 hlo hF3
        obtain ⟨-, hMo3, ⟨⟨r3, hr3, hR3⟩, -⟩, -⟩ := id hM3
        have r0 := hR3.1
        have mh3 := hMo3
        unfold kMo at mh3
        have hm4 : m = 4 * s.o.n := by omega
        rw [← hm4, hC] at hq
        rw [← hm4] at e4n
        repeat' (first | (refine kx172 hMo3 hr3 ?_; simp only [ky_aft, ky_vl, Nat.reduceAdd]) | (refine ky_ok_stp rfl ?_; simp (disch := first | omega | assumption) only [ky_stp, ky_inv, ky_ldi, ky_ldl, ky_ldd, ky_lda, ky_cl2, ky_st1, ky_st2, ky_s1i, ky_s2i, ky_s1l, ky_s2l, ky_sli, ky_s1f, ky_s2f, ky_s1d, ky_s2d, ky_sr, ky_sai, ky_sasi, ky_sasl, ky_sasr, ky_svr, ky_sv, ky_sv2, ky_s1, ky_cs, ky_pop, ky_nth, ky_snt, ky_obj, ky_ari, ky_arl, ky_arr, ky_arn, ky_fv, ky_rcv, List.map_cons, List.map_nil, List.drop_succ_cons, List.drop_zero, Value.category, Nat.reduceAdd, Nat.reduceSub, true_and, and_true, true_or, or_true, reduceCtorEq, ite_true, ite_false, eq_self, Nat.reduceEqDiff, Nat.reduceLeDiff, nI_add, nI_1, nI_leI, nI_ltI, nI_eq, nI_clamp, kz_m1, kz_mn, kz_mn2, kz_n0, kz_0n, kz_0, kz_le0, kz_0lt, false_implies, true_implies, not_false_eq_true, not_true_eq_false, Nat.zero_le, kb_0, kz_10, kz_of, ky_sw, kz_mx, kz_mi, mh3, r0, e4n]) | (refine ⟨vp_in_nI (by omega) (by omega), ?_⟩) | (refine ⟨fun zc => ?_, fun zc => ?_⟩ <;> try (exfalso; omega)) | fail)
        exact hq f3 g3 hM3 h30 hF3
      | succ d ih =>
        intro m f3 g3 b c its v hm hC hb hbc hM3 h30 hlo hF3
        obtain ⟨-, hMo3, ⟨⟨r3, hr3, hR3⟩, -⟩, -⟩ := id hM3
        have r0 := hR3.1
        have hL3 := kRw_l ho hR3
        have mh3 := hMo3
        unfold kMo at mh3
        have hC' : kCgm s.o p l (m + 1) = kCg s.o p l (m / 4) (m % 4) (b, c) := by rw [kCgm, hC]
        have ht : m / 4 < s.o.n := by omega
        have hw : m % 4 ≤ 3 := by omega
        have q1 : nI m / 4 = nI (m / 4) := nI_dv (b := 4) (by omega) (by decide)
        have q2 : nI m - nI (m / 4) * 4 = nI (m % 4) := by
          rw [show (4 : Int32) = nI 4 from rfl, nI_mul, nI_sub (by omega)]
          congr 1
          omega
        have q3 : (10 : Int32) * nI (m / 4) = nI (10 * (m / 4)) := by rw [show (10 : Int32) = nI 10 from rfl, nI_mul]
        have hkl := kLB_nl ho (w := m % 4) ht
        have hnl : kNl s.o (m / 4) (m % 4) ≤ 7 := by
          have := (ho.lv _ ht).2.2
          unfold kNl
          split <;> omega
        have hmb : m < 4 * s.o.n := by omega
        have hmn : m ≤ 240 := by omega
        generalize m / 4 = t at ht q1 q2 q3 hkl hnl hC'
        generalize m % 4 = w at hw q2 hkl hnl hC'
        unfold kCg at hC'
        by_cases hl : kNl s.o t w = l
        · repeat' (first | (refine kx172 hMo3 hr3 ?_; simp only [ky_aft, ky_vl, Nat.reduceAdd]) | (refine kx251 hMo3 hr3 hL3 ht hw ?_; simp only [ky_aft, ky_vl, Nat.reduceAdd]) | (refine kx259 hM3 ho hlo hp ht hw ?_) | (refine ky_ok_stp rfl ?_; simp (disch := first | omega | assumption) only [ky_stp, ky_inv, ky_ldi, ky_ldl, ky_ldd, ky_lda, ky_cl2, ky_st1, ky_st2, ky_s1i, ky_s2i, ky_s1l, ky_s2l, ky_sli, ky_s1f, ky_s2f, ky_s1d, ky_s2d, ky_sr, ky_sai, ky_sasi, ky_sasl, ky_sasr, ky_svr, ky_sv, ky_sv2, ky_s1, ky_cs, ky_pop, ky_nth, ky_snt, ky_obj, ky_ari, ky_arl, ky_arr, ky_arn, ky_fv, ky_rcv, List.map_cons, List.map_nil, List.drop_succ_cons, List.drop_zero, Value.category, Nat.reduceAdd, Nat.reduceSub, true_and, and_true, true_or, or_true, reduceCtorEq, ite_true, ite_false, eq_self, Nat.reduceEqDiff, Nat.reduceLeDiff, nI_add, nI_1, nI_leI, nI_ltI, nI_eq, nI_clamp, kz_m1, kz_mn, kz_mn2, kz_n0, kz_0n, kz_0, kz_le0, kz_0lt, false_implies, true_implies, not_false_eq_true, not_true_eq_false, Nat.zero_le, kb_0, kz_10, kz_of, ky_sw, kz_mx, kz_mi, mh3, r0, e4n, z4, q1, q2, hkl, eq_true hl]) | (refine ⟨vp_in_nI (by omega) (by omega), ?_⟩) | (refine ⟨fun zc => ?_, fun zc => ?_⟩ <;> try (exfalso; omega)) | fail)
          intro f4 g4 hM4 u2 u3 u4
          (try simp only [ky_aft, ky_vl, Nat.reduceAdd])
          have h40 := (u2 0 (by decide)).trans h30
          have hF4 := kfr_tr (T := kMF) hF3 u4 fun j hj => ⟨hj, hj⟩
          by_cases h0 : kMR s.o p t w = 0
          · rw [if_pos h0]
            have hcg : kChg s.o p t w ≤ s.o.n := kCt_le _ _
            by_cases hb0 : b = 0
            · have hc61 : c = 61 := by omega
              rw [if_pos ⟨hl, h0, by show _ < c; omega⟩] at hC'
              have hi := ih (m + 1) f4 g4 _ _ (nI (kChg s.o p t w)) (some (.int (nI (kChg s.o p t w)))) (by omega) hC' (by omega) (.inr ⟨by omega, rfl, by omega⟩) hM4 h40 u3 hF4
              rw [nI_pred] at hi
              repeat' (first | (exact hi) | (refine ky_ok_stp rfl ?_; simp (disch := first | omega | assumption) only [ky_stp, ky_inv, ky_ldi, ky_ldl, ky_ldd, ky_lda, ky_cl2, ky_st1, ky_st2, ky_s1i, ky_s2i, ky_s1l, ky_s2l, ky_sli, ky_s1f, ky_s2f, ky_s1d, ky_s2d, ky_sr, ky_sai, ky_sasi, ky_sasl, ky_sasr, ky_svr, ky_sv, ky_sv2, ky_s1, ky_cs, ky_pop, ky_nth, ky_snt, ky_obj, ky_ari, ky_arl, ky_arr, ky_arn, ky_fv, ky_rcv, List.map_cons, List.map_nil, List.drop_succ_cons, List.drop_zero, Value.category, Nat.reduceAdd, Nat.reduceSub, true_and, and_true, true_or, or_true, reduceCtorEq, ite_true, ite_false, eq_self, Nat.reduceEqDiff, Nat.reduceLeDiff, nI_add, nI_1, nI_leI, nI_ltI, nI_eq, nI_clamp, kz_m1, kz_mn, kz_mn2, kz_n0, kz_0n, kz_0, kz_le0, kz_0lt, false_implies, true_implies, not_false_eq_true, not_true_eq_false, Nat.zero_le, kb_0, kz_10, kz_of, ky_sw, kz_mx, kz_mi, z4, q1, q2, q3, kz_nm, hb0, kz_z]) | (refine ⟨vp_in_nI (by omega) (by omega), ?_⟩) | (refine ⟨fun zc => ?_, fun zc => ?_⟩ <;> try (exfalso; omega)) | fail)
            · obtain ⟨-, rfl, hc60⟩ : b ≠ 0 ∧ its = nI c ∧ c ≤ 60 := by
                rcases hbc with h | h
                · exact absurd h.1 hb0
                · exact h
              obtain ⟨b', rfl⟩ : ∃ b', b = b' + 1 := ⟨b - 1, by omega⟩
              rw [nI_pred]
              by_cases hlt : kChg s.o p t w < c
              · rw [if_pos ⟨hl, h0, hlt⟩] at hC'
                have hi := ih (m + 1) f4 g4 _ _ (nI (kChg s.o p t w)) (some (.int (nI (kChg s.o p t w)))) (by omega) hC' (by omega) (.inr ⟨by omega, rfl, by omega⟩) hM4 h40 u3 hF4
                rw [nI_pred] at hi
                repeat' (first | (exact hi) | (refine ky_ok_stp rfl ?_; simp (disch := first | omega | assumption) only [ky_stp, ky_inv, ky_ldi, ky_ldl, ky_ldd, ky_lda, ky_cl2, ky_st1, ky_st2, ky_s1i, ky_s2i, ky_s1l, ky_s2l, ky_sli, ky_s1f, ky_s2f, ky_s1d, ky_s2d, ky_sr, ky_sai, ky_sasi, ky_sasl, ky_sasr, ky_svr, ky_sv, ky_sv2, ky_s1, ky_cs, ky_pop, ky_nth, ky_snt, ky_obj, ky_ari, ky_arl, ky_arr, ky_arn, ky_fv, ky_rcv, List.map_cons, List.map_nil, List.drop_succ_cons, List.drop_zero, Value.category, Nat.reduceAdd, Nat.reduceSub, true_and, and_true, true_or, or_true, reduceCtorEq, ite_true, ite_false, eq_self, Nat.reduceEqDiff, Nat.reduceLeDiff, nI_add, nI_1, nI_leI, nI_ltI, nI_eq, nI_clamp, kz_m1, kz_mn, kz_mn2, kz_n0, kz_0n, kz_0, kz_le0, kz_0lt, false_implies, true_implies, not_false_eq_true, not_true_eq_false, Nat.zero_le, kb_0, kz_10, kz_of, ky_sw, kz_mx, kz_mi, z4, q1, q2, q3, kz_nm]) | (refine ⟨vp_in_nI (by omega) (by omega), ?_⟩) | (refine ⟨fun zc => ?_, fun zc => ?_⟩ <;> try (exfalso; omega)) | fail)
              · rw [if_neg (fun w => hlt w.2.2)] at hC'
                have hi := ih (m + 1) f4 g4 _ _ (nI c) (some (.int (nI (kChg s.o p t w)))) (by omega) hC' hb (.inr ⟨by omega, rfl, hc60⟩) hM4 h40 u3 hF4
                rw [nI_pred] at hi
                repeat' (first | (exact hi) | (refine ky_ok_stp rfl ?_; simp (disch := first | omega | assumption) only [ky_stp, ky_inv, ky_ldi, ky_ldl, ky_ldd, ky_lda, ky_cl2, ky_st1, ky_st2, ky_s1i, ky_s2i, ky_s1l, ky_s2l, ky_sli, ky_s1f, ky_s2f, ky_s1d, ky_s2d, ky_sr, ky_sai, ky_sasi, ky_sasl, ky_sasr, ky_svr, ky_sv, ky_sv2, ky_s1, ky_cs, ky_pop, ky_nth, ky_snt, ky_obj, ky_ari, ky_arl, ky_arr, ky_arn, ky_fv, ky_rcv, List.map_cons, List.map_nil, List.drop_succ_cons, List.drop_zero, Value.category, Nat.reduceAdd, Nat.reduceSub, true_and, and_true, true_or, or_true, reduceCtorEq, ite_true, ite_false, eq_self, Nat.reduceEqDiff, Nat.reduceLeDiff, nI_add, nI_1, nI_leI, nI_ltI, nI_eq, nI_clamp, kz_m1, kz_mn, kz_mn2, kz_n0, kz_0n, kz_0, kz_le0, kz_0lt, false_implies, true_implies, not_false_eq_true, not_true_eq_false, Nat.zero_le, kb_0, kz_10, kz_of, ky_sw, kz_mx, kz_mi, z4, q1, q2, q3, kz_nm]) | (refine ⟨vp_in_nI (by omega) (by omega), ?_⟩) | (refine ⟨fun zc => ?_, fun zc => ?_⟩ <;> try (exfalso; omega)) | fail)
          · rw [if_neg h0]
            rw [if_neg (fun w => h0 w.2.1)] at hC'
            have hi := ih (m + 1) f4 g4 _ _ its (some (.int (-1))) (by omega) hC' hb hbc hM4 h40 u3 hF4
            repeat' (first | (exact hi) | (refine ky_ok_stp rfl ?_; simp (disch := first | omega | assumption) only [ky_stp, ky_inv, ky_ldi, ky_ldl, ky_ldd, ky_lda, ky_cl2, ky_st1, ky_st2, ky_s1i, ky_s2i, ky_s1l, ky_s2l, ky_sli, ky_s1f, ky_s2f, ky_s1d, ky_s2d, ky_sr, ky_sai, ky_sasi, ky_sasl, ky_sasr, ky_svr, ky_sv, ky_sv2, ky_s1, ky_cs, ky_pop, ky_nth, ky_snt, ky_obj, ky_ari, ky_arl, ky_arr, ky_arn, ky_fv, ky_rcv, List.map_cons, List.map_nil, List.drop_succ_cons, List.drop_zero, Value.category, Nat.reduceAdd, Nat.reduceSub, true_and, and_true, true_or, or_true, reduceCtorEq, ite_true, ite_false, eq_self, Nat.reduceEqDiff, Nat.reduceLeDiff, nI_add, nI_1, nI_leI, nI_ltI, nI_eq, nI_clamp, kz_m1, kz_mn, kz_mn2, kz_n0, kz_0n, kz_0, kz_le0, kz_0lt, false_implies, true_implies, not_false_eq_true, not_true_eq_false, Nat.zero_le, kb_0, kz_10, kz_of, ky_sw, kz_mx, kz_mi]) | (refine ⟨vp_in_nI (by omega) (by omega), ?_⟩) | (refine ⟨fun zc => ?_, fun zc => ?_⟩ <;> try (exfalso; omega)) | fail)
        · rw [if_neg (fun w => hl w.1)] at hC'
          have hi := ih (m + 1) f3 g3 _ _ its (some (.int (-1))) (by omega) hC' hb hbc hM3 h30 hlo hF3
          repeat' (first | (refine kx172 hMo3 hr3 ?_; simp only [ky_aft, ky_vl, Nat.reduceAdd]) | (refine kx251 hMo3 hr3 hL3 ht hw ?_; simp only [ky_aft, ky_vl, Nat.reduceAdd]) | (exact hi) | (refine ky_ok_stp rfl ?_; simp (disch := first | omega | assumption) only [ky_stp, ky_inv, ky_ldi, ky_ldl, ky_ldd, ky_lda, ky_cl2, ky_st1, ky_st2, ky_s1i, ky_s2i, ky_s1l, ky_s2l, ky_sli, ky_s1f, ky_s2f, ky_s1d, ky_s2d, ky_sr, ky_sai, ky_sasi, ky_sasl, ky_sasr, ky_svr, ky_sv, ky_sv2, ky_s1, ky_cs, ky_pop, ky_nth, ky_snt, ky_obj, ky_ari, ky_arl, ky_arr, ky_arn, ky_fv, ky_rcv, List.map_cons, List.map_nil, List.drop_succ_cons, List.drop_zero, Value.category, Nat.reduceAdd, Nat.reduceSub, true_and, and_true, true_or, or_true, reduceCtorEq, ite_true, ite_false, eq_self, Nat.reduceEqDiff, Nat.reduceLeDiff, nI_add, nI_1, nI_leI, nI_ltI, nI_eq, nI_clamp, kz_m1, kz_mn, kz_mn2, kz_n0, kz_0n, kz_0, kz_le0, kz_0lt, false_implies, true_implies, not_false_eq_true, not_true_eq_false, Nat.zero_le, kb_0, kz_10, kz_of, ky_sw, kz_mx, kz_mi, mh3, r0, e4n, z4, q1, q2, hkl, eq_false hl]) | (refine ⟨vp_in_nI (by omega) (by omega), ?_⟩) | (refine ⟨fun zc => ?_, fun zc => ?_⟩ <;> try (exfalso; omega)) | fail)
    have hl := lp (4 * s.o.n) 0 f2 g2 0 61 0 none (by omega) rfl (by omega) (.inl ⟨rfl, rfl⟩) hM2 ((w2 0 (by decide)).trans h10) w3 (kfr_tr hF1 w4 fun j hj => ⟨hj, hj⟩)
    rw [kz_z] at hl
    repeat' (first | (exact hl) | (refine ky_ok_stp rfl ?_; simp (disch := first | omega | assumption) only [ky_stp, ky_inv, ky_ldi, ky_ldl, ky_ldd, ky_lda, ky_cl2, ky_st1, ky_st2, ky_s1i, ky_s2i, ky_s1l, ky_s2l, ky_sli, ky_s1f, ky_s2f, ky_s1d, ky_s2d, ky_sr, ky_sai, ky_sasi, ky_sasl, ky_sasr, ky_svr, ky_sv, ky_sv2, ky_s1, ky_cs, ky_pop, ky_nth, ky_snt, ky_obj, ky_ari, ky_arl, ky_arr, ky_arn, ky_fv, ky_rcv, List.map_cons, List.map_nil, List.drop_succ_cons, List.drop_zero, Value.category, Nat.reduceAdd, Nat.reduceSub, true_and, and_true, true_or, or_true, reduceCtorEq, ite_true, ite_false, eq_self, Nat.reduceEqDiff, Nat.reduceLeDiff, nI_add, nI_1, nI_leI, nI_ltI, nI_eq, nI_clamp, kz_m1, kz_mn, kz_mn2, kz_n0, kz_0n, kz_0, kz_le0, kz_0lt, false_implies, true_implies, not_false_eq_true, not_true_eq_false, Nat.zero_le, kb_0, kz_10, kz_of, ky_sw, kz_mx, kz_mi]) | (refine ⟨vp_in_nI (by omega) (by omega), ?_⟩) | (refine ⟨fun zc => ?_, fun zc => ?_⟩ <;> try (exfalso; omega)) | fail)
  have mh := hM.2.1
  unfold kMo at mh
  refine ⟨Nat.le_of_ble_eq_true rfl, fun z => absurd z (by decide), ?_⟩; show ky_ok adK 262 0 [some (.ref (a 170)), some (.int x), some (.int y), none, none, none, none] [] f 0 0 _
  repeat' (first | (exact rest _ _ (kM_t0 hM) rfl (kMF_170 (kfr_up hM.1 kfr_rf rfl))) | (refine ky_ok_stp rfl ?_; simp (disch := first | omega | assumption) only [ky_stp, ky_inv, ky_ldi, ky_ldl, ky_ldd, ky_lda, ky_cl2, ky_st1, ky_st2, ky_s1i, ky_s2i, ky_s1l, ky_s2l, ky_sli, ky_s1f, ky_s2f, ky_s1d, ky_s2d, ky_sr, ky_sai, ky_sasi, ky_sasl, ky_sasr, ky_svr, ky_sv, ky_sv2, ky_s1, ky_cs, ky_pop, ky_nth, ky_snt, ky_obj, ky_ari, ky_arl, ky_arr, ky_arn, ky_fv, ky_rcv, List.map_cons, List.map_nil, List.drop_succ_cons, List.drop_zero, Value.category, Nat.reduceAdd, Nat.reduceSub, true_and, and_true, true_or, or_true, reduceCtorEq, ite_true, ite_false, eq_self, Nat.reduceEqDiff, Nat.reduceLeDiff, nI_add, nI_1, nI_leI, nI_ltI, nI_eq, nI_clamp, kz_m1, kz_mn, kz_mn2, kz_n0, kz_0n, kz_0, kz_le0, kz_0lt, false_implies, true_implies, not_false_eq_true, not_true_eq_false, Nat.zero_le, kb_0, kz_10, kz_of, ky_sw, kz_mx, kz_mi, mh]) | (refine ⟨vp_in_nI (by omega) (by omega), ?_⟩) | (refine ⟨fun zc => ?_, fun zc => ?_⟩ <;> try (exfalso; omega)) | fail)
end KXM
