/-! ## the reference: COUNTs -/
theorem kNb_si {z : kZ} (ho : kZo z) {l : Nat} (h1 : 1 ≤ l) (h6 : l ≤ 6) (h3 : z.S 3 l = 0) : ∀ j, j < z.n → l ≤ kV z.R j →
    (kSi (kL z.R) (nI l) j = 0 ∧ kNb (kPl z.R) (kV z.R) z.S j l = 0) ∨ ∃ q, kSi (kL z.R) (nI l) j = q + 1 ∧ q < j ∧ kV z.R q = l ∧ kNb (kPl z.R) (kV z.R) z.S j l = kNb (kPl z.R) (kV z.R) z.S q l + (if kPl z.R q = 0 ∧ ¬ z.S 0 (kV z.R q) = 5 then 1 else 0)
  | 0, _, _ => .inl ⟨rfl, rfl⟩
  | j + 1, hj, hl => by
    obtain ⟨l0, v1, v6⟩ := ho.lv j (by omega)
    have hs := ho.ls j hj
    rw [kSi, kNb, l0]
    by_cases e1 : l < kV z.R j
    · rw [if_pos (by rw [nI_ltI (by omega) (by omega)]; exact e1), if_neg (fun w => by omega), if_neg (fun w => by omega)]
      rcases kNb_si ho h1 h6 h3 j (by omega) (by omega) with h | ⟨q, w1, w2, w3, w4⟩
      · exact .inl h
      · exact .inr ⟨q, w1, by omega, w3, w4⟩
    · rw [if_neg (by rw [nI_ltI (by omega) (by omega)]; exact e1)]
      by_cases e3 : kV z.R j = l
      · right
        rw [if_pos (by rw [e3]), if_neg (fun w => by omega)]
        refine ⟨j, rfl, by omega, e3, ?_⟩
        by_cases e4 : kPl z.R j = 0 ∧ ¬ z.S 0 (kV z.R j) = 5
        · rw [if_pos e4, if_pos ⟨e3, e4⟩]
        · rw [if_neg e4, if_neg fun w => e4 w.2]
      · left
        rw [if_neg (by rw [nI_eq (by omega) (by omega)]; exact e3), if_pos ⟨by omega, h3⟩, if_neg fun w => e3 w.1]
        exact ⟨rfl, rfl⟩
theorem kNb_on {P : Nat → Int32} {V : Nat → Nat} {S : Nat → Nat → Int32} {l j : Nat} (h3 : ¬ S 3 l = 0) : kNb P V S (j + 1) l = kNb P V S j l + (if V j = l ∧ P j = 0 ∧ ¬ S 0 (V j) = 5 then 1 else 0) := by
  rw [kNb, if_neg fun w => h3 w.2]
section KXM
variable {adK a : Nat → Nat} {f : ky_H} {Q : ky_Q} {g : Nat → Int32} {s r : Nat → Int32} {p w n l : Nat} {x lo hi v : Int32} {z : kZ}
theorem kx187 (hM : kMo a f g) (hs : f (a 171) = some (.inl (1, 388, .inl s))) (ho : kZo z) (hR : kRw s z) (hp : p < z.n) (hQ : Q (.inl (some (.int (kct (kCO z p))))) f) : ky_cl adK 187 [.ref (a 170), .int (nI p)] f Q := by
  have h60 := ho.n60
  have hL := kRw_l ho hR
  obtain ⟨hl, h1, h6⟩ := ho.lv p hp
  obtain ⟨r0, r1, r2, -⟩ := hR.2.1 p hp
  obtain ⟨s0, sk5, s1, ss1, ss99⟩ := ho.st _ h1 h6
  have f3 := (ho.fs _ h1 h6).2
  have hS1 := hR.2.2 1 (kV z.R p) (by decide) h1 h6
  rw [show 3 + 6 * 1 + kV z.R p = 3 + 6 + kV z.R p by omega, s1] at hS1
  have hS3 := hR.2.2 3 (kV z.R p) (by decide) h1 h6
  rw [show 3 + 6 * 3 + kV z.R p = 3 + 18 + kV z.R p by omega] at hS3
  have hco : kCO z p = if kPl z.R p = 0 ∧ ¬ z.S 0 (kV z.R p) = 5 then kss z.S (kV z.R p) + kNb (kPl z.R) (kV z.R) z.S p (kV z.R p) else 0 := rfl
  have hnb := kNb_le (kPl z.R) (kV z.R) z.S
  have mh := hM; unfold kMo at mh
  by_cases c : kNmd z p
  case neg =>
    rw [hco, if_neg (show ¬ (kPl z.R p = 0 ∧ ¬ z.S 0 (kV z.R p) = 5) from c)] at hQ
    refine ⟨Nat.le_of_ble_eq_true rfl, fun z => absurd z (by decide), ?_⟩; show ky_ok adK 187 0 [some (.ref (a 170)), some (.int (nI p)), none, none] [] f 0 0 _
    repeat' (first | ((refine kx185 hM hs ho hR hp (fun w => absurd w c) (fun _ => ?_); simp only [ky_aft, ky_vl, Nat.reduceAdd])) | (refine ky_ok_stp rfl ?_; simp (disch := first | omega | assumption) only [ky_stp, ky_inv, ky_ldi, ky_ldl, ky_ldd, ky_lda, ky_cl2, ky_st1, ky_st2, ky_s1i, ky_s2i, ky_s1l, ky_s2l, ky_sli, ky_s1f, ky_s2f, ky_s1d, ky_s2d, ky_sr, ky_sai, ky_sasi, ky_sasl, ky_sasr, ky_svr, ky_sv, ky_sv2, ky_s1, ky_cs, ky_pop, ky_nth, ky_snt, ky_obj, ky_ari, ky_arl, ky_arr, ky_arn, ky_fv, ky_rcv, List.map_cons, List.map_nil, List.drop_succ_cons, List.drop_zero, Value.category, Nat.reduceAdd, Nat.reduceSub, true_and, and_true, true_or, or_true, reduceCtorEq, ite_true, ite_false, eq_self, Nat.reduceEqDiff, Nat.reduceLeDiff, nI_add, nI_1, nI_leI, nI_ltI, nI_eq, nI_clamp, kz_m1, kz_mn, kz_mn2, kz_n0, kz_0n, kz_0, kz_le0, kz_0lt, false_implies, true_implies, not_false_eq_true, not_true_eq_false, Nat.zero_le, kb_0, kz_10, kz_of, ky_sw, kz_mx, kz_mi, mh]) | (refine ⟨vp_in_nI (by omega) (by omega), ?_⟩) | (refine ⟨fun zc => ?_, fun zc => ?_⟩ <;> try (exfalso; omega)) | fail)
    exact hQ
  rw [hco, if_pos (show (kPl z.R p = 0 ∧ ¬ z.S 0 (kV z.R p) = 5) from c), kct, if_neg (by omega)] at hQ
  generalize hle : kV z.R p = l at *
  generalize hse : kss z.S l = ss at *
  by_cases c3 : z.S 3 l = 0
  · have loop : ∀ k q j R acc, j ≤ k → (j = 0 ∧ R = 0 ∨ j = q + 1 ∧ q < p ∧ kV z.R q = l ∧ R = kNb (kPl z.R) (kV z.R) z.S q l + (if kPl z.R q = 0 ∧ ¬ z.S 0 (kV z.R q) = 5 then 1 else 0)) → Q (.inl (some (.int (nI (acc + R))))) f →
        ky_ok adK 187 87 [some (.ref (a 170)), some (.int (nI p)), some (.int (nI acc)), some (.int (nI j - 1))] [] f 0 0 Q := by
      intro k
      induction k with
      | zero =>
        intro q j R acc hj hR' hq
        rcases hR' with ⟨w1, w2⟩ | ⟨w1, -⟩
        · subst w1 w2
          rw [kz_z]
          repeat' (first | (refine ky_ok_stp rfl ?_; simp (disch := first | omega | assumption) only [ky_stp, ky_inv, ky_ldi, ky_ldl, ky_ldd, ky_lda, ky_cl2, ky_st1, ky_st2, ky_s1i, ky_s2i, ky_s1l, ky_s2l, ky_sli, ky_s1f, ky_s2f, ky_s1d, ky_s2d, ky_sr, ky_sai, ky_sasi, ky_sasl, ky_sasr, ky_svr, ky_sv, ky_sv2, ky_s1, ky_cs, ky_pop, ky_nth, ky_snt, ky_obj, ky_ari, ky_arl, ky_arr, ky_arn, ky_fv, ky_rcv, List.map_cons, List.map_nil, List.drop_succ_cons, List.drop_zero, Value.category, Nat.reduceAdd, Nat.reduceSub, true_and, and_true, true_or, or_true, reduceCtorEq, ite_true, ite_false, eq_self, Nat.reduceEqDiff, Nat.reduceLeDiff, nI_add, nI_1, nI_leI, nI_ltI, nI_eq, nI_clamp, kz_m1, kz_mn, kz_mn2, kz_n0, kz_0n, kz_0, kz_le0, kz_0lt, false_implies, true_implies, not_false_eq_true, not_true_eq_false, Nat.zero_le, kb_0, kz_10, kz_of, ky_sw, kz_mx, kz_mi]) | (refine ⟨vp_in_nI (by omega) (by omega), ?_⟩) | (refine ⟨fun zc => ?_, fun zc => ?_⟩ <;> try (exfalso; omega)) | fail)
          exact hq
        · omega
      | succ k ih =>
        intro q j R acc hj hR' hq
        rcases hR' with ⟨w1, w2⟩ | ⟨w1, w2, w3, w4⟩
        · subst w1 w2
          rw [kz_z]
          repeat' (first | (refine ky_ok_stp rfl ?_; simp (disch := first | omega | assumption) only [ky_stp, ky_inv, ky_ldi, ky_ldl, ky_ldd, ky_lda, ky_cl2, ky_st1, ky_st2, ky_s1i, ky_s2i, ky_s1l, ky_s2l, ky_sli, ky_s1f, ky_s2f, ky_s1d, ky_s2d, ky_sr, ky_sai, ky_sasi, ky_sasl, ky_sasr, ky_svr, ky_sv, ky_sv2, ky_s1, ky_cs, ky_pop, ky_nth, ky_snt, ky_obj, ky_ari, ky_arl, ky_arr, ky_arn, ky_fv, ky_rcv, List.map_cons, List.map_nil, List.drop_succ_cons, List.drop_zero, Value.category, Nat.reduceAdd, Nat.reduceSub, true_and, and_true, true_or, or_true, reduceCtorEq, ite_true, ite_false, eq_self, Nat.reduceEqDiff, Nat.reduceLeDiff, nI_add, nI_1, nI_leI, nI_ltI, nI_eq, nI_clamp, kz_m1, kz_mn, kz_mn2, kz_n0, kz_0n, kz_0, kz_le0, kz_0lt, false_implies, true_implies, not_false_eq_true, not_true_eq_false, Nat.zero_le, kb_0, kz_10, kz_of, ky_sw, kz_mx, kz_mi]) | (refine ⟨vp_in_nI (by omega) (by omega), ?_⟩) | (refine ⟨fun zc => ?_, fun zc => ?_⟩ <;> try (exfalso; omega)) | fail)
          exact hq
        · subst w1
          rw [nI_pred]
          have hqn : q < z.n := by omega
          have hlq : kL z.R q = nI l := by rw [(ho.lv q hqn).1, w3]
          have hnx := kNb_si ho h1 h6 c3 q hqn (by omega)
          have hsi := kSi_le (kL z.R) (nI l) q
          have hnq := hnb q l
          have hm1 : (nI q = -1) = False := kz_nm (by omega)
          by_cases c4 : kNmd z q
          · rw [w4, if_pos (show (kPl z.R q = 0 ∧ ¬ z.S 0 (kV z.R q) = 5) from c4)] at hq
            have hi := ih (kSi (kL z.R) (nI l) q - 1) (kSi (kL z.R) (nI l) q) (kNb (kPl z.R) (kV z.R) z.S q l) (acc + 1) (by omega) (by
              rcases hnx with w | ⟨q', u1, u2, u3, u4⟩
              · exact .inl w
              · refine .inr ⟨by omega, by omega, ?_, ?_⟩
                · rw [u1]; exact u3
                · rw [u1]; exact u4) (by rw [show acc + 1 + kNb (kPl z.R) (kV z.R) z.S q l = acc + (kNb (kPl z.R) (kV z.R) z.S q l + 1) by omega]; exact hq)
            repeat' (first | ((refine kx185 hM hs ho hR hqn (fun _ => ?_) (fun w => absurd c4 w); simp only [ky_aft, ky_vl, Nat.reduceAdd])) | (refine kx180 hM hs hL hqn ?_; simp only [ky_aft, ky_vl, Nat.reduceAdd]) | ((rw [hlq]; exact hi)) | (refine ky_ok_stp rfl ?_; simp (disch := first | omega | assumption) only [ky_stp, ky_inv, ky_ldi, ky_ldl, ky_ldd, ky_lda, ky_cl2, ky_st1, ky_st2, ky_s1i, ky_s2i, ky_s1l, ky_s2l, ky_sli, ky_s1f, ky_s2f, ky_s1d, ky_s2d, ky_sr, ky_sai, ky_sasi, ky_sasl, ky_sasr, ky_svr, ky_sv, ky_sv2, ky_s1, ky_cs, ky_pop, ky_nth, ky_snt, ky_obj, ky_ari, ky_arl, ky_arr, ky_arn, ky_fv, ky_rcv, List.map_cons, List.map_nil, List.drop_succ_cons, List.drop_zero, Value.category, Nat.reduceAdd, Nat.reduceSub, true_and, and_true, true_or, or_true, reduceCtorEq, ite_true, ite_false, eq_self, Nat.reduceEqDiff, Nat.reduceLeDiff, nI_add, nI_1, nI_leI, nI_ltI, nI_eq, nI_clamp, kz_m1, kz_mn, kz_mn2, kz_n0, kz_0n, kz_0, kz_le0, kz_0lt, false_implies, true_implies, not_false_eq_true, not_true_eq_false, Nat.zero_le, kb_0, kz_10, kz_of, ky_sw, kz_mx, kz_mi, mh, hm1, ← hlq]) | (refine ⟨vp_in_nI (by omega) (by omega), ?_⟩) | (refine ⟨fun zc => ?_, fun zc => ?_⟩ <;> try (exfalso; omega)) | fail)
          · rw [w4, if_neg (show ¬ (kPl z.R q = 0 ∧ ¬ z.S 0 (kV z.R q) = 5) from c4)] at hq
            have hi := ih (kSi (kL z.R) (nI l) q - 1) (kSi (kL z.R) (nI l) q) (kNb (kPl z.R) (kV z.R) z.S q l) acc (by omega) (by
              rcases hnx with w | ⟨q', u1, u2, u3, u4⟩
              · exact .inl w
              · refine .inr ⟨by omega, by omega, ?_, ?_⟩
                · rw [u1]; exact u3
                · rw [u1]; exact u4) hq
            repeat' (first | ((refine kx185 hM hs ho hR hqn (fun w => absurd w c4) (fun _ => ?_); simp only [ky_aft, ky_vl, Nat.reduceAdd])) | (refine kx180 hM hs hL hqn ?_; simp only [ky_aft, ky_vl, Nat.reduceAdd]) | ((rw [hlq]; exact hi)) | (refine ky_ok_stp rfl ?_; simp (disch := first | omega | assumption) only [ky_stp, ky_inv, ky_ldi, ky_ldl, ky_ldd, ky_lda, ky_cl2, ky_st1, ky_st2, ky_s1i, ky_s2i, ky_s1l, ky_s2l, ky_sli, ky_s1f, ky_s2f, ky_s1d, ky_s2d, ky_sr, ky_sai, ky_sasi, ky_sasl, ky_sasr, ky_svr, ky_sv, ky_sv2, ky_s1, ky_cs, ky_pop, ky_nth, ky_snt, ky_obj, ky_ari, ky_arl, ky_arr, ky_arn, ky_fv, ky_rcv, List.map_cons, List.map_nil, List.drop_succ_cons, List.drop_zero, Value.category, Nat.reduceAdd, Nat.reduceSub, true_and, and_true, true_or, or_true, reduceCtorEq, ite_true, ite_false, eq_self, Nat.reduceEqDiff, Nat.reduceLeDiff, nI_add, nI_1, nI_leI, nI_ltI, nI_eq, nI_clamp, kz_m1, kz_mn, kz_mn2, kz_n0, kz_0n, kz_0, kz_le0, kz_0lt, false_implies, true_implies, not_false_eq_true, not_true_eq_false, Nat.zero_le, kb_0, kz_10, kz_of, ky_sw, kz_mx, kz_mi, mh, hm1, Int32.add_zero]) | (refine ⟨vp_in_nI (by omega) (by omega), ?_⟩) | (refine ⟨fun zc => ?_, fun zc => ?_⟩ <;> try (exfalso; omega)) | fail)
    have hnx := kNb_si ho h1 h6 c3 p hp (by omega)
    have hi := loop p (kSi (kL z.R) (nI l) p - 1) (kSi (kL z.R) (nI l) p) (kNb (kPl z.R) (kV z.R) z.S p l) ss (kSi_le _ _ _) (by
      rcases hnx with w | ⟨q', u1, u2, u3, u4⟩
      · exact .inl w
      · refine .inr ⟨by omega, by omega, ?_, ?_⟩
        · rw [u1]; exact u3
        · rw [u1]; exact u4) hQ
    refine ⟨Nat.le_of_ble_eq_true rfl, fun z => absurd z (by decide), ?_⟩; show ky_ok adK 187 0 [some (.ref (a 170)), some (.int (nI p)), none, none] [] f 0 0 _
    repeat' (first | ((refine kx185 hM hs ho hR hp (fun _ => ?_) (fun w => absurd c w); simp only [ky_aft, ky_vl, Nat.reduceAdd])) | (refine kx175 hM hs (show p < 60 by omega) ?_; simp only [ky_aft, ky_vl, Nat.reduceAdd]) | ((refine kx176 (w := 6) hM hs h1 h6 (by decide) ?_; simp only [ky_aft, ky_vl, Nat.reduceAdd])) | ((refine kx176 (w := 18) hM hs h1 h6 (by decide) ?_; simp only [ky_aft, ky_vl, Nat.reduceAdd])) | (refine kx180 hM hs hL hp ?_; simp only [ky_aft, ky_vl, Nat.reduceAdd]) | (exact hi) | ((rw [hl]; exact hi)) | (refine ky_ok_stp rfl ?_; simp (disch := first | omega | assumption) only [ky_stp, ky_inv, ky_ldi, ky_ldl, ky_ldd, ky_lda, ky_cl2, ky_st1, ky_st2, ky_s1i, ky_s2i, ky_s1l, ky_s2l, ky_sli, ky_s1f, ky_s2f, ky_s1d, ky_s2d, ky_sr, ky_sai, ky_sasi, ky_sasl, ky_sasr, ky_svr, ky_sv, ky_sv2, ky_s1, ky_cs, ky_pop, ky_nth, ky_snt, ky_obj, ky_ari, ky_arl, ky_arr, ky_arn, ky_fv, ky_rcv, List.map_cons, List.map_nil, List.drop_succ_cons, List.drop_zero, Value.category, Nat.reduceAdd, Nat.reduceSub, true_and, and_true, true_or, or_true, reduceCtorEq, ite_true, ite_false, eq_self, Nat.reduceEqDiff, Nat.reduceLeDiff, nI_add, nI_1, nI_leI, nI_ltI, nI_eq, nI_clamp, kz_m1, kz_mn, kz_mn2, kz_n0, kz_0n, kz_0, kz_le0, kz_0lt, false_implies, true_implies, not_false_eq_true, not_true_eq_false, Nat.zero_le, kb_0, kz_10, kz_of, ky_sw, kz_mx, kz_mi, mh, r0, hl, hS1, hS3, c3, show ((0 : Int32) = 1) = False by decide]) | (refine ⟨vp_in_nI (by omega) (by omega), ?_⟩) | (refine ⟨fun zc => ?_, fun zc => ?_⟩ <;> try (exfalso; omega)) | fail)
  · have c31 : z.S 3 l = 1 := f3.resolve_left c3
    have loop : ∀ m i, i + m = p → ky_ok adK 187 39 [some (.ref (a 170)), some (.int (nI p)), some (.int (nI (ss + kNb (kPl z.R) (kV z.R) z.S i l))), some (.int (nI i))] [] f 0 0 Q := by
      intro m
      induction m with
      | zero =>
        intro i hi
        obtain rfl : i = p := by omega
        repeat' (first | (refine ky_ok_stp rfl ?_; simp (disch := first | omega | assumption) only [ky_stp, ky_inv, ky_ldi, ky_ldl, ky_ldd, ky_lda, ky_cl2, ky_st1, ky_st2, ky_s1i, ky_s2i, ky_s1l, ky_s2l, ky_sli, ky_s1f, ky_s2f, ky_s1d, ky_s2d, ky_sr, ky_sai, ky_sasi, ky_sasl, ky_sasr, ky_svr, ky_sv, ky_sv2, ky_s1, ky_cs, ky_pop, ky_nth, ky_snt, ky_obj, ky_ari, ky_arl, ky_arr, ky_arn, ky_fv, ky_rcv, List.map_cons, List.map_nil, List.drop_succ_cons, List.drop_zero, Value.category, Nat.reduceAdd, Nat.reduceSub, true_and, and_true, true_or, or_true, reduceCtorEq, ite_true, ite_false, eq_self, Nat.reduceEqDiff, Nat.reduceLeDiff, nI_add, nI_1, nI_leI, nI_ltI, nI_eq, nI_clamp, kz_m1, kz_mn, kz_mn2, kz_n0, kz_0n, kz_0, kz_le0, kz_0lt, false_implies, true_implies, not_false_eq_true, not_true_eq_false, Nat.zero_le, kb_0, kz_10, kz_of, ky_sw, kz_mx, kz_mi]) | (refine ⟨vp_in_nI (by omega) (by omega), ?_⟩) | (refine ⟨fun zc => ?_, fun zc => ?_⟩ <;> try (exfalso; omega)) | fail)
        exact hQ
      | succ m ih =>
        intro i hi
        have hin : i < z.n := by omega
        obtain ⟨li, v1, v6⟩ := ho.lv i hin
        have hri := (hR.2.1 i hin).1
        have hi' := ih (i + 1) (by omega)
        rw [kNb_on c3] at hi'
        by_cases e1 : kV z.R i = l
        · by_cases c4 : kNmd z i
          · rw [if_pos ⟨e1, c4⟩, ← Nat.add_assoc] at hi'
            repeat' (first | (refine kx175 hM hs (show i < 60 by omega) ?_; simp only [ky_aft, ky_vl, Nat.reduceAdd]) | (refine kx175 hM hs (show p < 60 by omega) ?_; simp only [ky_aft, ky_vl, Nat.reduceAdd]) | ((refine kx185 hM hs ho hR hin (fun _ => ?_) (fun w => absurd c4 w); simp only [ky_aft, ky_vl, Nat.reduceAdd])) | (exact hi') | (refine ky_ok_stp rfl ?_; simp (disch := first | omega | assumption) only [ky_stp, ky_inv, ky_ldi, ky_ldl, ky_ldd, ky_lda, ky_cl2, ky_st1, ky_st2, ky_s1i, ky_s2i, ky_s1l, ky_s2l, ky_sli, ky_s1f, ky_s2f, ky_s1d, ky_s2d, ky_sr, ky_sai, ky_sasi, ky_sasl, ky_sasr, ky_svr, ky_sv, ky_sv2, ky_s1, ky_cs, ky_pop, ky_nth, ky_snt, ky_obj, ky_ari, ky_arl, ky_arr, ky_arn, ky_fv, ky_rcv, List.map_cons, List.map_nil, List.drop_succ_cons, List.drop_zero, Value.category, Nat.reduceAdd, Nat.reduceSub, true_and, and_true, true_or, or_true, reduceCtorEq, ite_true, ite_false, eq_self, Nat.reduceEqDiff, Nat.reduceLeDiff, nI_add, nI_1, nI_leI, nI_ltI, nI_eq, nI_clamp, kz_m1, kz_mn, kz_mn2, kz_n0, kz_0n, kz_0, kz_le0, kz_0lt, false_implies, true_implies, not_false_eq_true, not_true_eq_false, Nat.zero_le, kb_0, kz_10, kz_of, ky_sw, kz_mx, kz_mi, mh, r0, hl, hri, li, e1]) | (refine ⟨vp_in_nI (by omega) (by omega), ?_⟩) | (refine ⟨fun zc => ?_, fun zc => ?_⟩ <;> try (exfalso; omega)) | fail)
          · rw [if_neg (fun w => c4 w.2), Nat.add_zero] at hi'
            repeat' (first | (refine kx175 hM hs (show i < 60 by omega) ?_; simp only [ky_aft, ky_vl, Nat.reduceAdd]) | (refine kx175 hM hs (show p < 60 by omega) ?_; simp only [ky_aft, ky_vl, Nat.reduceAdd]) | ((refine kx185 hM hs ho hR hin (fun w => absurd w c4) (fun _ => ?_); simp only [ky_aft, ky_vl, Nat.reduceAdd])) | (exact hi') | (refine ky_ok_stp rfl ?_; simp (disch := first | omega | assumption) only [ky_stp, ky_inv, ky_ldi, ky_ldl, ky_ldd, ky_lda, ky_cl2, ky_st1, ky_st2, ky_s1i, ky_s2i, ky_s1l, ky_s2l, ky_sli, ky_s1f, ky_s2f, ky_s1d, ky_s2d, ky_sr, ky_sai, ky_sasi, ky_sasl, ky_sasr, ky_svr, ky_sv, ky_sv2, ky_s1, ky_cs, ky_pop, ky_nth, ky_snt, ky_obj, ky_ari, ky_arl, ky_arr, ky_arn, ky_fv, ky_rcv, List.map_cons, List.map_nil, List.drop_succ_cons, List.drop_zero, Value.category, Nat.reduceAdd, Nat.reduceSub, true_and, and_true, true_or, or_true, reduceCtorEq, ite_true, ite_false, eq_self, Nat.reduceEqDiff, Nat.reduceLeDiff, nI_add, nI_1, nI_leI, nI_ltI, nI_eq, nI_clamp, kz_m1, kz_mn, kz_mn2, kz_n0, kz_0n, kz_0, kz_le0, kz_0lt, false_implies, true_implies, not_false_eq_true, not_true_eq_false, Nat.zero_le, kb_0, kz_10, kz_of, ky_sw, kz_mx, kz_mi, mh, r0, hl, hri, li, e1, Int32.add_zero]) | (refine ⟨vp_in_nI (by omega) (by omega), ?_⟩) | (refine ⟨fun zc => ?_, fun zc => ?_⟩ <;> try (exfalso; omega)) | fail)
        · rw [if_neg (fun w => e1 w.1), Nat.add_zero] at hi'
          have e1' : (nI (kV z.R i) = nI l) = False := eq_false (by rw [nI_eq (by omega) (by omega)]; exact e1)
          repeat' (first | (refine kx175 hM hs (show i < 60 by omega) ?_; simp only [ky_aft, ky_vl, Nat.reduceAdd]) | (refine kx175 hM hs (show p < 60 by omega) ?_; simp only [ky_aft, ky_vl, Nat.reduceAdd]) | (exact hi') | (refine ky_ok_stp rfl ?_; simp (disch := first | omega | assumption) only [ky_stp, ky_inv, ky_ldi, ky_ldl, ky_ldd, ky_lda, ky_cl2, ky_st1, ky_st2, ky_s1i, ky_s2i, ky_s1l, ky_s2l, ky_sli, ky_s1f, ky_s2f, ky_s1d, ky_s2d, ky_sr, ky_sai, ky_sasi, ky_sasl, ky_sasr, ky_svr, ky_sv, ky_sv2, ky_s1, ky_cs, ky_pop, ky_nth, ky_snt, ky_obj, ky_ari, ky_arl, ky_arr, ky_arn, ky_fv, ky_rcv, List.map_cons, List.map_nil, List.drop_succ_cons, List.drop_zero, Value.category, Nat.reduceAdd, Nat.reduceSub, true_and, and_true, true_or, or_true, reduceCtorEq, ite_true, ite_false, eq_self, Nat.reduceEqDiff, Nat.reduceLeDiff, nI_add, nI_1, nI_leI, nI_ltI, nI_eq, nI_clamp, kz_m1, kz_mn, kz_mn2, kz_n0, kz_0n, kz_0, kz_le0, kz_0lt, false_implies, true_implies, not_false_eq_true, not_true_eq_false, Nat.zero_le, kb_0, kz_10, kz_of, ky_sw, kz_mx, kz_mi, mh, r0, hl, hri, li, e1', eq_false e1, Int32.add_zero]) | (refine ⟨vp_in_nI (by omega) (by omega), ?_⟩) | (refine ⟨fun zc => ?_, fun zc => ?_⟩ <;> try (exfalso; omega)) | fail)
    have hi := loop p 0 (by omega)
    rw [show kNb (kPl z.R) (kV z.R) z.S 0 l = 0 from rfl, Nat.add_zero, show nI 0 = 0 from rfl] at hi
    refine ⟨Nat.le_of_ble_eq_true rfl, fun z => absurd z (by decide), ?_⟩; show ky_ok adK 187 0 [some (.ref (a 170)), some (.int (nI p)), none, none] [] f 0 0 _
    repeat' (first | ((refine kx185 hM hs ho hR hp (fun _ => ?_) (fun w => absurd c w); simp only [ky_aft, ky_vl, Nat.reduceAdd])) | (refine kx175 hM hs (show p < 60 by omega) ?_; simp only [ky_aft, ky_vl, Nat.reduceAdd]) | ((refine kx176 (w := 6) hM hs h1 h6 (by decide) ?_; simp only [ky_aft, ky_vl, Nat.reduceAdd])) | ((refine kx176 (w := 18) hM hs h1 h6 (by decide) ?_; simp only [ky_aft, ky_vl, Nat.reduceAdd])) | (exact hi) | (refine ky_ok_stp rfl ?_; simp (disch := first | omega | assumption) only [ky_stp, ky_inv, ky_ldi, ky_ldl, ky_ldd, ky_lda, ky_cl2, ky_st1, ky_st2, ky_s1i, ky_s2i, ky_s1l, ky_s2l, ky_sli, ky_s1f, ky_s2f, ky_s1d, ky_s2d, ky_sr, ky_sai, ky_sasi, ky_sasl, ky_sasr, ky_svr, ky_sv, ky_sv2, ky_s1, ky_cs, ky_pop, ky_nth, ky_snt, ky_obj, ky_ari, ky_arl, ky_arr, ky_arn, ky_fv, ky_rcv, List.map_cons, List.map_nil, List.drop_succ_cons, List.drop_zero, Value.category, Nat.reduceAdd, Nat.reduceSub, true_and, and_true, true_or, or_true, reduceCtorEq, ite_true, ite_false, eq_self, Nat.reduceEqDiff, Nat.reduceLeDiff, nI_add, nI_1, nI_leI, nI_ltI, nI_eq, nI_clamp, kz_m1, kz_mn, kz_mn2, kz_n0, kz_0n, kz_0, kz_le0, kz_0lt, false_implies, true_implies, not_false_eq_true, not_true_eq_false, Nat.zero_le, kb_0, kz_10, kz_of, ky_sw, kz_mx, kz_mi, mh, r0, hl, hS1, hS3, c31]) | (refine ⟨vp_in_nI (by omega) (by omega), ?_⟩) | (refine ⟨fun zc => ?_, fun zc => ?_⟩ <;> try (exfalso; omega)) | fail)
end KXM
