/-! ## the reference: styles read -/
section KXM
variable {adK a : Nat → Nat} {f : ky_H} {Q : ky_Q} {g r : Nat → Int32} {p w n l i j t L s : Nat} {x y v : Int32} {z : kZ} {c : Nat → Nat}
theorem kx217 (ha : kI a) (hM : kMt a f g L c) (hs : s ≤ L) (hT : kTq g c L s) (hr : f (a 173) = some (.inl (1, 388, .inl r))) (hR : kRw r z)
    (hE : ∀ w p, w ≠ 0 → kRy c L s = (w, p, 0, 0, 0, 0, 0) → kPQ a f g L c (kEr w p) Q (some (.int 0)))
    (hO : ∀ l kd st s', s' ≤ L → kTn c L s ≤ s' → kRy c L s = kRf c L l kd st s' → 1 ≤ l → l ≤ 6 → kGQ a f g L c (kNx c L kwN (kNx c L kwO s')) (kZy z (kRf c L l kd st s')) Q) : ky_cl adK 217 [.ref (a 170)] f Q := by
  have e6 : (6 : Int32) = nI 6 := rfl
  have e12 : (12 : Int32) = nI 12 := rfl
  have e18 : (18 : Int32) = nI 18 := rfl
  have e4 : (4 : Int32) = nI 4 := rfl
  have mh := hM.1
  unfold kMo at mh
  have n1 := kTn_le (c := c) hs
  have n2 := kTn_le (c := c) n1.2
  have n3 := kTn_le (c := c) n2.2
  have n4 := kTn_le (c := c) n3.2
  have n5 := kTn_le (c := c) n4.2
  -- behind the last word
  have stD : ∀ f5 g5 R5 p1 p2 l kd st s' s4, kMt a f5 g5 L c → kTq g5 c L s4 → f5 (a 173) = some (.inl (1, 388, .inl R5)) → 1 ≤ l → l ≤ 6 → R5 (3 + l) = kd → R5 (3 + l + 6) = nI st → R5 (3 + l + 12) = p1 → (∀ t, t ≠ 3 + l → t ≠ 3 + l + 6 → t ≠ 3 + l + 12 → t ≠ 3 + l + 18 → R5 t = r t) → k01 p2 → (∀ j, j < 4 ∨ 10 < j → g5 j = g j) → kfr a f f5 (fun j => j = 170 ∨ j = 173) → p1 = (if kTw c L s' = kwO then 1 else 0) → p2 = (if kTw c L (kNx c L kwO s') = kwN then 1 else 0) → kGQ a f g L c s4 (kZy z (kRf c L l kd st s')) Q → ky_ok adK 217 141 [some (.ref (a 170)), some (.int (nI (3 + l))), some (.int kd)] [.int p2, .int (nI (3 + l + 18)), .ref (a 173)] f5 0 0 Q := by
    intro f5 g5 R5 p1 p2 l kd st s' s4 hM5 hT5 h173 hl1 hl6 q0 q6 q12 qo hp2 hg hF hp1e hp2e hq
    have mh5 := hM5.1
    unfold kMo at mh5
    have hup : ∀ v : Int32, v = p2 → Q (.inl (some (.int 1))) (ky_up f5 (a 173) (.inl (1, 388, .inl (upd R5 (3 + l + 18) v)))) := by
      intro v hv
      subst hv
      refine hq _ g5 _ (kMt_u ha hM5) hT5 kz_same (kRw_st hR (y := kRf c L l kd st s') ⟨hl1, hl6⟩ ?_ ?_ ?_ ?_ ?_) hg (kfr_up ha hF (Or.inr rfl))
      · show upd R5 (3 + l + 18) v (3 + l) = kd
        rw [pk_un (by omega)]; exact q0
      · show upd R5 (3 + l + 18) v (3 + 6 + l) = nI st
        rw [show 3 + 6 + l = 3 + l + 6 by omega, pk_un (by omega)]; exact q6
      · show upd R5 (3 + l + 18) v (3 + 12 + l) = _
        rw [show 3 + 12 + l = 3 + l + 12 by omega, pk_un (by omega), q12]; exact hp1e
      · show upd R5 (3 + l + 18) v (3 + 18 + l) = _
        rw [show 3 + 18 + l = 3 + l + 18 by omega, pk_us]; exact hp2e
      · intro t t1 t2 t3 t4
        have t1 : t ≠ 3 + l := t1
        have t2 : t ≠ 3 + 6 + l := t2
        have t3 : t ≠ 3 + 12 + l := t3
        have t4 : t ≠ 3 + 18 + l := t4
        rw [pk_un (by omega)]
        exact qo t t1 (by omega) (by omega) (by omega)
    rcases hp2 with rfl | rfl
    · have hh := hup 0 rfl
      repeat' (first | (refine ky_ok_stp rfl ?_; simp (disch := first | omega | assumption) only [ky_stp, ky_inv, ky_ldi, ky_ldl, ky_ldd, ky_lda, ky_cl2, ky_st1, ky_st2, ky_s1i, ky_s2i, ky_s1l, ky_s2l, ky_sli, ky_s1f, ky_s2f, ky_s1d, ky_s2d, ky_sr, ky_sai, ky_sasi, ky_sasl, ky_sasr, ky_svr, ky_sv, ky_sv2, ky_s1, ky_cs, ky_pop, ky_nth, ky_snt, ky_obj, ky_ari, ky_arl, ky_arr, ky_arn, ky_fv, ky_rcv, List.map_cons, List.map_nil, List.drop_succ_cons, List.drop_zero, Value.category, Nat.reduceAdd, Nat.reduceSub, true_and, and_true, true_or, or_true, reduceCtorEq, ite_true, ite_false, eq_self, Nat.reduceEqDiff, Nat.reduceLeDiff, nI_add, nI_1, nI_leI, nI_ltI, nI_eq, nI_clamp, kz_m1, kz_mn, kz_mn2, kz_n0, kz_0n, kz_0, kz_le0, kz_0lt, false_implies, true_implies, not_false_eq_true, not_true_eq_false, Nat.zero_le, kb_0, kz_10, kz_of, ky_sw, kz_mx, kz_mi, mh5, kz_up, kI_ne ha, h173]) | (refine ⟨vp_in_nI (by omega) (by omega), ?_⟩) | (refine ⟨fun zc => ?_, fun zc => ?_⟩ <;> try (exfalso; omega)) | fail)
      (first | exact hh | exact ⟨by decide, hh⟩)
    · have hh := hup 1 rfl
      repeat' (first | (refine ky_ok_stp rfl ?_; simp (disch := first | omega | assumption) only [ky_stp, ky_inv, ky_ldi, ky_ldl, ky_ldd, ky_lda, ky_cl2, ky_st1, ky_st2, ky_s1i, ky_s2i, ky_s1l, ky_s2l, ky_sli, ky_s1f, ky_s2f, ky_s1d, ky_s2d, ky_sr, ky_sai, ky_sasi, ky_sasl, ky_sasr, ky_svr, ky_sv, ky_sv2, ky_s1, ky_cs, ky_pop, ky_nth, ky_snt, ky_obj, ky_ari, ky_arl, ky_arr, ky_arn, ky_fv, ky_rcv, List.map_cons, List.map_nil, List.drop_succ_cons, List.drop_zero, Value.category, Nat.reduceAdd, Nat.reduceSub, true_and, and_true, true_or, or_true, reduceCtorEq, ite_true, ite_false, eq_self, Nat.reduceEqDiff, Nat.reduceLeDiff, nI_add, nI_1, nI_leI, nI_ltI, nI_eq, nI_clamp, kz_m1, kz_mn, kz_mn2, kz_n0, kz_0n, kz_0, kz_le0, kz_0lt, false_implies, true_implies, not_false_eq_true, not_true_eq_false, Nat.zero_le, kb_0, kz_10, kz_of, ky_sw, kz_mx, kz_mi, mh5, kz_up, kI_ne ha, h173]) | (refine ⟨vp_in_nI (by omega) (by omega), ?_⟩) | (refine ⟨fun zc => ?_, fun zc => ?_⟩ <;> try (exfalso; omega)) | fail)
      (first | exact hh | exact ⟨by decide, hh⟩)
  have stC : ∀ f3 g3 R3 p1 l kd st s', kMt a f3 g3 L c → s' ≤ L → kTq g3 c L (kNx c L kwO s') → f3 (a 173) = some (.inl (1, 388, .inl R3)) → 1 ≤ l → l ≤ 6 → R3 (3 + l) = kd → R3 (3 + l + 6) = nI st → (∀ t, t ≠ 3 + l → t ≠ 3 + l + 6 → t ≠ 3 + l + 12 → t ≠ 3 + l + 18 → R3 t = r t) → k01 p1 → (∀ j, j < 4 ∨ 10 < j → g3 j = g j) → kfr a f f3 (fun j => j = 170 ∨ j = 173) → p1 = (if kTw c L s' = kwO then 1 else 0) → kGQ a f g L c (kNx c L kwN (kNx c L kwO s')) (kZy z (kRf c L l kd st s')) Q → ky_ok adK 217 118 [some (.ref (a 170)), some (.int (nI (3 + l))), some (.int kd)] [.int p1, .int (nI (3 + l + 12)), .ref (a 173)] f3 0 0 Q := by
    intro f3 g3 R3 p1 l kd st s' hM3 hs' hT3 h173 hl1 hl6 q0 q6 qo hp1 hg hF hp1e hq
    have mh3 := hM3.1
    unfold kMo at mh3
    have hs3 := (kNx_le (c := c) (W := kwO) hs').2
    have cont : ∀ v : Int32, v = p1 → ∀ f5 g5, kMt a f5 g5 L c → (kTq g5 c L (kNx c L kwN (kNx c L kwO s')) ∧ g5 10 = g3 10) → (∀ j, j < 4 ∨ 10 < j → g5 j = g3 j) → kfr a (ky_up f3 (a 173) (.inl (1, 388, .inl (upd R3 (3 + l + 12) v)))) f5 (fun j => j = 170) → ky_ok adK 217 141 [some (.ref (a 170)), some (.int (nI (3 + l))), some (.int kd)] [.int (if kTw c L (kNx c L kwO s') = kwN then 1 else 0), .int (nI (3 + l + 18)), .ref (a 173)] f5 0 0 Q := by
      rintro v rfl f5 g5 w1 w2 w3 w4
      refine stD f5 g5 (upd R3 (3 + l + 12) v) v _ l kd st s' _ w1 w2.1 ((w4 173 (by omega)).trans kz_same) hl1 hl6 ?_ ?_ pk_us (fun t t1 t2 t3 t4 => by rw [pk_un t3]; exact qo t t1 t2 t3 t4) kp01 (fun j hj => (w3 j hj).trans (hg j hj)) (kfr_tr (kfr_up ha hF (Or.inr rfl)) w4 fun j hj => ⟨hj, fun w => hj (Or.inl w)⟩) hp1e rfl hq
      · rw [pk_un (by omega)]; exact q0
      · rw [pk_un (by omega)]; exact q6
    rcases hp1 with rfl | rfl
    · have hh := cont 0 rfl
      repeat' (first | (refine kx205 (t := 6) (W := kwN) ha (kMt_u ha hM3) hs3 hT3 (by decide) rfl (by decide) (by decide) ?_) | (refine ky_ok_stp rfl ?_; simp (disch := first | omega | assumption) only [ky_stp, ky_inv, ky_ldi, ky_ldl, ky_ldd, ky_lda, ky_cl2, ky_st1, ky_st2, ky_s1i, ky_s2i, ky_s1l, ky_s2l, ky_sli, ky_s1f, ky_s2f, ky_s1d, ky_s2d, ky_sr, ky_sai, ky_sasi, ky_sasl, ky_sasr, ky_svr, ky_sv, ky_sv2, ky_s1, ky_cs, ky_pop, ky_nth, ky_snt, ky_obj, ky_ari, ky_arl, ky_arr, ky_arn, ky_fv, ky_rcv, List.map_cons, List.map_nil, List.drop_succ_cons, List.drop_zero, Value.category, Nat.reduceAdd, Nat.reduceSub, true_and, and_true, true_or, or_true, reduceCtorEq, ite_true, ite_false, eq_self, Nat.reduceEqDiff, Nat.reduceLeDiff, nI_add, nI_1, nI_leI, nI_ltI, nI_eq, nI_clamp, kz_m1, kz_mn, kz_mn2, kz_n0, kz_0n, kz_0, kz_le0, kz_0lt, false_implies, true_implies, not_false_eq_true, not_true_eq_false, Nat.zero_le, kb_0, kz_10, kz_of, ky_sw, kz_mx, kz_mi, mh3, kz_up, kI_ne ha, h173, e18]) | (refine ⟨vp_in_nI (by omega) (by omega), ?_⟩) | (refine ⟨fun zc => ?_, fun zc => ?_⟩ <;> try (exfalso; omega)) | fail)
      intro f5 g5 w1 w2 w3 w4
      (try simp only [ky_aft, ky_vl, Nat.reduceAdd])
      exact hh f5 g5 w1 w2 w3 w4
    · have hh := cont 1 rfl
      repeat' (first | (refine kx205 (t := 6) (W := kwN) ha (kMt_u ha hM3) hs3 hT3 (by decide) rfl (by decide) (by decide) ?_) | (refine ky_ok_stp rfl ?_; simp (disch := first | omega | assumption) only [ky_stp, ky_inv, ky_ldi, ky_ldl, ky_ldd, ky_lda, ky_cl2, ky_st1, ky_st2, ky_s1i, ky_s2i, ky_s1l, ky_s2l, ky_sli, ky_s1f, ky_s2f, ky_s1d, ky_s2d, ky_sr, ky_sai, ky_sasi, ky_sasl, ky_sasr, ky_svr, ky_sv, ky_sv2, ky_s1, ky_cs, ky_pop, ky_nth, ky_snt, ky_obj, ky_ari, ky_arl, ky_arr, ky_arn, ky_fv, ky_rcv, List.map_cons, List.map_nil, List.drop_succ_cons, List.drop_zero, Value.category, Nat.reduceAdd, Nat.reduceSub, true_and, and_true, true_or, or_true, reduceCtorEq, ite_true, ite_false, eq_self, Nat.reduceEqDiff, Nat.reduceLeDiff, nI_add, nI_1, nI_leI, nI_ltI, nI_eq, nI_clamp, kz_m1, kz_mn, kz_mn2, kz_n0, kz_0n, kz_0, kz_le0, kz_0lt, false_implies, true_implies, not_false_eq_true, not_true_eq_false, Nat.zero_le, kb_0, kz_10, kz_of, ky_sw, kz_mx, kz_mi, mh3, kz_up, kI_ne ha, h173, e18]) | (refine ⟨vp_in_nI (by omega) (by omega), ?_⟩) | (refine ⟨fun zc => ?_, fun zc => ?_⟩ <;> try (exfalso; omega)) | fail)
      intro f5 g5 w1 w2 w3 w4
      (try simp only [ky_aft, ky_vl, Nat.reduceAdd])
      exact hh f5 g5 w1 w2 w3 w4
  have stB : ∀ f1 g1 l kd st s', kMt a f1 g1 L c → s' ≤ L → kTn c L s ≤ s' → kTq g1 c L s' → g1 10 = nI st → 1 ≤ l → l ≤ 6 → (∀ j, j < 4 ∨ 10 < j → g1 j = g j) → kfr a f f1 (fun j => j = 170) → kRy c L s = kRf c L l kd st s' → ky_ok adK 217 82 [some (.ref (a 170)), some (.int (nI (3 + l))), some (.int kd)] [] f1 0 0 Q := by
    intro f1 g1 l kd st s' hM1 hs' hsp hT1 hgt hl1 hl6 hg hF hY
    have mh1 := hM1.1
    unfold kMo at mh1
    have hr1 : f1 (a 173) = some (.inl (1, 388, .inl r)) := (hF 173 (by omega)).trans hr
    have hF' : kfr a f f1 (fun j => j = 170 ∨ j = 173) := fun j hj => hF j fun w => hj (Or.inl w)
    repeat' (first | (refine kx205 (t := 5) (W := kwO) ha (kMt_u ha (kMt_u ha hM1)) hs' hT1 (by decide) rfl (by decide) (by decide) ?_) | (refine ky_ok_stp rfl ?_; simp (disch := first | omega | assumption) only [ky_stp, ky_inv, ky_ldi, ky_ldl, ky_ldd, ky_lda, ky_cl2, ky_st1, ky_st2, ky_s1i, ky_s2i, ky_s1l, ky_s2l, ky_sli, ky_s1f, ky_s2f, ky_s1d, ky_s2d, ky_sr, ky_sai, ky_sasi, ky_sasl, ky_sasr, ky_svr, ky_sv, ky_sv2, ky_s1, ky_cs, ky_pop, ky_nth, ky_snt, ky_obj, ky_ari, ky_arl, ky_arr, ky_arn, ky_fv, ky_rcv, List.map_cons, List.map_nil, List.drop_succ_cons, List.drop_zero, Value.category, Nat.reduceAdd, Nat.reduceSub, true_and, and_true, true_or, or_true, reduceCtorEq, ite_true, ite_false, eq_self, Nat.reduceEqDiff, Nat.reduceLeDiff, nI_add, nI_1, nI_leI, nI_ltI, nI_eq, nI_clamp, kz_m1, kz_mn, kz_mn2, kz_n0, kz_0n, kz_0, kz_le0, kz_0lt, false_implies, true_implies, not_false_eq_true, not_true_eq_false, Nat.zero_le, kb_0, kz_10, kz_of, ky_sw, kz_mx, kz_mi, mh1, hgt, kz_up, kI_ne ha, hr1, Int32.add_zero, e6, e12]) | (refine ⟨vp_in_nI (by omega) (by omega), ?_⟩) | (refine ⟨fun zc => ?_, fun zc => ?_⟩ <;> try (exfalso; omega)) | fail)
    intro f3 g3 w1 w2 w3 w4
    (try simp only [ky_aft, ky_vl, Nat.reduceAdd])
    refine stC f3 g3 _ _ l kd st s' w1 hs' w2.1 ((w4 173 (by omega)).trans kz_same) hl1 hl6 ?_ pk_us (fun t t1 t2 t3 t4 => ?_) kp01 (fun j hj => (w3 j hj).trans (hg j hj)) (kfr_tr (kfr_up ha (kfr_up ha hF' (Or.inr rfl)) (Or.inr rfl)) w4 fun j hj => ⟨hj, fun w => hj (Or.inl w)⟩) rfl (hO l kd st s' hs' hsp hY hl1 hl6)
    · rw [pk_un (by omega), pk_us]
    · rw [pk_un t2, pk_un t1]
  refine ⟨Nat.le_of_ble_eq_true rfl, fun z => absurd z (by decide), ?_⟩; show ky_ok adK 217 0 [some (.ref (a 170)), none, none] [] f 0 0 _
  by_cases e0 : kTw c L s = kwS
  case neg =>
    have hq := hE 1 s (by decide) (by rw [kRy, if_pos e0])
    repeat' (first | (refine kx205 (t := 2) (W := kwS) ha hM hs hT (by decide) rfl (by decide) (by decide) ?_) | (refine ky_ok_stp rfl ?_; simp (disch := first | omega | assumption) only [ky_stp, ky_inv, ky_ldi, ky_ldl, ky_ldd, ky_lda, ky_cl2, ky_st1, ky_st2, ky_s1i, ky_s2i, ky_s1l, ky_s2l, ky_sli, ky_s1f, ky_s2f, ky_s1d, ky_s2d, ky_sr, ky_sai, ky_sasi, ky_sasl, ky_sasr, ky_svr, ky_sv, ky_sv2, ky_s1, ky_cs, ky_pop, ky_nth, ky_snt, ky_obj, ky_ari, ky_arl, ky_arr, ky_arn, ky_fv, ky_rcv, List.map_cons, List.map_nil, List.drop_succ_cons, List.drop_zero, Value.category, Nat.reduceAdd, Nat.reduceSub, true_and, and_true, true_or, or_true, reduceCtorEq, ite_true, ite_false, eq_self, Nat.reduceEqDiff, Nat.reduceLeDiff, nI_add, nI_1, nI_leI, nI_ltI, nI_eq, nI_clamp, kz_m1, kz_mn, kz_mn2, kz_n0, kz_0n, kz_0, kz_le0, kz_0lt, false_implies, true_implies, not_false_eq_true, not_true_eq_false, Nat.zero_le, kb_0, kz_10, kz_of, ky_sw, kz_mx, kz_mi, mh, if_neg e0]) | (refine ⟨vp_in_nI (by omega) (by omega), ?_⟩) | (refine ⟨fun zc => ?_, fun zc => ?_⟩ <;> try (exfalso; omega)) | fail)
    intro f1 g1 w1 w2 w3 w4
    rw [if_neg e0]
    (try simp only [ky_aft, ky_vl, Nat.reduceAdd])
    have w2' := w2.1
    rw [kNx, if_neg e0] at w2'
    have mh1 := w1.1
    unfold kMo at mh1
    repeat' (first | (refine kx206 (w := 1) ha w1 w2'.2.1 w2'.1.1 ?_) | (refine ky_ok_stp rfl ?_; simp (disch := first | omega | assumption) only [ky_stp, ky_inv, ky_ldi, ky_ldl, ky_ldd, ky_lda, ky_cl2, ky_st1, ky_st2, ky_s1i, ky_s2i, ky_s1l, ky_s2l, ky_sli, ky_s1f, ky_s2f, ky_s1d, ky_s2d, ky_sr, ky_sai, ky_sasi, ky_sasl, ky_sasr, ky_svr, ky_sv, ky_sv2, ky_s1, ky_cs, ky_pop, ky_nth, ky_snt, ky_obj, ky_ari, ky_arl, ky_arr, ky_arn, ky_fv, ky_rcv, List.map_cons, List.map_nil, List.drop_succ_cons, List.drop_zero, Value.category, Nat.reduceAdd, Nat.reduceSub, true_and, and_true, true_or, or_true, reduceCtorEq, ite_true, ite_false, eq_self, Nat.reduceEqDiff, Nat.reduceLeDiff, nI_add, nI_1, nI_leI, nI_ltI, nI_eq, nI_clamp, kz_m1, kz_mn, kz_mn2, kz_n0, kz_0n, kz_0, kz_le0, kz_0lt, false_implies, true_implies, not_false_eq_true, not_true_eq_false, Nat.zero_le, kb_0, kz_10, kz_of, ky_sw, kz_mx, kz_mi, mh1]) | (refine ⟨vp_in_nI (by omega) (by omega), ?_⟩) | (refine ⟨fun zc => ?_, fun zc => ?_⟩ <;> try (exfalso; omega)) | fail)
    have hq1 := kPQ_tr hq w3 w4
    intro f' g' w1 w2 w3 w4
    (try simp only [ky_aft, ky_vl, Nat.reduceAdd])
    repeat' (first | (refine ky_ok_stp rfl ?_; simp (disch := first | omega | assumption) only [ky_stp, ky_inv, ky_ldi, ky_ldl, ky_ldd, ky_lda, ky_cl2, ky_st1, ky_st2, ky_s1i, ky_s2i, ky_s1l, ky_s2l, ky_sli, ky_s1f, ky_s2f, ky_s1d, ky_s2d, ky_sr, ky_sai, ky_sasi, ky_sasl, ky_sasr, ky_svr, ky_sv, ky_sv2, ky_s1, ky_cs, ky_pop, ky_nth, ky_snt, ky_obj, ky_ari, ky_arl, ky_arr, ky_arn, ky_fv, ky_rcv, List.map_cons, List.map_nil, List.drop_succ_cons, List.drop_zero, Value.category, Nat.reduceAdd, Nat.reduceSub, true_and, and_true, true_or, or_true, reduceCtorEq, ite_true, ite_false, eq_self, Nat.reduceEqDiff, Nat.reduceLeDiff, nI_add, nI_1, nI_leI, nI_ltI, nI_eq, nI_clamp, kz_m1, kz_mn, kz_mn2, kz_n0, kz_0n, kz_0, kz_le0, kz_0lt, false_implies, true_implies, not_false_eq_true, not_true_eq_false, Nat.zero_le, kb_0, kz_10, kz_of, ky_sw, kz_mx, kz_mi]) | (refine ⟨vp_in_nI (by omega) (by omega), ?_⟩) | (refine ⟨fun zc => ?_, fun zc => ?_⟩ <;> try (exfalso; omega)) | fail)
    (first | exact hq1 f' g' w1 w2 w3 w4 | exact ⟨by decide, hq1 f' g' w1 w2 w3 w4⟩)
  repeat' (first | (refine kx205 (t := 2) (W := kwS) ha hM hs hT (by decide) rfl (by decide) (by decide) ?_) | (refine ky_ok_stp rfl ?_; simp (disch := first | omega | assumption) only [ky_stp, ky_inv, ky_ldi, ky_ldl, ky_ldd, ky_lda, ky_cl2, ky_st1, ky_st2, ky_s1i, ky_s2i, ky_s1l, ky_s2l, ky_sli, ky_s1f, ky_s2f, ky_s1d, ky_s2d, ky_sr, ky_sai, ky_sasi, ky_sasl, ky_sasr, ky_svr, ky_sv, ky_sv2, ky_s1, ky_cs, ky_pop, ky_nth, ky_snt, ky_obj, ky_ari, ky_arl, ky_arr, ky_arn, ky_fv, ky_rcv, List.map_cons, List.map_nil, List.drop_succ_cons, List.drop_zero, Value.category, Nat.reduceAdd, Nat.reduceSub, true_and, and_true, true_or, or_true, reduceCtorEq, ite_true, ite_false, eq_self, Nat.reduceEqDiff, Nat.reduceLeDiff, nI_add, nI_1, nI_leI, nI_ltI, nI_eq, nI_clamp, kz_m1, kz_mn, kz_mn2, kz_n0, kz_0n, kz_0, kz_le0, kz_0lt, false_implies, true_implies, not_false_eq_true, not_true_eq_false, Nat.zero_le, kb_0, kz_10, kz_of, ky_sw, kz_mx, kz_mi, mh]) | (refine ⟨vp_in_nI (by omega) (by omega), ?_⟩) | (refine ⟨fun zc => ?_, fun zc => ?_⟩ <;> try (exfalso; omega)) | fail)
  intro f1 g1 w1 w2 hg1 hF1
  rw [if_pos e0]
  (try simp only [ky_aft, ky_vl, Nat.reduceAdd])
  have hT1 := w2.1
  rw [kNx, if_pos e0] at hT1
  have mh1 := w1.1
  unfold kMo at mh1
  repeat' (first | (refine kx207 (l := 1) (n := 6) ha w1 n1.2 hT1 (by decide) (by decide) (fun k2 kv => ?_) (fun k2 => ?_) (fun k2 kv => ?_)) | (refine ky_ok_stp rfl ?_; simp (disch := first | omega | assumption) only [ky_stp, ky_inv, ky_ldi, ky_ldl, ky_ldd, ky_lda, ky_cl2, ky_st1, ky_st2, ky_s1i, ky_s2i, ky_s1l, ky_s2l, ky_sli, ky_s1f, ky_s2f, ky_s1d, ky_s2d, ky_sr, ky_sai, ky_sasi, ky_sasl, ky_sasr, ky_svr, ky_sv, ky_sv2, ky_s1, ky_cs, ky_pop, ky_nth, ky_snt, ky_obj, ky_ari, ky_arl, ky_arr, ky_arn, ky_fv, ky_rcv, List.map_cons, List.map_nil, List.drop_succ_cons, List.drop_zero, Value.category, Nat.reduceAdd, Nat.reduceSub, true_and, and_true, true_or, or_true, reduceCtorEq, ite_true, ite_false, eq_self, Nat.reduceEqDiff, Nat.reduceLeDiff, nI_add, nI_1, nI_leI, nI_ltI, nI_eq, nI_clamp, kz_m1, kz_mn, kz_mn2, kz_n0, kz_0n, kz_0, kz_le0, kz_0lt, false_implies, true_implies, not_false_eq_true, not_true_eq_false, Nat.zero_le, kb_0, kz_10, kz_of, ky_sw, kz_mx, kz_mi, mh1]) | (refine ⟨vp_in_nI (by omega) (by omega), ?_⟩) | (refine ⟨fun zc => ?_, fun zc => ?_⟩ <;> try (exfalso; omega)) | fail)
  case refine_2 =>
    have hq := kPQ_tr (hE 1 (kTn c L s) (by decide) (by rw [kRy, if_neg (fun z => z e0), if_pos k2])) hg1 hF1
    intro f' g' w1 w2 w3 w4
    (try simp only [ky_aft, ky_vl, Nat.reduceAdd])
    repeat' (first | (refine ky_ok_stp rfl ?_; simp (disch := first | omega | assumption) only [ky_stp, ky_inv, ky_ldi, ky_ldl, ky_ldd, ky_lda, ky_cl2, ky_st1, ky_st2, ky_s1i, ky_s2i, ky_s1l, ky_s2l, ky_sli, ky_s1f, ky_s2f, ky_s1d, ky_s2d, ky_sr, ky_sai, ky_sasi, ky_sasl, ky_sasr, ky_svr, ky_sv, ky_sv2, ky_s1, ky_cs, ky_pop, ky_nth, ky_snt, ky_obj, ky_ari, ky_arl, ky_arr, ky_arn, ky_fv, ky_rcv, List.map_cons, List.map_nil, List.drop_succ_cons, List.drop_zero, Value.category, Nat.reduceAdd, Nat.reduceSub, true_and, and_true, true_or, or_true, reduceCtorEq, ite_true, ite_false, eq_self, Nat.reduceEqDiff, Nat.reduceLeDiff, nI_add, nI_1, nI_leI, nI_ltI, nI_eq, nI_clamp, kz_m1, kz_mn, kz_mn2, kz_n0, kz_0n, kz_0, kz_le0, kz_0lt, false_implies, true_implies, not_false_eq_true, not_true_eq_false, Nat.zero_le, kb_0, kz_10, kz_of, ky_sw, kz_mx, kz_mi]) | (refine ⟨vp_in_nI (by omega) (by omega), ?_⟩) | (refine ⟨fun zc => ?_, fun zc => ?_⟩ <;> try (exfalso; omega)) | fail)
    (first | exact hq f' g' w1 w2 w3 w4 | exact ⟨by decide, hq f' g' w1 w2 w3 w4⟩)
  case refine_3 =>
    have hq := kPQ_tr (hE 2 (kTn c L s) (by decide) (by rw [kRy, if_neg (fun z => z e0), if_neg (fun z => z k2), if_pos kv])) hg1 hF1
    intro f' g' w1 w2 w3 w4
    (try simp only [ky_aft, ky_vl, Nat.reduceAdd])
    repeat' (first | (refine ky_ok_stp rfl ?_; simp (disch := first | omega | assumption) only [ky_stp, ky_inv, ky_ldi, ky_ldl, ky_ldd, ky_lda, ky_cl2, ky_st1, ky_st2, ky_s1i, ky_s2i, ky_s1l, ky_s2l, ky_sli, ky_s1f, ky_s2f, ky_s1d, ky_s2d, ky_sr, ky_sai, ky_sasi, ky_sasl, ky_sasr, ky_svr, ky_sv, ky_sv2, ky_s1, ky_cs, ky_pop, ky_nth, ky_snt, ky_obj, ky_ari, ky_arl, ky_arr, ky_arn, ky_fv, ky_rcv, List.map_cons, List.map_nil, List.drop_succ_cons, List.drop_zero, Value.category, Nat.reduceAdd, Nat.reduceSub, true_and, and_true, true_or, or_true, reduceCtorEq, ite_true, ite_false, eq_self, Nat.reduceEqDiff, Nat.reduceLeDiff, nI_add, nI_1, nI_leI, nI_ltI, nI_eq, nI_clamp, kz_m1, kz_mn, kz_mn2, kz_n0, kz_0n, kz_0, kz_le0, kz_0lt, false_implies, true_implies, not_false_eq_true, not_true_eq_false, Nat.zero_le, kb_0, kz_10, kz_of, ky_sw, kz_mx, kz_mi]) | (refine ⟨vp_in_nI (by omega) (by omega), ?_⟩) | (refine ⟨fun zc => ?_, fun zc => ?_⟩ <;> try (exfalso; omega)) | fail)
    (first | exact hq f' g' w1 w2 w3 w4 | exact ⟨by decide, hq f' g' w1 w2 w3 w4⟩)
  generalize hl : kTv c L (kTn c L s) = l at kv
  intro f2 g2 w1 w2 w3 w4
  (try simp only [ky_aft, ky_vl, Nat.reduceAdd])
  have hg2 : ∀ j, j < 4 ∨ 10 < j → g2 j = g j := fun j hj => (w3 j hj).trans (hg1 j hj)
  have hF2 : kfr a f f2 (fun j => j = 170) := kfr_tr hF1 w4 fun j hj => ⟨hj, hj⟩
  have mh2 := w1.1
  unfold kMo at mh2
  have hgt := w2.2
  have hT2 := w2.1
  have es : nI (4 + l) - 1 = nI (3 + l) := by
    rw [show (1 : Int32) = nI 1 from rfl, nI_sub (by omega)]; congr 1; omega
  by_cases e3 : kIw kWst (kTw c L (kTn c L (kTn c L s))) 0 = -1
  · have hq := kPQ_tr (hE 1 (kTn c L (kTn c L s)) (by decide) (by rw [kRy, if_neg (fun z => z e0), if_neg (fun z => z k2), hl, if_neg kv, if_pos e3])) hg2 hF2
    repeat' (first | (refine kx216 w1 n2.2 hT2.1 ?_; simp only [ky_aft, ky_vl, Nat.reduceAdd]) | (refine kx206 (w := 1) ha w1 hT2.2.1 hT2.1.1 ?_) | (refine ky_ok_stp rfl ?_; simp (disch := first | omega | assumption) only [ky_stp, ky_inv, ky_ldi, ky_ldl, ky_ldd, ky_lda, ky_cl2, ky_st1, ky_st2, ky_s1i, ky_s2i, ky_s1l, ky_s2l, ky_sli, ky_s1f, ky_s2f, ky_s1d, ky_s2d, ky_sr, ky_sai, ky_sasi, ky_sasl, ky_sasr, ky_svr, ky_sv, ky_sv2, ky_s1, ky_cs, ky_pop, ky_nth, ky_snt, ky_obj, ky_ari, ky_arl, ky_arr, ky_arn, ky_fv, ky_rcv, List.map_cons, List.map_nil, List.drop_succ_cons, List.drop_zero, Value.category, Nat.reduceAdd, Nat.reduceSub, true_and, and_true, true_or, or_true, reduceCtorEq, ite_true, ite_false, eq_self, Nat.reduceEqDiff, Nat.reduceLeDiff, nI_add, nI_1, nI_leI, nI_ltI, nI_eq, nI_clamp, kz_m1, kz_mn, kz_mn2, kz_n0, kz_0n, kz_0, kz_le0, kz_0lt, false_implies, true_implies, not_false_eq_true, not_true_eq_false, Nat.zero_le, kb_0, kz_10, kz_of, ky_sw, kz_mx, kz_mi, mh2, hgt, e4, es, e3]) | (refine ⟨vp_in_nI (by omega) (by omega), ?_⟩) | (refine ⟨fun zc => ?_, fun zc => ?_⟩ <;> try (exfalso; omega)) | fail)
    intro f' g' w1 w2 w3 w4
    (try simp only [ky_aft, ky_vl, Nat.reduceAdd])
    repeat' (first | (refine ky_ok_stp rfl ?_; simp (disch := first | omega | assumption) only [ky_stp, ky_inv, ky_ldi, ky_ldl, ky_ldd, ky_lda, ky_cl2, ky_st1, ky_st2, ky_s1i, ky_s2i, ky_s1l, ky_s2l, ky_sli, ky_s1f, ky_s2f, ky_s1d, ky_s2d, ky_sr, ky_sai, ky_sasi, ky_sasl, ky_sasr, ky_svr, ky_sv, ky_sv2, ky_s1, ky_cs, ky_pop, ky_nth, ky_snt, ky_obj, ky_ari, ky_arl, ky_arr, ky_arn, ky_fv, ky_rcv, List.map_cons, List.map_nil, List.drop_succ_cons, List.drop_zero, Value.category, Nat.reduceAdd, Nat.reduceSub, true_and, and_true, true_or, or_true, reduceCtorEq, ite_true, ite_false, eq_self, Nat.reduceEqDiff, Nat.reduceLeDiff, nI_add, nI_1, nI_leI, nI_ltI, nI_eq, nI_clamp, kz_m1, kz_mn, kz_mn2, kz_n0, kz_0n, kz_0, kz_le0, kz_0lt, false_implies, true_implies, not_false_eq_true, not_true_eq_false, Nat.zero_le, kb_0, kz_10, kz_of, ky_sw, kz_mx, kz_mi]) | (refine ⟨vp_in_nI (by omega) (by omega), ?_⟩) | (refine ⟨fun zc => ?_, fun zc => ?_⟩ <;> try (exfalso; omega)) | fail)
    (first | exact hq f' g' w1 w2 w3 w4 | exact ⟨by decide, hq f' g' w1 w2 w3 w4⟩)
  generalize hkd : kIw kWst (kTw c L (kTn c L (kTn c L s))) 0 = kd at e3
  have hn217 := hkd
  repeat' (first | (refine kx216 w1 n2.2 hT2.1 ?_; simp only [ky_aft, ky_vl, Nat.reduceAdd]) | (refine kx203q ha w1 n2.2 hT2 ?_) | (refine ky_ok_stp rfl ?_; simp (disch := first | omega | assumption) only [ky_stp, ky_inv, ky_ldi, ky_ldl, ky_ldd, ky_lda, ky_cl2, ky_st1, ky_st2, ky_s1i, ky_s2i, ky_s1l, ky_s2l, ky_sli, ky_s1f, ky_s2f, ky_s1d, ky_s2d, ky_sr, ky_sai, ky_sasi, ky_sasl, ky_sasr, ky_svr, ky_sv, ky_sv2, ky_s1, ky_cs, ky_pop, ky_nth, ky_snt, ky_obj, ky_ari, ky_arl, ky_arr, ky_arn, ky_fv, ky_rcv, List.map_cons, List.map_nil, List.drop_succ_cons, List.drop_zero, Value.category, Nat.reduceAdd, Nat.reduceSub, true_and, and_true, true_or, or_true, reduceCtorEq, ite_true, ite_false, eq_self, Nat.reduceEqDiff, Nat.reduceLeDiff, nI_add, nI_1, nI_leI, nI_ltI, nI_eq, nI_clamp, kz_m1, kz_mn, kz_mn2, kz_n0, kz_0n, kz_0, kz_le0, kz_0lt, false_implies, true_implies, not_false_eq_true, not_true_eq_false, Nat.zero_le, kb_0, kz_10, kz_of, ky_sw, kz_mx, kz_mi, mh2, hgt, e4, es, hkd, eq_false e3]) | (refine ⟨vp_in_nI (by omega) (by omega), ?_⟩) | (refine ⟨fun zc => ?_, fun zc => ?_⟩ <;> try (exfalso; omega)) | fail)
  intro f3 g3 u1 u2 u3 u4
  (try simp only [ky_aft, ky_vl, Nat.reduceAdd])
  have hg3 : ∀ j, j < 4 ∨ 10 < j → g3 j = g j := fun j hj => (u3 j hj).trans (hg2 j hj)
  have hF3 : kfr a f f3 (fun j => j = 170) := kfr_tr hF2 u4 fun j hj => ⟨hj, hj⟩
  have mh3 := u1.1
  unfold kMo at mh3
  have hM3 : ∀ e, kMo a (ky_up f3 (a 170) e) (upd g3 10 1) → kMt a (ky_up f3 (a 170) e) (upd g3 10 1) L c := fun e h => kMt_up u1 h rfl (kfr_up ha kfr_rf rfl)
  have hT3 : kTq (upd g3 10 1) c L (kTn c L (kTn c L (kTn c L s))) := u2.1
  by_cases e4' : kTw c L (kTn c L (kTn c L (kTn c L s))) = kwM
  case neg =>
    have hY : kRy c L s = kRf c L l kd 1 (kTn c L (kTn c L (kTn c L s))) := by rw [kRy, if_neg (fun z => z e0), if_neg (fun z => z k2), hl, if_neg kv, hkd, if_neg e3, if_neg e4']
    repeat' (first | (refine kx205 (t := 4) (W := kwM) ha (hM3 _ (by unfold kMo; rw [kz_same]; rfl)) n3.2 hT3 (by decide) rfl (by decide) (by decide) ?_) | (refine ky_ok_stp rfl ?_; simp (disch := first | omega | assumption) only [ky_stp, ky_inv, ky_ldi, ky_ldl, ky_ldd, ky_lda, ky_cl2, ky_st1, ky_st2, ky_s1i, ky_s2i, ky_s1l, ky_s2l, ky_sli, ky_s1f, ky_s2f, ky_s1d, ky_s2d, ky_sr, ky_sai, ky_sasi, ky_sasl, ky_sasr, ky_svr, ky_sv, ky_sv2, ky_s1, ky_cs, ky_pop, ky_nth, ky_snt, ky_obj, ky_ari, ky_arl, ky_arr, ky_arn, ky_fv, ky_rcv, List.map_cons, List.map_nil, List.drop_succ_cons, List.drop_zero, Value.category, Nat.reduceAdd, Nat.reduceSub, true_and, and_true, true_or, or_true, reduceCtorEq, ite_true, ite_false, eq_self, Nat.reduceEqDiff, Nat.reduceLeDiff, nI_add, nI_1, nI_leI, nI_ltI, nI_eq, nI_clamp, kz_m1, kz_mn, kz_mn2, kz_n0, kz_0n, kz_0, kz_le0, kz_0lt, false_implies, true_implies, not_false_eq_true, not_true_eq_false, Nat.zero_le, kb_0, kz_10, kz_of, ky_sw, kz_mx, kz_mi, mh3, kz_up]) | (refine ⟨vp_in_nI (by omega) (by omega), ?_⟩) | (refine ⟨fun zc => ?_, fun zc => ?_⟩ <;> try (exfalso; omega)) | fail)
    intro f4 g4 w1 w2 w3 w4
    rw [if_neg e4']
    (try simp only [ky_aft, ky_vl, Nat.reduceAdd])
    have w2' := w2.1
    rw [kNx, if_neg e4'] at w2'
    have hst := stB f4 g4 l kd 1 _ w1 n3.2 (by omega) w2' (w2.2.trans pk_us) (by omega) (by omega) (fun j hj => (w3 j hj).trans ((pk_un (by omega)).trans (hg3 j hj))) (kfr_tr (kfr_up (S := fun j => j = 170) ha hF3 rfl) w4 fun j hj => ⟨hj, hj⟩) hY
    repeat' (first | (exact hst) | (refine ky_ok_stp rfl ?_; simp (disch := first | omega | assumption) only [ky_stp, ky_inv, ky_ldi, ky_ldl, ky_ldd, ky_lda, ky_cl2, ky_st1, ky_st2, ky_s1i, ky_s2i, ky_s1l, ky_s2l, ky_sli, ky_s1f, ky_s2f, ky_s1d, ky_s2d, ky_sr, ky_sai, ky_sasi, ky_sasl, ky_sasr, ky_svr, ky_sv, ky_sv2, ky_s1, ky_cs, ky_pop, ky_nth, ky_snt, ky_obj, ky_ari, ky_arl, ky_arr, ky_arn, ky_fv, ky_rcv, List.map_cons, List.map_nil, List.drop_succ_cons, List.drop_zero, Value.category, Nat.reduceAdd, Nat.reduceSub, true_and, and_true, true_or, or_true, reduceCtorEq, ite_true, ite_false, eq_self, Nat.reduceEqDiff, Nat.reduceLeDiff, nI_add, nI_1, nI_leI, nI_ltI, nI_eq, nI_clamp, kz_m1, kz_mn, kz_mn2, kz_n0, kz_0n, kz_0, kz_le0, kz_0lt, false_implies, true_implies, not_false_eq_true, not_true_eq_false, Nat.zero_le, kb_0, kz_10, kz_of, ky_sw, kz_mx, kz_mi]) | (refine ⟨vp_in_nI (by omega) (by omega), ?_⟩) | (refine ⟨fun zc => ?_, fun zc => ?_⟩ <;> try (exfalso; omega)) | fail)
  repeat' (first | (refine kx205 (t := 4) (W := kwM) ha (hM3 _ (by unfold kMo; rw [kz_same]; rfl)) n3.2 hT3 (by decide) rfl (by decide) (by decide) ?_) | (refine ky_ok_stp rfl ?_; simp (disch := first | omega | assumption) only [ky_stp, ky_inv, ky_ldi, ky_ldl, ky_ldd, ky_lda, ky_cl2, ky_st1, ky_st2, ky_s1i, ky_s2i, ky_s1l, ky_s2l, ky_sli, ky_s1f, ky_s2f, ky_s1d, ky_s2d, ky_sr, ky_sai, ky_sasi, ky_sasl, ky_sasr, ky_svr, ky_sv, ky_sv2, ky_s1, ky_cs, ky_pop, ky_nth, ky_snt, ky_obj, ky_ari, ky_arl, ky_arr, ky_arn, ky_fv, ky_rcv, List.map_cons, List.map_nil, List.drop_succ_cons, List.drop_zero, Value.category, Nat.reduceAdd, Nat.reduceSub, true_and, and_true, true_or, or_true, reduceCtorEq, ite_true, ite_false, eq_self, Nat.reduceEqDiff, Nat.reduceLeDiff, nI_add, nI_1, nI_leI, nI_ltI, nI_eq, nI_clamp, kz_m1, kz_mn, kz_mn2, kz_n0, kz_0n, kz_0, kz_le0, kz_0lt, false_implies, true_implies, not_false_eq_true, not_true_eq_false, Nat.zero_le, kb_0, kz_10, kz_of, ky_sw, kz_mx, kz_mi, mh3, kz_up]) | (refine ⟨vp_in_nI (by omega) (by omega), ?_⟩) | (refine ⟨fun zc => ?_, fun zc => ?_⟩ <;> try (exfalso; omega)) | fail)
  intro f4 g4 w1 w2 w3 w4
  rw [if_pos e4']
  (try simp only [ky_aft, ky_vl, Nat.reduceAdd])
  have hT4 := w2.1
  rw [kNx, if_pos e4'] at hT4
  have hg4 : ∀ j, j < 4 ∨ 10 < j → g4 j = g j := fun j hj => (w3 j hj).trans ((pk_un (by omega)).trans (hg3 j hj))
  have hF4 : kfr a f f4 (fun j => j = 170) := kfr_tr (kfr_up (S := fun j => j = 170) ha hF3 rfl) w4 fun j hj => ⟨hj, hj⟩
  have mh4 := w1.1
  unfold kMo at mh4
  have e99 : (99 : Int32) = nI 99 := rfl
  repeat' (first | (refine kx207 (l := 1) (n := 99) ha w1 n4.2 hT4 (by decide) (by decide) (fun j2 jv => ?_) (fun j2 => ?_) (fun j2 jv => ?_)) | (refine ky_ok_stp rfl ?_; simp (disch := first | omega | assumption) only [ky_stp, ky_inv, ky_ldi, ky_ldl, ky_ldd, ky_lda, ky_cl2, ky_st1, ky_st2, ky_s1i, ky_s2i, ky_s1l, ky_s2l, ky_sli, ky_s1f, ky_s2f, ky_s1d, ky_s2d, ky_sr, ky_sai, ky_sasi, ky_sasl, ky_sasr, ky_svr, ky_sv, ky_sv2, ky_s1, ky_cs, ky_pop, ky_nth, ky_snt, ky_obj, ky_ari, ky_arl, ky_arr, ky_arn, ky_fv, ky_rcv, List.map_cons, List.map_nil, List.drop_succ_cons, List.drop_zero, Value.category, Nat.reduceAdd, Nat.reduceSub, true_and, and_true, true_or, or_true, reduceCtorEq, ite_true, ite_false, eq_self, Nat.reduceEqDiff, Nat.reduceLeDiff, nI_add, nI_1, nI_leI, nI_ltI, nI_eq, nI_clamp, kz_m1, kz_mn, kz_mn2, kz_n0, kz_0n, kz_0, kz_le0, kz_0lt, false_implies, true_implies, not_false_eq_true, not_true_eq_false, Nat.zero_le, kb_0, kz_10, kz_of, ky_sw, kz_mx, kz_mi, mh4]) | (refine ⟨vp_in_nI (by omega) (by omega), ?_⟩) | (refine ⟨fun zc => ?_, fun zc => ?_⟩ <;> try (exfalso; omega)) | fail)
  case refine_2 =>
    have hq := kPQ_tr (hE 1 (kTn c L (kTn c L (kTn c L (kTn c L s)))) (by decide) (by rw [kRy, if_neg (fun z => z e0), if_neg (fun z => z k2), hl, if_neg kv, hkd, if_neg e3, if_pos e4', if_pos j2])) hg4 hF4
    intro f' g' w1 w2 w3 w4
    (try simp only [ky_aft, ky_vl, Nat.reduceAdd])
    repeat' (first | (refine ky_ok_stp rfl ?_; simp (disch := first | omega | assumption) only [ky_stp, ky_inv, ky_ldi, ky_ldl, ky_ldd, ky_lda, ky_cl2, ky_st1, ky_st2, ky_s1i, ky_s2i, ky_s1l, ky_s2l, ky_sli, ky_s1f, ky_s2f, ky_s1d, ky_s2d, ky_sr, ky_sai, ky_sasi, ky_sasl, ky_sasr, ky_svr, ky_sv, ky_sv2, ky_s1, ky_cs, ky_pop, ky_nth, ky_snt, ky_obj, ky_ari, ky_arl, ky_arr, ky_arn, ky_fv, ky_rcv, List.map_cons, List.map_nil, List.drop_succ_cons, List.drop_zero, Value.category, Nat.reduceAdd, Nat.reduceSub, true_and, and_true, true_or, or_true, reduceCtorEq, ite_true, ite_false, eq_self, Nat.reduceEqDiff, Nat.reduceLeDiff, nI_add, nI_1, nI_leI, nI_ltI, nI_eq, nI_clamp, kz_m1, kz_mn, kz_mn2, kz_n0, kz_0n, kz_0, kz_le0, kz_0lt, false_implies, true_implies, not_false_eq_true, not_true_eq_false, Nat.zero_le, kb_0, kz_10, kz_of, ky_sw, kz_mx, kz_mi]) | (refine ⟨vp_in_nI (by omega) (by omega), ?_⟩) | (refine ⟨fun zc => ?_, fun zc => ?_⟩ <;> try (exfalso; omega)) | fail)
    (first | exact hq f' g' w1 w2 w3 w4 | exact ⟨by decide, hq f' g' w1 w2 w3 w4⟩)
  case refine_3 =>
    have hq := kPQ_tr (hE 2 (kTn c L (kTn c L (kTn c L (kTn c L s)))) (by decide) (by rw [kRy, if_neg (fun z => z e0), if_neg (fun z => z k2), hl, if_neg kv, hkd, if_neg e3, if_pos e4', if_neg (fun z => z j2), if_pos jv])) hg4 hF4
    intro f' g' w1 w2 w3 w4
    (try simp only [ky_aft, ky_vl, Nat.reduceAdd])
    repeat' (first | (refine ky_ok_stp rfl ?_; simp (disch := first | omega | assumption) only [ky_stp, ky_inv, ky_ldi, ky_ldl, ky_ldd, ky_lda, ky_cl2, ky_st1, ky_st2, ky_s1i, ky_s2i, ky_s1l, ky_s2l, ky_sli, ky_s1f, ky_s2f, ky_s1d, ky_s2d, ky_sr, ky_sai, ky_sasi, ky_sasl, ky_sasr, ky_svr, ky_sv, ky_sv2, ky_s1, ky_cs, ky_pop, ky_nth, ky_snt, ky_obj, ky_ari, ky_arl, ky_arr, ky_arn, ky_fv, ky_rcv, List.map_cons, List.map_nil, List.drop_succ_cons, List.drop_zero, Value.category, Nat.reduceAdd, Nat.reduceSub, true_and, and_true, true_or, or_true, reduceCtorEq, ite_true, ite_false, eq_self, Nat.reduceEqDiff, Nat.reduceLeDiff, nI_add, nI_1, nI_leI, nI_ltI, nI_eq, nI_clamp, kz_m1, kz_mn, kz_mn2, kz_n0, kz_0n, kz_0, kz_le0, kz_0lt, false_implies, true_implies, not_false_eq_true, not_true_eq_false, Nat.zero_le, kb_0, kz_10, kz_of, ky_sw, kz_mx, kz_mi]) | (refine ⟨vp_in_nI (by omega) (by omega), ?_⟩) | (refine ⟨fun zc => ?_, fun zc => ?_⟩ <;> try (exfalso; omega)) | fail)
    (first | exact hq f' g' w1 w2 w3 w4 | exact ⟨by decide, hq f' g' w1 w2 w3 w4⟩)
  have hY : kRy c L s = kRf c L l kd (kTv c L (kTn c L (kTn c L (kTn c L (kTn c L s))))) (kTn c L (kTn c L (kTn c L (kTn c L (kTn c L s))))) := by rw [kRy, if_neg (fun z => z e0), if_neg (fun z => z k2), hl, if_neg kv, hkd, if_neg e3, if_pos e4', if_neg (fun z => z j2), if_neg jv]
  intro f5 g5 w1 w2 w3 w4
  (try simp only [ky_aft, ky_vl, Nat.reduceAdd])
  have hst := stB f5 g5 l kd _ _ w1 n5.2 (by omega) w2.1 w2.2 (by omega) (by omega) (fun j hj => (w3 j hj).trans (hg4 j hj)) (kfr_tr hF4 w4 fun j hj => ⟨hj, hj⟩) hY
  repeat' (first | (exact hst) | (refine ky_ok_stp rfl ?_; simp (disch := first | omega | assumption) only [ky_stp, ky_inv, ky_ldi, ky_ldl, ky_ldd, ky_lda, ky_cl2, ky_st1, ky_st2, ky_s1i, ky_s2i, ky_s1l, ky_s2l, ky_sli, ky_s1f, ky_s2f, ky_s1d, ky_s2d, ky_sr, ky_sai, ky_sasi, ky_sasl, ky_sasr, ky_svr, ky_sv, ky_sv2, ky_s1, ky_cs, ky_pop, ky_nth, ky_snt, ky_obj, ky_ari, ky_arl, ky_arr, ky_arn, ky_fv, ky_rcv, List.map_cons, List.map_nil, List.drop_succ_cons, List.drop_zero, Value.category, Nat.reduceAdd, Nat.reduceSub, true_and, and_true, true_or, or_true, reduceCtorEq, ite_true, ite_false, eq_self, Nat.reduceEqDiff, Nat.reduceLeDiff, nI_add, nI_1, nI_leI, nI_ltI, nI_eq, nI_clamp, kz_m1, kz_mn, kz_mn2, kz_n0, kz_0n, kz_0, kz_le0, kz_0lt, false_implies, true_implies, not_false_eq_true, not_true_eq_false, Nat.zero_le, kb_0, kz_10, kz_of, ky_sw, kz_mx, kz_mi]) | (refine ⟨vp_in_nI (by omega) (by omega), ?_⟩) | (refine ⟨fun zc => ?_, fun zc => ?_⟩ <;> try (exfalso; omega)) | fail)
end KXM
