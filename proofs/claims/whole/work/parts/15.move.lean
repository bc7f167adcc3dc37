/-! ## an outline in which a branch is moved -/
/-- which heading (i) stands at j when the branch from p to e goes to t -/
def kMr (p e t i j : Nat) : Prop := (t ≤ p ∧ (j < t ∧ i = j ∨ t ≤ j ∧ j + p < t + e ∧ i + t = j + p ∨ t + e ≤ j + p ∧ j < e ∧ i + e = j + p ∨ e ≤ j ∧ i = j)) ∨ (p < t ∧ (j < p ∧ i = j ∨ p ≤ j ∧ j + e < p + t ∧ i + p = j + e ∨ p + t ≤ j + e ∧ j < t ∧ i + t = j + e ∨ t ≤ j ∧ i = j))
theorem kz_tr {α β : Type} {x y z : α} {u v w : β} (h : x = y ∧ u = v) (h' : y = z ∧ v = w) : x = z ∧ u = w := ⟨h.1.trans h'.1, h.2.trans h'.2⟩
section KXM
variable {adK a : Nat → Nat} {k k2 n n2 p t e to w : Nat} {f : ky_H} {R R2 : Nat → kR} {G G2 : Nat → Int32} {S S2 : Nat → Nat → Int32} {Q : ky_Q}
theorem kx51 (ha : kI a) (hk : k + 10 < k2 ∨ k2 + 10 < k) (hW : kW a k f n R G) (hS : kS a k f S) (hW2 : kW a k2 f n2 R2 G2) (hS2 : kS a k2 f S2) (hn2 : n2 ≤ 60) (hp : p < n2) (ht : t < n2) (hw : w ≤ 3)
    (he : kE (kL R2) (kL R2 p) (p + 1) (n2 - (p + 1)) = e) (hto : kPB (kL R2) n2 (t + 1) w = to) (hok : to ≤ p ∨ e ≤ to)
    (hQ : ∀ f' R' G' S', kW a k f' n2 R' G' → kS a k f' S' → kfr a f f' (kBl k) → (∀ i j, j < n2 → kMr p e to i j → R' j = (if p ≤ i ∧ i < e then ksh (kLB (kL R2) (t + 1) w - kL R2 p) (R2 i) else R2 i) ∧ G' j = nI i) → (∀ l, 1 ≤ l → l ≤ 6 → kSq S' S2 l) → Q (.inl (some (.int (nI (if to ≤ p then to else to - (e - p)))))) f') :
    ky_cl adK 51 [.ref (a k), .ref (a k2), .int (nI p), .int (nI t), .int (nI w)] f Q := by
  have zb := kE_le (kL R2) (kL R2 p) (n2 - (p + 1)) (p + 1)
  rw [he] at zb
  have zt : to ≤ n2 := by
    rw [← hto, kPB]
    have := kE_le (kL R2) (kLv (kL R2) (t + 1)) (n2 - (t + 1)) (t + 1)
    split
    · omega
    · split <;> omega
  have y0 := kW_lv hW
  have v0 := kW_lv hW2
  have g1 := hS.1
  have g2 := hS2.1
  refine ⟨Nat.le_of_ble_eq_true rfl, fun z => absurd z (by decide), ?_⟩
  show ky_ok adK 51 0 [some (.ref (a k)), some (.ref (a k2)), some (.int (nI p)), some (.int (nI t)), some (.int (nI w)), none, none, none, none] [] f 0 0 _
  by_cases hc : to ≤ p
  · rw [if_pos hc] at hQ
    have zmi : min to p = to := by omega
    have zmx : max to e = e := by omega
    repeat' (first
    | (refine ky_ok_stp rfl ?_; simp (disch := first | omega | assumption) only [ky_stp, ky_inv, ky_ldi, ky_ldl, ky_ldd, ky_lda, ky_cl2, ky_st1, ky_st2, ky_s1i, ky_s2i, ky_s1l, ky_s2l, ky_sli, ky_s1f, ky_s2f, ky_s1d, ky_s2d, ky_sr, ky_sai, ky_sasi, ky_sasl, ky_sasr, ky_svr, ky_sv, ky_sv2, ky_s1, ky_cs, ky_pop, ky_nth, ky_snt, ky_obj, ky_ari, ky_arl, ky_arr, ky_arn, ky_fv, ky_rcv, List.map_cons, List.map_nil, List.drop_succ_cons, List.drop_zero, Value.category, Nat.reduceAdd, Nat.reduceSub, true_and, and_true, true_or, or_true, reduceCtorEq, ite_true, ite_false, eq_self, Nat.reduceEqDiff, Nat.reduceLeDiff, nI_add, nI_1, nI_leI, nI_ltI, nI_eq, nI_clamp, kz_m1, kz_mn, kz_mn2, kz_n0, kz_0n, kz_0, kz_le0, kz_0lt, false_implies, true_implies, not_false_eq_true, not_true_eq_false, Nat.zero_le, kb_0, kz_10, kz_of, ky_sw, kz_mx, kz_mi, y0, v0])
    | (refine ⟨vp_in_nI (by omega) (by omega), ?_⟩)
    | (refine ⟨fun zc => ?_, fun zc => ?_⟩ <;> try (exfalso; omega))
    | fail)
    refine kx32 (j := p + 1) hW2.1 hn2 (by omega) (nI_pred p).symm ?_
    simp only [ky_aft, ky_vl, Nat.reduceAdd]
    rw [show kE (kL R2) (kLv (kL R2) (p + 1)) (p + 1) (n2 - (p + 1)) = e from he]
    repeat' (first
    | (refine ky_ok_stp rfl ?_; simp (disch := first | omega | assumption) only [ky_stp, ky_inv, ky_ldi, ky_ldl, ky_ldd, ky_lda, ky_cl2, ky_st1, ky_st2, ky_s1i, ky_s2i, ky_s1l, ky_s2l, ky_sli, ky_s1f, ky_s2f, ky_s1d, ky_s2d, ky_sr, ky_sai, ky_sasi, ky_sasl, ky_sasr, ky_svr, ky_sv, ky_sv2, ky_s1, ky_cs, ky_pop, ky_nth, ky_snt, ky_obj, ky_ari, ky_arl, ky_arr, ky_arn, ky_fv, ky_rcv, List.map_cons, List.map_nil, List.drop_succ_cons, List.drop_zero, Value.category, Nat.reduceAdd, Nat.reduceSub, true_and, and_true, true_or, or_true, reduceCtorEq, ite_true, ite_false, eq_self, Nat.reduceEqDiff, Nat.reduceLeDiff, nI_add, nI_1, nI_leI, nI_ltI, nI_eq, nI_clamp, kz_m1, kz_mn, kz_mn2, kz_n0, kz_0n, kz_0, kz_le0, kz_0lt, false_implies, true_implies, not_false_eq_true, not_true_eq_false, Nat.zero_le, kb_0, kz_10, kz_of, ky_sw, kz_mx, kz_mi, y0, v0])
    | (refine ⟨vp_in_nI (by omega) (by omega), ?_⟩)
    | (refine ⟨fun zc => ?_, fun zc => ?_⟩ <;> try (exfalso; omega))
    | fail)
    refine kx41 (j := t + 1) hW2.1 hn2 (by omega) (nI_pred t).symm hw (by omega) ?_
    simp only [ky_aft, ky_vl, Nat.reduceAdd]
    rw [hto]
    repeat' (first
    | (refine ky_ok_stp rfl ?_; simp (disch := first | omega | assumption) only [ky_stp, ky_inv, ky_ldi, ky_ldl, ky_ldd, ky_lda, ky_cl2, ky_st1, ky_st2, ky_s1i, ky_s2i, ky_s1l, ky_s2l, ky_sli, ky_s1f, ky_s2f, ky_s1d, ky_s2d, ky_sr, ky_sai, ky_sasi, ky_sasl, ky_sasr, ky_svr, ky_sv, ky_sv2, ky_s1, ky_cs, ky_pop, ky_nth, ky_snt, ky_obj, ky_ari, ky_arl, ky_arr, ky_arn, ky_fv, ky_rcv, List.map_cons, List.map_nil, List.drop_succ_cons, List.drop_zero, Value.category, Nat.reduceAdd, Nat.reduceSub, true_and, and_true, true_or, or_true, reduceCtorEq, ite_true, ite_false, eq_self, Nat.reduceEqDiff, Nat.reduceLeDiff, nI_add, nI_1, nI_leI, nI_ltI, nI_eq, nI_clamp, kz_m1, kz_mn, kz_mn2, kz_n0, kz_0n, kz_0, kz_le0, kz_0lt, false_implies, true_implies, not_false_eq_true, not_true_eq_false, Nat.zero_le, kb_0, kz_10, kz_of, ky_sw, kz_mx, kz_mi, y0, v0, nI_sub])
    | (refine ⟨vp_in_nI (by omega) (by omega), ?_⟩)
    | (refine ⟨fun zc => ?_, fun zc => ?_⟩ <;> try (exfalso; omega))
    | fail)
    refine kx42 (j := t + 1) hW2.1 hn2 (by omega) (nI_pred t).symm hw ?_
    simp only [ky_aft, ky_vl, Nat.reduceAdd]
    repeat' (first
    | (refine ky_ok_stp rfl ?_; simp (disch := first | omega | assumption) only [ky_stp, ky_inv, ky_ldi, ky_ldl, ky_ldd, ky_lda, ky_cl2, ky_st1, ky_st2, ky_s1i, ky_s2i, ky_s1l, ky_s2l, ky_sli, ky_s1f, ky_s2f, ky_s1d, ky_s2d, ky_sr, ky_sai, ky_sasi, ky_sasl, ky_sasr, ky_svr, ky_sv, ky_sv2, ky_s1, ky_cs, ky_pop, ky_nth, ky_snt, ky_obj, ky_ari, ky_arl, ky_arr, ky_arn, ky_fv, ky_rcv, List.map_cons, List.map_nil, List.drop_succ_cons, List.drop_zero, Value.category, Nat.reduceAdd, Nat.reduceSub, true_and, and_true, true_or, or_true, reduceCtorEq, ite_true, ite_false, eq_self, Nat.reduceEqDiff, Nat.reduceLeDiff, nI_add, nI_1, nI_leI, nI_ltI, nI_eq, nI_clamp, kz_m1, kz_mn, kz_mn2, kz_n0, kz_0n, kz_0, kz_le0, kz_0lt, false_implies, true_implies, not_false_eq_true, not_true_eq_false, Nat.zero_le, kb_0, kz_10, kz_of, ky_sw, kz_mx, kz_mi, y0, v0, nI_sub])
    | (refine ⟨vp_in_nI (by omega) (by omega), ?_⟩)
    | (refine ⟨fun zc => ?_, fun zc => ?_⟩ <;> try (exfalso; omega))
    | fail)
    refine kx27 hW2.1 hn2 hp ?_
    simp only [ky_aft, ky_vl, Nat.reduceAdd]
    repeat' (first
    | (refine ky_ok_stp rfl ?_; simp (disch := first | omega | assumption) only [ky_stp, ky_inv, ky_ldi, ky_ldl, ky_ldd, ky_lda, ky_cl2, ky_st1, ky_st2, ky_s1i, ky_s2i, ky_s1l, ky_s2l, ky_sli, ky_s1f, ky_s2f, ky_s1d, ky_s2d, ky_sr, ky_sai, ky_sasi, ky_sasl, ky_sasr, ky_svr, ky_sv, ky_sv2, ky_s1, ky_cs, ky_pop, ky_nth, ky_snt, ky_obj, ky_ari, ky_arl, ky_arr, ky_arn, ky_fv, ky_rcv, List.map_cons, List.map_nil, List.drop_succ_cons, List.drop_zero, Value.category, Nat.reduceAdd, Nat.reduceSub, true_and, and_true, true_or, or_true, reduceCtorEq, ite_true, ite_false, eq_self, Nat.reduceEqDiff, Nat.reduceLeDiff, nI_add, nI_1, nI_leI, nI_ltI, nI_eq, nI_clamp, kz_m1, kz_mn, kz_mn2, kz_n0, kz_0n, kz_0, kz_le0, kz_0lt, false_implies, true_implies, not_false_eq_true, not_true_eq_false, Nat.zero_le, kb_0, kz_10, kz_of, ky_sw, kz_mx, kz_mi, y0, v0, g1, g2, nI_sub])
    | (refine ⟨vp_in_nI (by omega) (by omega), ?_⟩)
    | (refine ⟨fun zc => ?_, fun zc => ?_⟩ <;> try (exfalso; omega))
    | fail)
    refine kx68 ha hk hS hS2 fun f1 S1 hS1 hf1 h01 => ?_
    simp only [ky_aft, ky_vl, Nat.reduceAdd]
    have hW1 := kW_sb hW hf1
    have hV1 : kW a k2 f1 n2 R2 G2 := kW_fr hW2 fun j z1 z2 => hf1 j (by unfold kSB; omega)
    have y1 := kW_lv hW1
    have v1 := kW_lv hV1
    repeat' (first
    | (refine ky_ok_stp rfl ?_; simp (disch := first | omega | assumption) only [ky_stp, ky_inv, ky_ldi, ky_ldl, ky_ldd, ky_lda, ky_cl2, ky_st1, ky_st2, ky_s1i, ky_s2i, ky_s1l, ky_s2l, ky_sli, ky_s1f, ky_s2f, ky_s1d, ky_s2d, ky_sr, ky_sai, ky_sasi, ky_sasl, ky_sasr, ky_svr, ky_sv, ky_sv2, ky_s1, ky_cs, ky_pop, ky_nth, ky_snt, ky_obj, ky_ari, ky_arl, ky_arr, ky_arn, ky_fv, ky_rcv, List.map_cons, List.map_nil, List.drop_succ_cons, List.drop_zero, Value.category, Nat.reduceAdd, Nat.reduceSub, true_and, and_true, true_or, or_true, reduceCtorEq, ite_true, ite_false, eq_self, Nat.reduceEqDiff, Nat.reduceLeDiff, nI_add, nI_1, nI_leI, nI_ltI, nI_eq, nI_clamp, kz_m1, kz_mn, kz_mn2, kz_n0, kz_0n, kz_0, kz_le0, kz_0lt, false_implies, true_implies, not_false_eq_true, not_true_eq_false, Nat.zero_le, kb_0, kz_10, kz_of, ky_sw, kz_mx, kz_mi, y1, v1, nI_sub, zmi])
    | (refine ⟨vp_in_nI (by omega) (by omega), ?_⟩)
    | (refine ⟨fun zc => ?_, fun zc => ?_⟩ <;> try (exfalso; omega))
    | fail)
    refine kx50 (s := 0) (e := to) ha hk hW1 hV1 hn2 (by omega) (by omega) fun f2 Ra Ga hWa hfa za => ?_
    simp only [ky_aft, ky_vl, Nat.reduceAdd]
    have hVa : kW a k2 f2 n2 R2 G2 := kW_fr hV1 fun j z1 z2 => hfa j (by unfold kRB; omega)
    have y2 := kW_lv hWa
    have v2 := kW_lv hVa
    repeat' (first
    | (refine ky_ok_stp rfl ?_; simp (disch := first | omega | assumption) only [ky_stp, ky_inv, ky_ldi, ky_ldl, ky_ldd, ky_lda, ky_cl2, ky_st1, ky_st2, ky_s1i, ky_s2i, ky_s1l, ky_s2l, ky_sli, ky_s1f, ky_s2f, ky_s1d, ky_s2d, ky_sr, ky_sai, ky_sasi, ky_sasl, ky_sasr, ky_svr, ky_sv, ky_sv2, ky_s1, ky_cs, ky_pop, ky_nth, ky_snt, ky_obj, ky_ari, ky_arl, ky_arr, ky_arn, ky_fv, ky_rcv, List.map_cons, List.map_nil, List.drop_succ_cons, List.drop_zero, Value.category, Nat.reduceAdd, Nat.reduceSub, true_and, and_true, true_or, or_true, reduceCtorEq, ite_true, ite_false, eq_self, Nat.reduceEqDiff, Nat.reduceLeDiff, nI_add, nI_1, nI_leI, nI_ltI, nI_eq, nI_clamp, kz_m1, kz_mn, kz_mn2, kz_n0, kz_0n, kz_0, kz_le0, kz_0lt, false_implies, true_implies, not_false_eq_true, not_true_eq_false, Nat.zero_le, kb_0, kz_10, kz_of, ky_sw, kz_mx, kz_mi, y2, v2, nI_sub])
    | (refine ⟨vp_in_nI (by omega) (by omega), ?_⟩)
    | (refine ⟨fun zc => ?_, fun zc => ?_⟩ <;> try (exfalso; omega))
    | fail)
    refine kx49 ha hk hWa hVa hn2 (by omega) (by omega) (by omega) fun f3 Rb Gb hWb hfb zb zb2 => ?_
    simp only [ky_aft, ky_vl, Nat.reduceAdd]
    have hVb : kW a k2 f3 n2 R2 G2 := kW_fr hVa fun j z1 z2 => hfb j (by unfold kRB; omega)
    have y3 := kW_lv hWb
    have v3 := kW_lv hVb
    repeat' (first
    | (refine ky_ok_stp rfl ?_; simp (disch := first | omega | assumption) only [ky_stp, ky_inv, ky_ldi, ky_ldl, ky_ldd, ky_lda, ky_cl2, ky_st1, ky_st2, ky_s1i, ky_s2i, ky_s1l, ky_s2l, ky_sli, ky_s1f, ky_s2f, ky_s1d, ky_s2d, ky_sr, ky_sai, ky_sasi, ky_sasl, ky_sasr, ky_svr, ky_sv, ky_sv2, ky_s1, ky_cs, ky_pop, ky_nth, ky_snt, ky_obj, ky_ari, ky_arl, ky_arr, ky_arn, ky_fv, ky_rcv, List.map_cons, List.map_nil, List.drop_succ_cons, List.drop_zero, Value.category, Nat.reduceAdd, Nat.reduceSub, true_and, and_true, true_or, or_true, reduceCtorEq, ite_true, ite_false, eq_self, Nat.reduceEqDiff, Nat.reduceLeDiff, nI_add, nI_1, nI_leI, nI_ltI, nI_eq, nI_clamp, kz_m1, kz_mn, kz_mn2, kz_n0, kz_0n, kz_0, kz_le0, kz_0lt, false_implies, true_implies, not_false_eq_true, not_true_eq_false, Nat.zero_le, kb_0, kz_10, kz_of, ky_sw, kz_mx, kz_mi, y3, v3, nI_sub])
    | (refine ⟨vp_in_nI (by omega) (by omega), ?_⟩)
    | (refine ⟨fun zc => ?_, fun zc => ?_⟩ <;> try (exfalso; omega))
    | fail)
    refine kx49 ha hk hWb hVb hn2 (by omega) (by omega) (by omega) fun f4 Rc Gc hWc hfc zd zd2 => ?_
    simp only [ky_aft, ky_vl, Nat.reduceAdd]
    have hVc : kW a k2 f4 n2 R2 G2 := kW_fr hVb fun j z1 z2 => hfc j (by unfold kRB; omega)
    have y4 := kW_lv hWc
    have v4 := kW_lv hVc
    repeat' (first
    | (refine ky_ok_stp rfl ?_; simp (disch := first | omega | assumption) only [ky_stp, ky_inv, ky_ldi, ky_ldl, ky_ldd, ky_lda, ky_cl2, ky_st1, ky_st2, ky_s1i, ky_s2i, ky_s1l, ky_s2l, ky_sli, ky_s1f, ky_s2f, ky_s1d, ky_s2d, ky_sr, ky_sai, ky_sasi, ky_sasl, ky_sasr, ky_svr, ky_sv, ky_sv2, ky_s1, ky_cs, ky_pop, ky_nth, ky_snt, ky_obj, ky_ari, ky_arl, ky_arr, ky_arn, ky_fv, ky_rcv, List.map_cons, List.map_nil, List.drop_succ_cons, List.drop_zero, Value.category, Nat.reduceAdd, Nat.reduceSub, true_and, and_true, true_or, or_true, reduceCtorEq, ite_true, ite_false, eq_self, Nat.reduceEqDiff, Nat.reduceLeDiff, nI_add, nI_1, nI_leI, nI_ltI, nI_eq, nI_clamp, kz_m1, kz_mn, kz_mn2, kz_n0, kz_0n, kz_0, kz_le0, kz_0lt, false_implies, true_implies, not_false_eq_true, not_true_eq_false, Nat.zero_le, kb_0, kz_10, kz_of, ky_sw, kz_mx, kz_mi, y4, v4, nI_sub, zmx])
    | (refine ⟨vp_in_nI (by omega) (by omega), ?_⟩)
    | (refine ⟨fun zc => ?_, fun zc => ?_⟩ <;> try (exfalso; omega))
    | fail)
    refine kx49 (s := e) (e := n2) ha hk hWc hVc hn2 (by omega) (by omega) (by omega) fun f5 Rd Gd hWd hfd ze ze2 => ?_
    simp only [ky_aft, ky_vl, Nat.reduceAdd]
    have y5 := kW_lv hWd
    repeat' (first
    | (refine ky_ok_stp rfl ?_; simp (disch := first | omega | assumption) only [ky_stp, ky_inv, ky_ldi, ky_ldl, ky_ldd, ky_lda, ky_cl2, ky_st1, ky_st2, ky_s1i, ky_s2i, ky_s1l, ky_s2l, ky_sli, ky_s1f, ky_s2f, ky_s1d, ky_s2d, ky_sr, ky_sai, ky_sasi, ky_sasl, ky_sasr, ky_svr, ky_sv, ky_sv2, ky_s1, ky_cs, ky_pop, ky_nth, ky_snt, ky_obj, ky_ari, ky_arl, ky_arr, ky_arn, ky_fv, ky_rcv, List.map_cons, List.map_nil, List.drop_succ_cons, List.drop_zero, Value.category, Nat.reduceAdd, Nat.reduceSub, true_and, and_true, true_or, or_true, reduceCtorEq, ite_true, ite_false, eq_self, Nat.reduceEqDiff, Nat.reduceLeDiff, nI_add, nI_1, nI_leI, nI_ltI, nI_eq, nI_clamp, kz_m1, kz_mn, kz_mn2, kz_n0, kz_0n, kz_0, kz_le0, kz_0lt, false_implies, true_implies, not_false_eq_true, not_true_eq_false, Nat.zero_le, kb_0, kz_10, kz_of, ky_sw, kz_mx, kz_mi, y5, nI_sub])
    | (refine ⟨vp_in_nI (by omega) (by omega), ?_⟩)
    | (refine ⟨fun zc => ?_, fun zc => ?_⟩ <;> try (exfalso; omega))
    | fail)
    refine kx47 ha hWd (by omega) (by omega) (by omega) fun f6 Re hWe hfe zf => ?_
    simp only [ky_aft, ky_vl, Nat.reduceAdd]
    repeat' (first
    | (refine ky_ok_stp rfl ?_; simp (disch := first | omega | assumption) only [ky_stp, ky_inv, ky_ldi, ky_ldl, ky_ldd, ky_lda, ky_cl2, ky_st1, ky_st2, ky_s1i, ky_s2i, ky_s1l, ky_s2l, ky_sli, ky_s1f, ky_s2f, ky_s1d, ky_s2d, ky_sr, ky_sai, ky_sasi, ky_sasl, ky_sasr, ky_svr, ky_sv, ky_sv2, ky_s1, ky_cs, ky_pop, ky_nth, ky_snt, ky_obj, ky_ari, ky_arl, ky_arr, ky_arn, ky_fv, ky_rcv, List.map_cons, List.map_nil, List.drop_succ_cons, List.drop_zero, Value.category, Nat.reduceAdd, Nat.reduceSub, true_and, and_true, true_or, or_true, reduceCtorEq, ite_true, ite_false, eq_self, Nat.reduceEqDiff, Nat.reduceLeDiff, nI_add, nI_1, nI_leI, nI_ltI, nI_eq, nI_clamp, kz_m1, kz_mn, kz_mn2, kz_n0, kz_0n, kz_0, kz_le0, kz_0lt, false_implies, true_implies, not_false_eq_true, not_true_eq_false, Nat.zero_le, kb_0, kz_10, kz_of, ky_sw, kz_mx, kz_mi, nI_sub])
    | (refine ⟨vp_in_nI (by omega) (by omega), ?_⟩)
    | (refine ⟨fun zc => ?_, fun zc => ?_⟩ <;> try (exfalso; omega))
    | fail)
    have hnn : to - 0 + (e - p) + (p - to) + (n2 - e) = n2 := by omega
    rw [hnn] at hWe
    have hF : kfr a f1 f6 (kRB k) := kfr_tr (kfr_tr (kfr_tr (kfr_tr hfa hfb (T := kRB k) fun _ z => ⟨z, z⟩) hfc (T := kRB k) fun _ z => ⟨z, z⟩) hfd (T := kRB k) fun _ z => ⟨z, z⟩) hfe fun _ z => ⟨z, z⟩
    refine hQ f6 Re Gd S1 hWe (kS_rb hS1 hF) (kfr_tr (kfr_BS hf1) (kfr_BR hF) fun _ z => ⟨z, z⟩) (fun i j hj hr => ?_) h01
    unfold kMr at hr
    have key : Rd j = R2 i ∧ Gd j = nI i := by
      rcases hr with ⟨_, h | h | h | h⟩ | ⟨h, _⟩
      · exact kz_tr (ze j (by omega)) (kz_tr (zd j (by omega)) (kz_tr (zb j (by omega)) (za i j (by omega) (by omega))))
      · exact kz_tr (ze j (by omega)) (kz_tr (zd j (by omega)) (zb2 i j (by omega) (by omega) (by omega)))
      · exact kz_tr (ze j (by omega)) (zd2 i j (by omega) (by omega) (by omega))
      · exact ze2 i j (by omega) (by omega) (by omega)
      · omega
    refine ⟨?_, key.2⟩
    rw [zf j (by omega), key.1]
    by_cases hh : p ≤ i ∧ i < e
    · rw [if_pos hh, if_pos (by omega)]
    · rw [if_neg hh, if_neg (by omega)]
  · rw [if_neg hc] at hQ
    have zmi : min to p = p := by omega
    have zmx : max to e = to := by omega
    repeat' (first
    | (refine ky_ok_stp rfl ?_; simp (disch := first | omega | assumption) only [ky_stp, ky_inv, ky_ldi, ky_ldl, ky_ldd, ky_lda, ky_cl2, ky_st1, ky_st2, ky_s1i, ky_s2i, ky_s1l, ky_s2l, ky_sli, ky_s1f, ky_s2f, ky_s1d, ky_s2d, ky_sr, ky_sai, ky_sasi, ky_sasl, ky_sasr, ky_svr, ky_sv, ky_sv2, ky_s1, ky_cs, ky_pop, ky_nth, ky_snt, ky_obj, ky_ari, ky_arl, ky_arr, ky_arn, ky_fv, ky_rcv, List.map_cons, List.map_nil, List.drop_succ_cons, List.drop_zero, Value.category, Nat.reduceAdd, Nat.reduceSub, true_and, and_true, true_or, or_true, reduceCtorEq, ite_true, ite_false, eq_self, Nat.reduceEqDiff, Nat.reduceLeDiff, nI_add, nI_1, nI_leI, nI_ltI, nI_eq, nI_clamp, kz_m1, kz_mn, kz_mn2, kz_n0, kz_0n, kz_0, kz_le0, kz_0lt, false_implies, true_implies, not_false_eq_true, not_true_eq_false, Nat.zero_le, kb_0, kz_10, kz_of, ky_sw, kz_mx, kz_mi, y0, v0])
    | (refine ⟨vp_in_nI (by omega) (by omega), ?_⟩)
    | (refine ⟨fun zc => ?_, fun zc => ?_⟩ <;> try (exfalso; omega))
    | fail)
    refine kx32 (j := p + 1) hW2.1 hn2 (by omega) (nI_pred p).symm ?_
    simp only [ky_aft, ky_vl, Nat.reduceAdd]
    rw [show kE (kL R2) (kLv (kL R2) (p + 1)) (p + 1) (n2 - (p + 1)) = e from he]
    repeat' (first
    | (refine ky_ok_stp rfl ?_; simp (disch := first | omega | assumption) only [ky_stp, ky_inv, ky_ldi, ky_ldl, ky_ldd, ky_lda, ky_cl2, ky_st1, ky_st2, ky_s1i, ky_s2i, ky_s1l, ky_s2l, ky_sli, ky_s1f, ky_s2f, ky_s1d, ky_s2d, ky_sr, ky_sai, ky_sasi, ky_sasl, ky_sasr, ky_svr, ky_sv, ky_sv2, ky_s1, ky_cs, ky_pop, ky_nth, ky_snt, ky_obj, ky_ari, ky_arl, ky_arr, ky_arn, ky_fv, ky_rcv, List.map_cons, List.map_nil, List.drop_succ_cons, List.drop_zero, Value.category, Nat.reduceAdd, Nat.reduceSub, true_and, and_true, true_or, or_true, reduceCtorEq, ite_true, ite_false, eq_self, Nat.reduceEqDiff, Nat.reduceLeDiff, nI_add, nI_1, nI_leI, nI_ltI, nI_eq, nI_clamp, kz_m1, kz_mn, kz_mn2, kz_n0, kz_0n, kz_0, kz_le0, kz_0lt, false_implies, true_implies, not_false_eq_true, not_true_eq_false, Nat.zero_le, kb_0, kz_10, kz_of, ky_sw, kz_mx, kz_mi, y0, v0])
    | (refine ⟨vp_in_nI (by omega) (by omega), ?_⟩)
    | (refine ⟨fun zc => ?_, fun zc => ?_⟩ <;> try (exfalso; omega))
    | fail)
    refine kx41 (j := t + 1) hW2.1 hn2 (by omega) (nI_pred t).symm hw (by omega) ?_
    simp only [ky_aft, ky_vl, Nat.reduceAdd]
    rw [hto]
    repeat' (first
    | (refine ky_ok_stp rfl ?_; simp (disch := first | omega | assumption) only [ky_stp, ky_inv, ky_ldi, ky_ldl, ky_ldd, ky_lda, ky_cl2, ky_st1, ky_st2, ky_s1i, ky_s2i, ky_s1l, ky_s2l, ky_sli, ky_s1f, ky_s2f, ky_s1d, ky_s2d, ky_sr, ky_sai, ky_sasi, ky_sasl, ky_sasr, ky_svr, ky_sv, ky_sv2, ky_s1, ky_cs, ky_pop, ky_nth, ky_snt, ky_obj, ky_ari, ky_arl, ky_arr, ky_arn, ky_fv, ky_rcv, List.map_cons, List.map_nil, List.drop_succ_cons, List.drop_zero, Value.category, Nat.reduceAdd, Nat.reduceSub, true_and, and_true, true_or, or_true, reduceCtorEq, ite_true, ite_false, eq_self, Nat.reduceEqDiff, Nat.reduceLeDiff, nI_add, nI_1, nI_leI, nI_ltI, nI_eq, nI_clamp, kz_m1, kz_mn, kz_mn2, kz_n0, kz_0n, kz_0, kz_le0, kz_0lt, false_implies, true_implies, not_false_eq_true, not_true_eq_false, Nat.zero_le, kb_0, kz_10, kz_of, ky_sw, kz_mx, kz_mi, y0, v0, nI_sub])
    | (refine ⟨vp_in_nI (by omega) (by omega), ?_⟩)
    | (refine ⟨fun zc => ?_, fun zc => ?_⟩ <;> try (exfalso; omega))
    | fail)
    refine kx42 (j := t + 1) hW2.1 hn2 (by omega) (nI_pred t).symm hw ?_
    simp only [ky_aft, ky_vl, Nat.reduceAdd]
    repeat' (first
    | (refine ky_ok_stp rfl ?_; simp (disch := first | omega | assumption) only [ky_stp, ky_inv, ky_ldi, ky_ldl, ky_ldd, ky_lda, ky_cl2, ky_st1, ky_st2, ky_s1i, ky_s2i, ky_s1l, ky_s2l, ky_sli, ky_s1f, ky_s2f, ky_s1d, ky_s2d, ky_sr, ky_sai, ky_sasi, ky_sasl, ky_sasr, ky_svr, ky_sv, ky_sv2, ky_s1, ky_cs, ky_pop, ky_nth, ky_snt, ky_obj, ky_ari, ky_arl, ky_arr, ky_arn, ky_fv, ky_rcv, List.map_cons, List.map_nil, List.drop_succ_cons, List.drop_zero, Value.category, Nat.reduceAdd, Nat.reduceSub, true_and, and_true, true_or, or_true, reduceCtorEq, ite_true, ite_false, eq_self, Nat.reduceEqDiff, Nat.reduceLeDiff, nI_add, nI_1, nI_leI, nI_ltI, nI_eq, nI_clamp, kz_m1, kz_mn, kz_mn2, kz_n0, kz_0n, kz_0, kz_le0, kz_0lt, false_implies, true_implies, not_false_eq_true, not_true_eq_false, Nat.zero_le, kb_0, kz_10, kz_of, ky_sw, kz_mx, kz_mi, y0, v0, nI_sub])
    | (refine ⟨vp_in_nI (by omega) (by omega), ?_⟩)
    | (refine ⟨fun zc => ?_, fun zc => ?_⟩ <;> try (exfalso; omega))
    | fail)
    refine kx27 hW2.1 hn2 hp ?_
    simp only [ky_aft, ky_vl, Nat.reduceAdd]
    repeat' (first
    | (refine ky_ok_stp rfl ?_; simp (disch := first | omega | assumption) only [ky_stp, ky_inv, ky_ldi, ky_ldl, ky_ldd, ky_lda, ky_cl2, ky_st1, ky_st2, ky_s1i, ky_s2i, ky_s1l, ky_s2l, ky_sli, ky_s1f, ky_s2f, ky_s1d, ky_s2d, ky_sr, ky_sai, ky_sasi, ky_sasl, ky_sasr, ky_svr, ky_sv, ky_sv2, ky_s1, ky_cs, ky_pop, ky_nth, ky_snt, ky_obj, ky_ari, ky_arl, ky_arr, ky_arn, ky_fv, ky_rcv, List.map_cons, List.map_nil, List.drop_succ_cons, List.drop_zero, Value.category, Nat.reduceAdd, Nat.reduceSub, true_and, and_true, true_or, or_true, reduceCtorEq, ite_true, ite_false, eq_self, Nat.reduceEqDiff, Nat.reduceLeDiff, nI_add, nI_1, nI_leI, nI_ltI, nI_eq, nI_clamp, kz_m1, kz_mn, kz_mn2, kz_n0, kz_0n, kz_0, kz_le0, kz_0lt, false_implies, true_implies, not_false_eq_true, not_true_eq_false, Nat.zero_le, kb_0, kz_10, kz_of, ky_sw, kz_mx, kz_mi, y0, v0, g1, g2, nI_sub])
    | (refine ⟨vp_in_nI (by omega) (by omega), ?_⟩)
    | (refine ⟨fun zc => ?_, fun zc => ?_⟩ <;> try (exfalso; omega))
    | fail)
    refine kx68 ha hk hS hS2 fun f1 S1 hS1 hf1 h01 => ?_
    simp only [ky_aft, ky_vl, Nat.reduceAdd]
    have hW1 := kW_sb hW hf1
    have hV1 : kW a k2 f1 n2 R2 G2 := kW_fr hW2 fun j z1 z2 => hf1 j (by unfold kSB; omega)
    have y1 := kW_lv hW1
    have v1 := kW_lv hV1
    repeat' (first
    | (refine ky_ok_stp rfl ?_; simp (disch := first | omega | assumption) only [ky_stp, ky_inv, ky_ldi, ky_ldl, ky_ldd, ky_lda, ky_cl2, ky_st1, ky_st2, ky_s1i, ky_s2i, ky_s1l, ky_s2l, ky_sli, ky_s1f, ky_s2f, ky_s1d, ky_s2d, ky_sr, ky_sai, ky_sasi, ky_sasl, ky_sasr, ky_svr, ky_sv, ky_sv2, ky_s1, ky_cs, ky_pop, ky_nth, ky_snt, ky_obj, ky_ari, ky_arl, ky_arr, ky_arn, ky_fv, ky_rcv, List.map_cons, List.map_nil, List.drop_succ_cons, List.drop_zero, Value.category, Nat.reduceAdd, Nat.reduceSub, true_and, and_true, true_or, or_true, reduceCtorEq, ite_true, ite_false, eq_self, Nat.reduceEqDiff, Nat.reduceLeDiff, nI_add, nI_1, nI_leI, nI_ltI, nI_eq, nI_clamp, kz_m1, kz_mn, kz_mn2, kz_n0, kz_0n, kz_0, kz_le0, kz_0lt, false_implies, true_implies, not_false_eq_true, not_true_eq_false, Nat.zero_le, kb_0, kz_10, kz_of, ky_sw, kz_mx, kz_mi, y1, v1, nI_sub, zmi])
    | (refine ⟨vp_in_nI (by omega) (by omega), ?_⟩)
    | (refine ⟨fun zc => ?_, fun zc => ?_⟩ <;> try (exfalso; omega))
    | fail)
    refine kx50 (s := 0) (e := p) ha hk hW1 hV1 hn2 (by omega) (by omega) fun f2 Ra Ga hWa hfa za => ?_
    simp only [ky_aft, ky_vl, Nat.reduceAdd]
    have hVa : kW a k2 f2 n2 R2 G2 := kW_fr hV1 fun j z1 z2 => hfa j (by unfold kRB; omega)
    have y2 := kW_lv hWa
    have v2 := kW_lv hVa
    repeat' (first
    | (refine ky_ok_stp rfl ?_; simp (disch := first | omega | assumption) only [ky_stp, ky_inv, ky_ldi, ky_ldl, ky_ldd, ky_lda, ky_cl2, ky_st1, ky_st2, ky_s1i, ky_s2i, ky_s1l, ky_s2l, ky_sli, ky_s1f, ky_s2f, ky_s1d, ky_s2d, ky_sr, ky_sai, ky_sasi, ky_sasl, ky_sasr, ky_svr, ky_sv, ky_sv2, ky_s1, ky_cs, ky_pop, ky_nth, ky_snt, ky_obj, ky_ari, ky_arl, ky_arr, ky_arn, ky_fv, ky_rcv, List.map_cons, List.map_nil, List.drop_succ_cons, List.drop_zero, Value.category, Nat.reduceAdd, Nat.reduceSub, true_and, and_true, true_or, or_true, reduceCtorEq, ite_true, ite_false, eq_self, Nat.reduceEqDiff, Nat.reduceLeDiff, nI_add, nI_1, nI_leI, nI_ltI, nI_eq, nI_clamp, kz_m1, kz_mn, kz_mn2, kz_n0, kz_0n, kz_0, kz_le0, kz_0lt, false_implies, true_implies, not_false_eq_true, not_true_eq_false, Nat.zero_le, kb_0, kz_10, kz_of, ky_sw, kz_mx, kz_mi, y2, v2, nI_sub])
    | (refine ⟨vp_in_nI (by omega) (by omega), ?_⟩)
    | (refine ⟨fun zc => ?_, fun zc => ?_⟩ <;> try (exfalso; omega))
    | fail)
    refine kx49 ha hk hWa hVa hn2 (by omega) (by omega) (by omega) fun f3 Rb Gb hWb hfb zb zb2 => ?_
    simp only [ky_aft, ky_vl, Nat.reduceAdd]
    have hVb : kW a k2 f3 n2 R2 G2 := kW_fr hVa fun j z1 z2 => hfb j (by unfold kRB; omega)
    have y3 := kW_lv hWb
    have v3 := kW_lv hVb
    repeat' (first
    | (refine ky_ok_stp rfl ?_; simp (disch := first | omega | assumption) only [ky_stp, ky_inv, ky_ldi, ky_ldl, ky_ldd, ky_lda, ky_cl2, ky_st1, ky_st2, ky_s1i, ky_s2i, ky_s1l, ky_s2l, ky_sli, ky_s1f, ky_s2f, ky_s1d, ky_s2d, ky_sr, ky_sai, ky_sasi, ky_sasl, ky_sasr, ky_svr, ky_sv, ky_sv2, ky_s1, ky_cs, ky_pop, ky_nth, ky_snt, ky_obj, ky_ari, ky_arl, ky_arr, ky_arn, ky_fv, ky_rcv, List.map_cons, List.map_nil, List.drop_succ_cons, List.drop_zero, Value.category, Nat.reduceAdd, Nat.reduceSub, true_and, and_true, true_or, or_true, reduceCtorEq, ite_true, ite_false, eq_self, Nat.reduceEqDiff, Nat.reduceLeDiff, nI_add, nI_1, nI_leI, nI_ltI, nI_eq, nI_clamp, kz_m1, kz_mn, kz_mn2, kz_n0, kz_0n, kz_0, kz_le0, kz_0lt, false_implies, true_implies, not_false_eq_true, not_true_eq_false, Nat.zero_le, kb_0, kz_10, kz_of, ky_sw, kz_mx, kz_mi, y3, v3, nI_sub])
    | (refine ⟨vp_in_nI (by omega) (by omega), ?_⟩)
    | (refine ⟨fun zc => ?_, fun zc => ?_⟩ <;> try (exfalso; omega))
    | fail)
    refine kx49 ha hk hWb hVb hn2 (by omega) (by omega) (by omega) fun f4 Rc Gc hWc hfc zd zd2 => ?_
    simp only [ky_aft, ky_vl, Nat.reduceAdd]
    have hVc : kW a k2 f4 n2 R2 G2 := kW_fr hVb fun j z1 z2 => hfc j (by unfold kRB; omega)
    have y4 := kW_lv hWc
    have v4 := kW_lv hVc
    repeat' (first
    | (refine ky_ok_stp rfl ?_; simp (disch := first | omega | assumption) only [ky_stp, ky_inv, ky_ldi, ky_ldl, ky_ldd, ky_lda, ky_cl2, ky_st1, ky_st2, ky_s1i, ky_s2i, ky_s1l, ky_s2l, ky_sli, ky_s1f, ky_s2f, ky_s1d, ky_s2d, ky_sr, ky_sai, ky_sasi, ky_sasl, ky_sasr, ky_svr, ky_sv, ky_sv2, ky_s1, ky_cs, ky_pop, ky_nth, ky_snt, ky_obj, ky_ari, ky_arl, ky_arr, ky_arn, ky_fv, ky_rcv, List.map_cons, List.map_nil, List.drop_succ_cons, List.drop_zero, Value.category, Nat.reduceAdd, Nat.reduceSub, true_and, and_true, true_or, or_true, reduceCtorEq, ite_true, ite_false, eq_self, Nat.reduceEqDiff, Nat.reduceLeDiff, nI_add, nI_1, nI_leI, nI_ltI, nI_eq, nI_clamp, kz_m1, kz_mn, kz_mn2, kz_n0, kz_0n, kz_0, kz_le0, kz_0lt, false_implies, true_implies, not_false_eq_true, not_true_eq_false, Nat.zero_le, kb_0, kz_10, kz_of, ky_sw, kz_mx, kz_mi, y4, v4, nI_sub, zmx])
    | (refine ⟨vp_in_nI (by omega) (by omega), ?_⟩)
    | (refine ⟨fun zc => ?_, fun zc => ?_⟩ <;> try (exfalso; omega))
    | fail)
    refine kx49 (s := to) (e := n2) ha hk hWc hVc hn2 (by omega) (by omega) (by omega) fun f5 Rd Gd hWd hfd ze ze2 => ?_
    simp only [ky_aft, ky_vl, Nat.reduceAdd]
    have y5 := kW_lv hWd
    repeat' (first
    | (refine ky_ok_stp rfl ?_; simp (disch := first | omega | assumption) only [ky_stp, ky_inv, ky_ldi, ky_ldl, ky_ldd, ky_lda, ky_cl2, ky_st1, ky_st2, ky_s1i, ky_s2i, ky_s1l, ky_s2l, ky_sli, ky_s1f, ky_s2f, ky_s1d, ky_s2d, ky_sr, ky_sai, ky_sasi, ky_sasl, ky_sasr, ky_svr, ky_sv, ky_sv2, ky_s1, ky_cs, ky_pop, ky_nth, ky_snt, ky_obj, ky_ari, ky_arl, ky_arr, ky_arn, ky_fv, ky_rcv, List.map_cons, List.map_nil, List.drop_succ_cons, List.drop_zero, Value.category, Nat.reduceAdd, Nat.reduceSub, true_and, and_true, true_or, or_true, reduceCtorEq, ite_true, ite_false, eq_self, Nat.reduceEqDiff, Nat.reduceLeDiff, nI_add, nI_1, nI_leI, nI_ltI, nI_eq, nI_clamp, kz_m1, kz_mn, kz_mn2, kz_n0, kz_0n, kz_0, kz_le0, kz_0lt, false_implies, true_implies, not_false_eq_true, not_true_eq_false, Nat.zero_le, kb_0, kz_10, kz_of, ky_sw, kz_mx, kz_mi, y5, nI_sub])
    | (refine ⟨vp_in_nI (by omega) (by omega), ?_⟩)
    | (refine ⟨fun zc => ?_, fun zc => ?_⟩ <;> try (exfalso; omega))
    | fail)
    refine kx47 ha hWd (by omega) (by omega) (by omega) fun f6 Re hWe hfe zf => ?_
    simp only [ky_aft, ky_vl, Nat.reduceAdd]
    repeat' (first
    | (refine ky_ok_stp rfl ?_; simp (disch := first | omega | assumption) only [ky_stp, ky_inv, ky_ldi, ky_ldl, ky_ldd, ky_lda, ky_cl2, ky_st1, ky_st2, ky_s1i, ky_s2i, ky_s1l, ky_s2l, ky_sli, ky_s1f, ky_s2f, ky_s1d, ky_s2d, ky_sr, ky_sai, ky_sasi, ky_sasl, ky_sasr, ky_svr, ky_sv, ky_sv2, ky_s1, ky_cs, ky_pop, ky_nth, ky_snt, ky_obj, ky_ari, ky_arl, ky_arr, ky_arn, ky_fv, ky_rcv, List.map_cons, List.map_nil, List.drop_succ_cons, List.drop_zero, Value.category, Nat.reduceAdd, Nat.reduceSub, true_and, and_true, true_or, or_true, reduceCtorEq, ite_true, ite_false, eq_self, Nat.reduceEqDiff, Nat.reduceLeDiff, nI_add, nI_1, nI_leI, nI_ltI, nI_eq, nI_clamp, kz_m1, kz_mn, kz_mn2, kz_n0, kz_0n, kz_0, kz_le0, kz_0lt, false_implies, true_implies, not_false_eq_true, not_true_eq_false, Nat.zero_le, kb_0, kz_10, kz_of, ky_sw, kz_mx, kz_mi, nI_sub])
    | (refine ⟨vp_in_nI (by omega) (by omega), ?_⟩)
    | (refine ⟨fun zc => ?_, fun zc => ?_⟩ <;> try (exfalso; omega))
    | fail)
    have hnn : p - 0 + (to - e) + (e - p) + (n2 - to) = n2 := by omega
    rw [hnn] at hWe
    have hF : kfr a f1 f6 (kRB k) := kfr_tr (kfr_tr (kfr_tr (kfr_tr hfa hfb (T := kRB k) fun _ z => ⟨z, z⟩) hfc (T := kRB k) fun _ z => ⟨z, z⟩) hfd (T := kRB k) fun _ z => ⟨z, z⟩) hfe fun _ z => ⟨z, z⟩
    refine hQ f6 Re Gd S1 hWe (kS_rb hS1 hF) (kfr_tr (kfr_BS hf1) (kfr_BR hF) fun _ z => ⟨z, z⟩) (fun i j hj hr => ?_) h01
    unfold kMr at hr
    have key : Rd j = R2 i ∧ Gd j = nI i := by
      rcases hr with ⟨h, _⟩ | ⟨_, h | h | h | h⟩
      · omega
      · exact kz_tr (ze j (by omega)) (kz_tr (zd j (by omega)) (kz_tr (zb j (by omega)) (za i j (by omega) (by omega))))
      · exact kz_tr (ze j (by omega)) (kz_tr (zd j (by omega)) (zb2 i j (by omega) (by omega) (by omega)))
      · exact kz_tr (ze j (by omega)) (zd2 i j (by omega) (by omega) (by omega))
      · exact ze2 i j (by omega) (by omega) (by omega)
    refine ⟨?_, key.2⟩
    rw [zf j (by omega), key.1]
    by_cases hh : p ≤ i ∧ i < e
    · rw [if_pos hh, if_pos (by omega)]
    · rw [if_neg hh, if_neg (by omega)]
end KXM
