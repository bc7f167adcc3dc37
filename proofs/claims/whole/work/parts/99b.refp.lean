/-! ## the reference: commands read -/
def kCd (C : Nat → Int32) (n : Nat) (X : Nat → kX) : Prop := ∀ i, i < n → C (4 * i) = nI (X i).1 ∧ C (4 * i + 1) = nI (X i).2.1 ∧ ((X i).1 = 0 → C (4 * i + 2) = nI (X i).2.2.1 ∧ C (4 * i + 3) = nI (X i).2.2.2)
theorem kMt_u3 {a : Nat → Nat} {f : ky_H} {g : Nat → Int32} {L : Nat} {c : Nat → Nat} {e : ky_E} (ha : kI a) (h : kMt a f g L c) : kMt a (ky_up f (a 183) e) g L c := by
  obtain ⟨h0, h1, h2, T, h3, h4⟩ := h
  have hF : kfr a f (ky_up f (a 183) e) (fun j => j = 183) := kfr_up ha kfr_rf rfl
  exact ⟨(hF 170 (by decide)).trans h0, h1, h2, T, (hF 182 (by decide)).trans h3, h4⟩
section KXM
variable {adK a : Nat → Nat} {f : ky_H} {Q : ky_Q} {g r C : Nat → Int32} {p w n l i j t L s : Nat} {x y v : Int32} {z : kZ} {c : Nat → Nat} {X : Nat → kX}
theorem kx221 (ha : kI a) (hM : kMt a f g L c) (hs : s ≤ L) (hT : kTq g c L s) (h11 : g 11 = nI n) (hn : n ≤ 40) (hC : f (a 183) = some (.inl (1, 160, .inl C))) (hX : kCd C n X)
    (hE : ∀ w p, w ≠ 0 → kRc c L n s = (w, p, 0, 0, 0, 0) → ∀ f' g', kMt a f' g' L c → kEr w p g' → (∃ C', f' (a 183) = some (.inl (1, 160, .inl C'))) → (∀ j, j < 4 ∨ 11 < j → g' j = g j) → kfr a f f' (fun j => j = 170 ∨ j = 183) → Q (.inl (some (.int 0))) f')
    (hO : ∀ x s', s' ≤ L → kTn c L s ≤ s' → kRc c L n s = kRk c L x s' → n < 40 → kXok x → (x.1 ≠ 0 → x.2.2.1 = x.2.1) → ∀ f' g' C', kMt a f' g' L c → kTq g' c L s' → g' 11 = nI (n + 1) → f' (a 183) = some (.inl (1, 160, .inl C')) → kCd C' (n + 1) (kxu X n x) → (∀ j, j < 4 ∨ 11 < j → g' j = g j) → kfr a f f' (fun j => j = 170 ∨ j = 183) → Q (.inl (some (.int 1))) f') : ky_cl adK 221 [.ref (a 170)] f Q := by
  have e40 : (40 : Int32) = nI 40 := rfl
  have e59 : (59 : Int32) = nI 59 := rfl
  have mh := hM.1
  unfold kMo at mh
  have n1 := kTn_le (c := c) hs
  have n2 := kTn_le (c := c) n1.2
  have n3 := kTn_le (c := c) n2.2
  have n4 := kTn_le (c := c) n3.2
  have wk : ∀ {f1 : ky_H}, kfr a f f1 (fun j => j = 170) → kfr a f f1 (fun j => j = 170 ∨ j = 183) := fun h j hj => h j fun w => hj (Or.inl w)
  refine ⟨Nat.le_of_ble_eq_true rfl, fun z => absurd z (by decide), ?_⟩; show ky_ok adK 221 0 [some (.ref (a 170)), none, none] [] f 0 0 _
  by_cases c0 : kIw kWcm (kTw c L s) 0 = -1
  · have hq := hE 1 s (by decide) (by rw [kRc, if_pos c0])
    repeat' (first | (refine kx219 hM hs hT.1 ?_; simp only [ky_aft, ky_vl, Nat.reduceAdd]) | (refine kx206 (w := 1) ha hM hT.2.1 hT.1.1 ?_) | (refine ky_ok_stp rfl ?_; simp (disch := first | omega | assumption) only [ky_stp, ky_inv, ky_ldi, ky_ldl, ky_ldd, ky_lda, ky_cl2, ky_st1, ky_st2, ky_s1i, ky_s2i, ky_s1l, ky_s2l, ky_sli, ky_s1f, ky_s2f, ky_s1d, ky_s2d, ky_sr, ky_sai, ky_sasi, ky_sasl, ky_sasr, ky_svr, ky_sv, ky_sv2, ky_s1, ky_cs, ky_pop, ky_nth, ky_snt, ky_obj, ky_ari, ky_arl, ky_arr, ky_arn, ky_fv, ky_rcv, List.map_cons, List.map_nil, List.drop_succ_cons, List.drop_zero, Value.category, Nat.reduceAdd, Nat.reduceSub, true_and, and_true, true_or, or_true, reduceCtorEq, ite_true, ite_false, eq_self, Nat.reduceEqDiff, Nat.reduceLeDiff, nI_add, nI_1, nI_leI, nI_ltI, nI_eq, nI_clamp, kz_m1, kz_mn, kz_mn2, kz_n0, kz_0n, kz_0, kz_le0, kz_0lt, false_implies, true_implies, not_false_eq_true, not_true_eq_false, Nat.zero_le, kb_0, kz_10, kz_of, ky_sw, kz_mx, kz_mi, mh, c0]) | (refine ⟨vp_in_nI (by omega) (by omega), ?_⟩) | (refine ⟨fun zc => ?_, fun zc => ?_⟩ <;> try (exfalso; omega)) | fail)
    intro f' g' w1 w2 w3 w4
    (try simp only [ky_aft, ky_vl, Nat.reduceAdd])
    repeat' (first | (refine ky_ok_stp rfl ?_; simp (disch := first | omega | assumption) only [ky_stp, ky_inv, ky_ldi, ky_ldl, ky_ldd, ky_lda, ky_cl2, ky_st1, ky_st2, ky_s1i, ky_s2i, ky_s1l, ky_s2l, ky_sli, ky_s1f, ky_s2f, ky_s1d, ky_s2d, ky_sr, ky_sai, ky_sasi, ky_sasl, ky_sasr, ky_svr, ky_sv, ky_sv2, ky_s1, ky_cs, ky_pop, ky_nth, ky_snt, ky_obj, ky_ari, ky_arl, ky_arr, ky_arn, ky_fv, ky_rcv, List.map_cons, List.map_nil, List.drop_succ_cons, List.drop_zero, Value.category, Nat.reduceAdd, Nat.reduceSub, true_and, and_true, true_or, or_true, reduceCtorEq, ite_true, ite_false, eq_self, Nat.reduceEqDiff, Nat.reduceLeDiff, nI_add, nI_1, nI_leI, nI_ltI, nI_eq, nI_clamp, kz_m1, kz_mn, kz_mn2, kz_n0, kz_0n, kz_0, kz_le0, kz_0lt, false_implies, true_implies, not_false_eq_true, not_true_eq_false, Nat.zero_le, kb_0, kz_10, kz_of, ky_sw, kz_mx, kz_mi]) | (refine ⟨vp_in_nI (by omega) (by omega), ?_⟩) | (refine ⟨fun zc => ?_, fun zc => ?_⟩ <;> try (exfalso; omega)) | fail)
    have hqq := hq f' g' w1 w2 ⟨C, (w4 183 (by omega)).trans hC⟩ (fun j hj => w3 j (by omega)) (wk w4)
    (first | exact hqq | exact ⟨by decide, hqq⟩)
  obtain ⟨k1, k2⟩ := kIw_cl c0 (by decide)
  have k8 : kCmd (kTw c L s) < 8 := k2
  have k1 : kIw kWcm (kTw c L s) 0 = nI (kCmd (kTw c L s)) := k1
  by_cases c1 : n = 40
  · have hq := hE 4 s (by decide) (by rw [kRc, if_neg c0, if_pos c1])
    subst c1
    repeat' (first | (refine kx219 hM hs hT.1 ?_; simp only [ky_aft, ky_vl, Nat.reduceAdd]) | (refine kx206 (w := 4) ha hM hT.2.1 hT.1.1 ?_) | (refine ky_ok_stp rfl ?_; simp (disch := first | omega | assumption) only [ky_stp, ky_inv, ky_ldi, ky_ldl, ky_ldd, ky_lda, ky_cl2, ky_st1, ky_st2, ky_s1i, ky_s2i, ky_s1l, ky_s2l, ky_sli, ky_s1f, ky_s2f, ky_s1d, ky_s2d, ky_sr, ky_sai, ky_sasi, ky_sasl, ky_sasr, ky_svr, ky_sv, ky_sv2, ky_s1, ky_cs, ky_pop, ky_nth, ky_snt, ky_obj, ky_ari, ky_arl, ky_arr, ky_arn, ky_fv, ky_rcv, List.map_cons, List.map_nil, List.drop_succ_cons, List.drop_zero, Value.category, Nat.reduceAdd, Nat.reduceSub, true_and, and_true, true_or, or_true, reduceCtorEq, ite_true, ite_false, eq_self, Nat.reduceEqDiff, Nat.reduceLeDiff, nI_add, nI_1, nI_leI, nI_ltI, nI_eq, nI_clamp, kz_m1, kz_mn, kz_mn2, kz_n0, kz_0n, kz_0, kz_le0, kz_0lt, false_implies, true_implies, not_false_eq_true, not_true_eq_false, Nat.zero_le, kb_0, kz_10, kz_of, ky_sw, kz_mx, kz_mi, mh, k1, kz_nm, h11, e40]) | (refine ⟨vp_in_nI (by omega) (by omega), ?_⟩) | (refine ⟨fun zc => ?_, fun zc => ?_⟩ <;> try (exfalso; omega)) | fail)
    intro f' g' w1 w2 w3 w4
    (try simp only [ky_aft, ky_vl, Nat.reduceAdd])
    repeat' (first | (refine ky_ok_stp rfl ?_; simp (disch := first | omega | assumption) only [ky_stp, ky_inv, ky_ldi, ky_ldl, ky_ldd, ky_lda, ky_cl2, ky_st1, ky_st2, ky_s1i, ky_s2i, ky_s1l, ky_s2l, ky_sli, ky_s1f, ky_s2f, ky_s1d, ky_s2d, ky_sr, ky_sai, ky_sasi, ky_sasl, ky_sasr, ky_svr, ky_sv, ky_sv2, ky_s1, ky_cs, ky_pop, ky_nth, ky_snt, ky_obj, ky_ari, ky_arl, ky_arr, ky_arn, ky_fv, ky_rcv, List.map_cons, List.map_nil, List.drop_succ_cons, List.drop_zero, Value.category, Nat.reduceAdd, Nat.reduceSub, true_and, and_true, true_or, or_true, reduceCtorEq, ite_true, ite_false, eq_self, Nat.reduceEqDiff, Nat.reduceLeDiff, nI_add, nI_1, nI_leI, nI_ltI, nI_eq, nI_clamp, kz_m1, kz_mn, kz_mn2, kz_n0, kz_0n, kz_0, kz_le0, kz_0lt, false_implies, true_implies, not_false_eq_true, not_true_eq_false, Nat.zero_le, kb_0, kz_10, kz_of, ky_sw, kz_mx, kz_mi]) | (refine ⟨vp_in_nI (by omega) (by omega), ?_⟩) | (refine ⟨fun zc => ?_, fun zc => ?_⟩ <;> try (exfalso; omega)) | fail)
    have hqq := hq f' g' w1 w2 ⟨C, (w4 183 (by omega)).trans hC⟩ (fun j hj => w3 j (by omega)) (wk w4)
    (first | exact hqq | exact ⟨by decide, hqq⟩)
  generalize hk : kCmd (kTw c L s) = k at k1 k8
  repeat' (first | (refine kx219 hM hs hT.1 ?_; simp only [ky_aft, ky_vl, Nat.reduceAdd]) | (refine kx203q ha hM hs hT ?_) | (refine ky_ok_stp rfl ?_; simp (disch := first | omega | assumption) only [ky_stp, ky_inv, ky_ldi, ky_ldl, ky_ldd, ky_lda, ky_cl2, ky_st1, ky_st2, ky_s1i, ky_s2i, ky_s1l, ky_s2l, ky_sli, ky_s1f, ky_s2f, ky_s1d, ky_s2d, ky_sr, ky_sai, ky_sasi, ky_sasl, ky_sasr, ky_svr, ky_sv, ky_sv2, ky_s1, ky_cs, ky_pop, ky_nth, ky_snt, ky_obj, ky_ari, ky_arl, ky_arr, ky_arn, ky_fv, ky_rcv, List.map_cons, List.map_nil, List.drop_succ_cons, List.drop_zero, Value.category, Nat.reduceAdd, Nat.reduceSub, true_and, and_true, true_or, or_true, reduceCtorEq, ite_true, ite_false, eq_self, Nat.reduceEqDiff, Nat.reduceLeDiff, nI_add, nI_1, nI_leI, nI_ltI, nI_eq, nI_clamp, kz_m1, kz_mn, kz_mn2, kz_n0, kz_0n, kz_0, kz_le0, kz_0lt, false_implies, true_implies, not_false_eq_true, not_true_eq_false, Nat.zero_le, kb_0, kz_10, kz_of, ky_sw, kz_mx, kz_mi, mh, k1, kz_nm, h11, e40, eq_false c1]) | (refine ⟨vp_in_nI (by omega) (by omega), ?_⟩) | (refine ⟨fun zc => ?_, fun zc => ?_⟩ <;> try (exfalso; omega)) | fail)
  intro f1 g1 w1 w2 hg1 hF1
  (try simp only [ky_aft, ky_vl, Nat.reduceAdd])
  have hT1 := w2.1
  have h11' : g1 11 = nI n := (hg1 11 (by omega)).trans h11
  have hC1 : f1 (a 183) = some (.inl (1, 160, .inl C)) := (hF1 183 (by omega)).trans hC
  have mh1 := w1.1
  unfold kMo at mh1
  have e4 : (4 : Int32) = nI 4 := rfl
  have hu1 : kfr a f1 (ky_up f1 (a 183) (.inl (1, 160, .inl (upd C (4 * n) (nI k))))) (fun j => j = 183) := kfr_up ha kfr_rf rfl
  have hFu : kfr a f (ky_up f1 (a 183) (.inl (1, 160, .inl (upd C (4 * n) (nI k))))) (fun j => j = 170 ∨ j = 183) := kfr_tr hF1 hu1 fun j hj => ⟨fun w => hj (Or.inl w), fun w => hj (Or.inr w)⟩
  repeat' (first | (refine kx207 (l := 0) (n := 59) ha (kMt_u3 ha w1) n1.2 hT1 (by decide) (by decide) (fun k2 kv => ?_) (fun k2 => ?_) (fun k2 kv => ?_)) | (refine ky_ok_stp rfl ?_; simp (disch := first | omega | assumption) only [ky_stp, ky_inv, ky_ldi, ky_ldl, ky_ldd, ky_lda, ky_cl2, ky_st1, ky_st2, ky_s1i, ky_s2i, ky_s1l, ky_s2l, ky_sli, ky_s1f, ky_s2f, ky_s1d, ky_s2d, ky_sr, ky_sai, ky_sasi, ky_sasl, ky_sasr, ky_svr, ky_sv, ky_sv2, ky_s1, ky_cs, ky_pop, ky_nth, ky_snt, ky_obj, ky_ari, ky_arl, ky_arr, ky_arn, ky_fv, ky_rcv, List.map_cons, List.map_nil, List.drop_succ_cons, List.drop_zero, Value.category, Nat.reduceAdd, Nat.reduceSub, true_and, and_true, true_or, or_true, reduceCtorEq, ite_true, ite_false, eq_self, Nat.reduceEqDiff, Nat.reduceLeDiff, nI_add, nI_1, nI_leI, nI_ltI, nI_eq, nI_clamp, kz_m1, kz_mn, kz_mn2, kz_n0, kz_0n, kz_0, kz_le0, kz_0lt, false_implies, true_implies, not_false_eq_true, not_true_eq_false, Nat.zero_le, kb_0, kz_10, kz_of, ky_sw, kz_mx, kz_mi, mh1, h11', hC1, e4, e59, nI_mul, kz_up, kI_ne ha]) | (refine ⟨vp_in_nI (by omega) (by omega), ?_⟩) | (refine ⟨fun zc => ?_, fun zc => ?_⟩ <;> try (exfalso; omega)) | fail)
  case refine_2 =>
    have hq := hE 1 (kTn c L s) (by decide) (by rw [kRc, if_neg c0, if_neg c1, if_pos k2])
    intro f' g' u1 u2 u3 u4
    (try simp only [ky_aft, ky_vl, Nat.reduceAdd])
    repeat' (first | (refine ky_ok_stp rfl ?_; simp (disch := first | omega | assumption) only [ky_stp, ky_inv, ky_ldi, ky_ldl, ky_ldd, ky_lda, ky_cl2, ky_st1, ky_st2, ky_s1i, ky_s2i, ky_s1l, ky_s2l, ky_sli, ky_s1f, ky_s2f, ky_s1d, ky_s2d, ky_sr, ky_sai, ky_sasi, ky_sasl, ky_sasr, ky_svr, ky_sv, ky_sv2, ky_s1, ky_cs, ky_pop, ky_nth, ky_snt, ky_obj, ky_ari, ky_arl, ky_arr, ky_arn, ky_fv, ky_rcv, List.map_cons, List.map_nil, List.drop_succ_cons, List.drop_zero, Value.category, Nat.reduceAdd, Nat.reduceSub, true_and, and_true, true_or, or_true, reduceCtorEq, ite_true, ite_false, eq_self, Nat.reduceEqDiff, Nat.reduceLeDiff, nI_add, nI_1, nI_leI, nI_ltI, nI_eq, nI_clamp, kz_m1, kz_mn, kz_mn2, kz_n0, kz_0n, kz_0, kz_le0, kz_0lt, false_implies, true_implies, not_false_eq_true, not_true_eq_false, Nat.zero_le, kb_0, kz_10, kz_of, ky_sw, kz_mx, kz_mi]) | (refine ⟨vp_in_nI (by omega) (by omega), ?_⟩) | (refine ⟨fun zc => ?_, fun zc => ?_⟩ <;> try (exfalso; omega)) | fail)
    have hqq := hq f' g' u1 u2 ⟨_, (u4 183 (by omega)).trans kz_same⟩ (fun j hj => (u3 j (by omega)).trans (hg1 j (by omega))) (kfr_tr hFu u4 fun j hj => ⟨hj, fun w => hj (Or.inl w)⟩)
    (first | exact hqq | exact ⟨by decide, hqq⟩)
  case refine_3 =>
    have hq := hE 2 (kTn c L s) (by decide) (by rw [kRc, if_neg c0, if_neg c1, if_neg (fun z => z k2), if_pos kv])
    intro f' g' u1 u2 u3 u4
    (try simp only [ky_aft, ky_vl, Nat.reduceAdd])
    repeat' (first | (refine ky_ok_stp rfl ?_; simp (disch := first | omega | assumption) only [ky_stp, ky_inv, ky_ldi, ky_ldl, ky_ldd, ky_lda, ky_cl2, ky_st1, ky_st2, ky_s1i, ky_s2i, ky_s1l, ky_s2l, ky_sli, ky_s1f, ky_s2f, ky_s1d, ky_s2d, ky_sr, ky_sai, ky_sasi, ky_sasl, ky_sasr, ky_svr, ky_sv, ky_sv2, ky_s1, ky_cs, ky_pop, ky_nth, ky_snt, ky_obj, ky_ari, ky_arl, ky_arr, ky_arn, ky_fv, ky_rcv, List.map_cons, List.map_nil, List.drop_succ_cons, List.drop_zero, Value.category, Nat.reduceAdd, Nat.reduceSub, true_and, and_true, true_or, or_true, reduceCtorEq, ite_true, ite_false, eq_self, Nat.reduceEqDiff, Nat.reduceLeDiff, nI_add, nI_1, nI_leI, nI_ltI, nI_eq, nI_clamp, kz_m1, kz_mn, kz_mn2, kz_n0, kz_0n, kz_0, kz_le0, kz_0lt, false_implies, true_implies, not_false_eq_true, not_true_eq_false, Nat.zero_le, kb_0, kz_10, kz_of, ky_sw, kz_mx, kz_mi]) | (refine ⟨vp_in_nI (by omega) (by omega), ?_⟩) | (refine ⟨fun zc => ?_, fun zc => ?_⟩ <;> try (exfalso; omega)) | fail)
    have hqq := hq f' g' u1 u2 ⟨_, (u4 183 (by omega)).trans kz_same⟩ (fun j hj => (u3 j (by omega)).trans (hg1 j (by omega))) (kfr_tr hFu u4 fun j hj => ⟨hj, fun w => hj (Or.inl w)⟩)
    (first | exact hqq | exact ⟨by decide, hqq⟩)
  have hp59 : kTv c L (kTn c L s) ≤ 59 := by omega
  generalize hp : kTv c L (kTn c L s) = p at kv hp59
  intro f2 g2 u1 u2 u3 u4
  (try simp only [ky_aft, ky_vl, Nat.reduceAdd])
  have hT2 := u2.1
  have hgt := u2.2
  have h11'' : g2 11 = nI n := (u3 11 (by omega)).trans h11'
  have hC2 : f2 (a 183) = some (.inl (1, 160, .inl (upd C (4 * n) (nI k)))) := (u4 183 (by omega)).trans kz_same
  have hF2 : kfr a f f2 (fun j => j = 170 ∨ j = 183) := kfr_tr hFu u4 fun j hj => ⟨hj, fun w => hj (Or.inl w)⟩
  have hg2 : ∀ j, j < 4 ∨ 11 < j → g2 j = g j := fun j hj => (u3 j (by omega)).trans (hg1 j (by omega))
  have mh2 := u1.1
  unfold kMo at mh2
  have hR : kRc c L n s = if k = 0 then kRv c L p (kTn c L (kTn c L s)) else kRk c L (k, p, p, 0) (kTn c L (kTn c L s)) := by
    rw [kRc, if_neg c0, if_neg c1, if_neg (fun z => z k2), hp, if_neg kv, hk]
  -- the second and third field are in
  have hMk : ∀ f3, kMo a f3 (upd g2 11 (nI (n + 1))) → kfr a f2 f3 (fun j => j = 170 ∨ j = 183) → kMt a f3 (upd g2 11 (nI (n + 1))) L c := fun f3 h0 hF3 => by
    obtain ⟨_, q1, q2, T, q3, q4⟩ := u1
    exact ⟨h0, q1, q2, T, (hF3 182 (by omega)).trans q3, q4⟩
  have hTk : kTq (upd g2 11 (nI (n + 1))) c L (kTn c L (kTn c L s)) := hT2
  have hgk : ∀ j, j < 4 ∨ 11 < j → upd g2 11 (nI (n + 1)) j = g j := fun j hj => (pk_un (by omega)).trans (hg2 j hj)
  have hX1 : ∀ (D : Nat → Int32), (∀ t, t < 4 * n → D t = C t) → D (4 * n) = nI k → D (4 * n + 1) = nI p → ∀ x : kX, x.1 = k → x.2.1 = p → (k = 0 → D (4 * n + 2) = nI x.2.2.1 ∧ D (4 * n + 3) = nI x.2.2.2) → kCd D (n + 1) (kxu X n x) := by
    intro D h0 h1 h2 x hx1 hx2 h3 i hi
    unfold kxu
    by_cases e : i = n
    · subst e
      rw [if_pos rfl, hx1, hx2]
      exact ⟨h1, h2, h3⟩
    · rw [if_neg e]
      obtain ⟨a1, a2, a3⟩ := hX i (by omega)
      exact ⟨(h0 _ (by omega)).trans a1, (h0 _ (by omega)).trans a2, fun w => ⟨(h0 _ (by omega)).trans (a3 w).1, (h0 _ (by omega)).trans (a3 w).2⟩⟩
  have e1 : (1 : Int32) = nI 1 := rfl
  by_cases ck : k = 0
  case neg =>
    rw [if_neg ck] at hR
    have hfin := fun f3 (h0 : kMo a f3 (upd g2 11 (nI (n + 1)))) (h183 : f3 (a 183) = some (.inl (1, 160, .inl (upd (upd C (4 * n) (nI k)) (4 * n + 1) (nI p))))) (hF3 : kfr a f2 f3 (fun j => j = 170 ∨ j = 183)) => hO (k, p, p, 0) _ n2.2 n2.1 hR (by omega) ⟨by show k ≤ 7; omega, by show p < 60; omega, by show p < 60; omega, Nat.zero_le _⟩ (fun _ => rfl) f3 (upd g2 11 (nI (n + 1))) _ (hMk f3 h0 hF3) hTk pk_us h183 (hX1 _ (fun t ht => by rw [pk_un (by omega), pk_un (by omega)]) (by rw [pk_un (by omega), pk_us]) pk_us (k, p, p, 0) rfl rfl fun w => absurd w ck) hgk (kfr_tr hF2 hF3 fun j hj => ⟨hj, hj⟩)
    repeat' (first | (refine ky_ok_stp rfl ?_; simp (disch := first | omega | assumption) only [ky_stp, ky_inv, ky_ldi, ky_ldl, ky_ldd, ky_lda, ky_cl2, ky_st1, ky_st2, ky_s1i, ky_s2i, ky_s1l, ky_s2l, ky_sli, ky_s1f, ky_s2f, ky_s1d, ky_s2d, ky_sr, ky_sai, ky_sasi, ky_sasl, ky_sasr, ky_svr, ky_sv, ky_sv2, ky_s1, ky_cs, ky_pop, ky_nth, ky_snt, ky_obj, ky_ari, ky_arl, ky_arr, ky_arn, ky_fv, ky_rcv, List.map_cons, List.map_nil, List.drop_succ_cons, List.drop_zero, Value.category, Nat.reduceAdd, Nat.reduceSub, true_and, and_true, true_or, or_true, reduceCtorEq, ite_true, ite_false, eq_self, Nat.reduceEqDiff, Nat.reduceLeDiff, nI_add, nI_1, nI_leI, nI_ltI, nI_eq, nI_clamp, kz_m1, kz_mn, kz_mn2, kz_n0, kz_0n, kz_0, kz_le0, kz_0lt, false_implies, true_implies, not_false_eq_true, not_true_eq_false, Nat.zero_le, kb_0, kz_10, kz_of, ky_sw, kz_mx, kz_mi, mh2, hgt, h11'', hC2, kz_up, kI_ne ha, kz_0, eq_false ck]) | (refine ⟨vp_in_nI (by omega) (by omega), ?_⟩) | (refine ⟨fun zc => ?_, fun zc => ?_⟩ <;> try (exfalso; omega)) | fail)
    (first | exact hfin _ (kMo_mk kz_same (by first | rfl | simp [upd, hgt]) (by first | rfl | simp [upd, hgt]) (by first | rfl | simp [upd, hgt]) (by first | rfl | simp [upd, hgt]) (by first | rfl | simp [upd, hgt]) (by first | rfl | simp [upd, hgt]) (by first | rfl | simp [upd, hgt]) (by first | rfl | simp [upd, hgt]) (by first | rfl | simp [upd, hgt]) (by first | rfl | simp [upd, hgt]) (by first | rfl | simp [upd, hgt]) (by first | rfl | simp [upd, hgt]) (by first | rfl | simp [upd, hgt])) (by simp (disch := first | omega | assumption) only [kz_up, kI_ne ha, ite_true, ite_false]) (kfr_up ha (kfr_up ha kfr_rf (Or.inr rfl)) (Or.inl rfl)) | exact ⟨by decide, hfin _ (kMo_mk kz_same (by first | rfl | simp [upd, hgt]) (by first | rfl | simp [upd, hgt]) (by first | rfl | simp [upd, hgt]) (by first | rfl | simp [upd, hgt]) (by first | rfl | simp [upd, hgt]) (by first | rfl | simp [upd, hgt]) (by first | rfl | simp [upd, hgt]) (by first | rfl | simp [upd, hgt]) (by first | rfl | simp [upd, hgt]) (by first | rfl | simp [upd, hgt]) (by first | rfl | simp [upd, hgt]) (by first | rfl | simp [upd, hgt]) (by first | rfl | simp [upd, hgt])) (by simp (disch := first | omega | assumption) only [kz_up, kI_ne ha, ite_true, ite_false]) (kfr_up ha (kfr_up ha kfr_rf (Or.inr rfl)) (Or.inl rfl))⟩)
  rw [if_pos ck] at hR
  subst ck
  have e2 : (2 : Int32) = nI 2 := rfl
  have e3 : (3 : Int32) = nI 3 := rfl
  have hu2 : ∀ e : ky_E, kfr a f2 (ky_up (ky_up f2 (a 183) (.inl (1, 160, .inl (upd (upd C (4 * n) (nI 0)) (4 * n + 1) (nI p))))) (a 170) e) (fun j => j = 170 ∨ j = 183) := fun e => kfr_up ha (kfr_up ha kfr_rf (Or.inr rfl)) (Or.inl rfl)
  have hC3 : ∀ e : ky_E, (ky_up (ky_up f2 (a 183) (.inl (1, 160, .inl (upd (upd C (4 * n) (nI 0)) (4 * n + 1) (nI p))))) (a 170) e) (a 183) = some (.inl (1, 160, .inl (upd (upd C (4 * n) (nI 0)) (4 * n + 1) (nI p)))) := fun e => by simp (disch := first | omega | assumption) only [kz_up, kI_ne ha, ite_true, ite_false]
  repeat' (first | (refine kx207 (l := 0) (n := 59) ha (hMk _ (kMo_mk kz_same (by first | rfl | simp [upd, hgt]) (by first | rfl | simp [upd, hgt]) (by first | rfl | simp [upd, hgt]) (by first | rfl | simp [upd, hgt]) (by first | rfl | simp [upd, hgt]) (by first | rfl | simp [upd, hgt]) (by first | rfl | simp [upd, hgt]) (by first | rfl | simp [upd, hgt]) (by first | rfl | simp [upd, hgt]) (by first | rfl | simp [upd, hgt]) (by first | rfl | simp [upd, hgt]) (by first | rfl | simp [upd, hgt]) (by first | rfl | simp [upd, hgt])) (hu2 _)) n2.2 hTk (by decide) (by decide) (fun j2 jv => ?_) (fun j2 => ?_) (fun j2 jv => ?_)) | (refine ky_ok_stp rfl ?_; simp (disch := first | omega | assumption) only [ky_stp, ky_inv, ky_ldi, ky_ldl, ky_ldd, ky_lda, ky_cl2, ky_st1, ky_st2, ky_s1i, ky_s2i, ky_s1l, ky_s2l, ky_sli, ky_s1f, ky_s2f, ky_s1d, ky_s2d, ky_sr, ky_sai, ky_sasi, ky_sasl, ky_sasr, ky_svr, ky_sv, ky_sv2, ky_s1, ky_cs, ky_pop, ky_nth, ky_snt, ky_obj, ky_ari, ky_arl, ky_arr, ky_arn, ky_fv, ky_rcv, List.map_cons, List.map_nil, List.drop_succ_cons, List.drop_zero, Value.category, Nat.reduceAdd, Nat.reduceSub, true_and, and_true, true_or, or_true, reduceCtorEq, ite_true, ite_false, eq_self, Nat.reduceEqDiff, Nat.reduceLeDiff, nI_add, nI_1, nI_leI, nI_ltI, nI_eq, nI_clamp, kz_m1, kz_mn, kz_mn2, kz_n0, kz_0n, kz_0, kz_le0, kz_0lt, false_implies, true_implies, not_false_eq_true, not_true_eq_false, Nat.zero_le, kb_0, kz_10, kz_of, ky_sw, kz_mx, kz_mi, mh2, hgt, h11'', hC2, kz_up, kI_ne ha, e59]) | (refine ⟨vp_in_nI (by omega) (by omega), ?_⟩) | (refine ⟨fun zc => ?_, fun zc => ?_⟩ <;> try (exfalso; omega)) | fail)
  case refine_2 =>
    have hq := hE 1 (kTn c L (kTn c L s)) (by decide) (by rw [hR, kRv, if_pos j2])
    intro f' g' v1 v2 v3 v4
    (try simp only [ky_aft, ky_vl, Nat.reduceAdd])
    repeat' (first | (refine ky_ok_stp rfl ?_; simp (disch := first | omega | assumption) only [ky_stp, ky_inv, ky_ldi, ky_ldl, ky_ldd, ky_lda, ky_cl2, ky_st1, ky_st2, ky_s1i, ky_s2i, ky_s1l, ky_s2l, ky_sli, ky_s1f, ky_s2f, ky_s1d, ky_s2d, ky_sr, ky_sai, ky_sasi, ky_sasl, ky_sasr, ky_svr, ky_sv, ky_sv2, ky_s1, ky_cs, ky_pop, ky_nth, ky_snt, ky_obj, ky_ari, ky_arl, ky_arr, ky_arn, ky_fv, ky_rcv, List.map_cons, List.map_nil, List.drop_succ_cons, List.drop_zero, Value.category, Nat.reduceAdd, Nat.reduceSub, true_and, and_true, true_or, or_true, reduceCtorEq, ite_true, ite_false, eq_self, Nat.reduceEqDiff, Nat.reduceLeDiff, nI_add, nI_1, nI_leI, nI_ltI, nI_eq, nI_clamp, kz_m1, kz_mn, kz_mn2, kz_n0, kz_0n, kz_0, kz_le0, kz_0lt, false_implies, true_implies, not_false_eq_true, not_true_eq_false, Nat.zero_le, kb_0, kz_10, kz_of, ky_sw, kz_mx, kz_mi]) | (refine ⟨vp_in_nI (by omega) (by omega), ?_⟩) | (refine ⟨fun zc => ?_, fun zc => ?_⟩ <;> try (exfalso; omega)) | fail)
    have hqq := hq f' g' v1 v2 ⟨_, (v4 183 (by omega)).trans (hC3 _)⟩ (fun j hj => (v3 j (by omega)).trans (hgk j hj)) (kfr_tr hF2 (kfr_tr (T := fun j => j = 170 ∨ j = 183) (hu2 _) v4 fun j hj => ⟨hj, fun w => hj (Or.inl w)⟩) fun j hj => ⟨hj, hj⟩)
    (first | exact hqq | exact ⟨by decide, hqq⟩)
  case refine_3 =>
    have hq := hE 2 (kTn c L (kTn c L s)) (by decide) (by rw [hR, kRv, if_neg (fun z => z j2), if_pos jv])
    intro f' g' v1 v2 v3 v4
    (try simp only [ky_aft, ky_vl, Nat.reduceAdd])
    repeat' (first | (refine ky_ok_stp rfl ?_; simp (disch := first | omega | assumption) only [ky_stp, ky_inv, ky_ldi, ky_ldl, ky_ldd, ky_lda, ky_cl2, ky_st1, ky_st2, ky_s1i, ky_s2i, ky_s1l, ky_s2l, ky_sli, ky_s1f, ky_s2f, ky_s1d, ky_s2d, ky_sr, ky_sai, ky_sasi, ky_sasl, ky_sasr, ky_svr, ky_sv, ky_sv2, ky_s1, ky_cs, ky_pop, ky_nth, ky_snt, ky_obj, ky_ari, ky_arl, ky_arr, ky_arn, ky_fv, ky_rcv, List.map_cons, List.map_nil, List.drop_succ_cons, List.drop_zero, Value.category, Nat.reduceAdd, Nat.reduceSub, true_and, and_true, true_or, or_true, reduceCtorEq, ite_true, ite_false, eq_self, Nat.reduceEqDiff, Nat.reduceLeDiff, nI_add, nI_1, nI_leI, nI_ltI, nI_eq, nI_clamp, kz_m1, kz_mn, kz_mn2, kz_n0, kz_0n, kz_0, kz_le0, kz_0lt, false_implies, true_implies, not_false_eq_true, not_true_eq_false, Nat.zero_le, kb_0, kz_10, kz_of, ky_sw, kz_mx, kz_mi]) | (refine ⟨vp_in_nI (by omega) (by omega), ?_⟩) | (refine ⟨fun zc => ?_, fun zc => ?_⟩ <;> try (exfalso; omega)) | fail)
    have hqq := hq f' g' v1 v2 ⟨_, (v4 183 (by omega)).trans (hC3 _)⟩ (fun j hj => (v3 j (by omega)).trans (hgk j hj)) (kfr_tr hF2 (kfr_tr (T := fun j => j = 170 ∨ j = 183) (hu2 _) v4 fun j hj => ⟨hj, fun w => hj (Or.inl w)⟩) fun j hj => ⟨hj, hj⟩)
    (first | exact hqq | exact ⟨by decide, hqq⟩)
  have ht59 : kTv c L (kTn c L (kTn c L s)) ≤ 59 := by omega
  generalize htv : kTv c L (kTn c L (kTn c L s)) = t at jv ht59
  intro f3 g3 v1 v2 v3 v4
  (try simp only [ky_aft, ky_vl, Nat.reduceAdd])
  have hT3 := v2.1
  have hgt3 := v2.2
  have h113 : g3 11 = nI (n + 1) := (v3 11 (by omega)).trans pk_us
  have hg3 : ∀ j, j < 4 ∨ 11 < j → g3 j = g j := fun j hj => (v3 j (by omega)).trans (hgk j hj)
  have hF3 : kfr a f f3 (fun j => j = 170 ∨ j = 183) := kfr_tr hF2 (kfr_tr (T := fun j => j = 170 ∨ j = 183) (hu2 _) v4 fun j hj => ⟨hj, fun w => hj (Or.inl w)⟩) fun j hj => ⟨hj, hj⟩
  have h183 : f3 (a 183) = some (.inl (1, 160, .inl (upd (upd C (4 * n) (nI 0)) (4 * n + 1) (nI p)))) := (v4 183 (by omega)).trans (hC3 _)
  have mh3 := v1.1
  unfold kMo at mh3
  have tl : ∀ f4 (D : Nat → Int32), f4 = ky_up (ky_up f3 (a 183) (.inl (1, 160, .inl (upd (upd (upd C (4 * n) (nI 0)) (4 * n + 1) (nI p)) (4 * n + 2) (nI t))))) (a 183) (.inl (1, 160, .inl D)) → kfr a f3 f4 (fun j => j = 183) ∧ kMt a f4 g3 L c ∧ f4 (a 183) = some (.inl (1, 160, .inl D)) := by
    rintro f4 D rfl
    have hF : kfr a f3 (ky_up (ky_up f3 (a 183) (.inl (1, 160, .inl (upd (upd (upd C (4 * n) (nI 0)) (4 * n + 1) (nI p)) (4 * n + 2) (nI t))))) (a 183) (.inl (1, 160, .inl D))) (fun j => j = 183) := kfr_up ha (kfr_up ha kfr_rf rfl) rfl
    exact ⟨hF, kMt_u3 ha (kMt_u3 ha v1), kz_same⟩
  have hM4 : kMt a (ky_up f3 (a 183) (.inl (1, 160, .inl (upd (upd (upd C (4 * n) (nI 0)) (4 * n + 1) (nI p)) (4 * n + 2) (nI t))))) g3 L c := kMt_u3 ha v1
  by_cases cw : kIw kWwy (kTw c L (kTn c L (kTn c L (kTn c L s)))) 0 = -1
  · have hq := hE 1 (kTn c L (kTn c L (kTn c L s))) (by decide) (by rw [hR, kRv, if_neg (fun z => z j2), htv, if_neg jv, if_pos cw])
    obtain ⟨y1, y2, y3⟩ := tl _ (upd (upd (upd (upd C (4 * n) (nI 0)) (4 * n + 1) (nI p)) (4 * n + 2) (nI t)) (4 * n + 3) (-1)) rfl
    have hd : (upd (upd (upd (upd C (4 * n) (nI 0)) (4 * n + 1) (nI p)) (4 * n + 2) (nI t)) (4 * n + 3) (-1) : Nat → Int32) (4 * n + 3) = -1 := pk_us
    repeat' (first | (refine kx220 hM4 n3.2 hT3.1 ?_; simp only [ky_aft, ky_vl, Nat.reduceAdd]) | (refine kx206 (w := 1) ha y2 hT3.2.1 hT3.1.1 ?_) | (refine ky_ok_stp rfl ?_; simp (disch := first | omega | assumption) only [ky_stp, ky_inv, ky_ldi, ky_ldl, ky_ldd, ky_lda, ky_cl2, ky_st1, ky_st2, ky_s1i, ky_s2i, ky_s1l, ky_s2l, ky_sli, ky_s1f, ky_s2f, ky_s1d, ky_s2d, ky_sr, ky_sai, ky_sasi, ky_sasl, ky_sasr, ky_svr, ky_sv, ky_sv2, ky_s1, ky_cs, ky_pop, ky_nth, ky_snt, ky_obj, ky_ari, ky_arl, ky_arr, ky_arn, ky_fv, ky_rcv, List.map_cons, List.map_nil, List.drop_succ_cons, List.drop_zero, Value.category, Nat.reduceAdd, Nat.reduceSub, true_and, and_true, true_or, or_true, reduceCtorEq, ite_true, ite_false, eq_self, Nat.reduceEqDiff, Nat.reduceLeDiff, nI_add, nI_1, nI_leI, nI_ltI, nI_eq, nI_clamp, kz_m1, kz_mn, kz_mn2, kz_n0, kz_0n, kz_0, kz_le0, kz_0lt, false_implies, true_implies, not_false_eq_true, not_true_eq_false, Nat.zero_le, kb_0, kz_10, kz_of, ky_sw, kz_mx, kz_mi, mh3, hgt3, h183, e2, e3, cw, hd, kz_up, kI_ne ha]) | (refine ⟨vp_in_nI (by omega) (by omega), ?_⟩) | (refine ⟨fun zc => ?_, fun zc => ?_⟩ <;> try (exfalso; omega)) | fail)
    intro f' g' o1 o2 o3 o4
    (try simp only [ky_aft, ky_vl, Nat.reduceAdd])
    repeat' (first | (refine ky_ok_stp rfl ?_; simp (disch := first | omega | assumption) only [ky_stp, ky_inv, ky_ldi, ky_ldl, ky_ldd, ky_lda, ky_cl2, ky_st1, ky_st2, ky_s1i, ky_s2i, ky_s1l, ky_s2l, ky_sli, ky_s1f, ky_s2f, ky_s1d, ky_s2d, ky_sr, ky_sai, ky_sasi, ky_sasl, ky_sasr, ky_svr, ky_sv, ky_sv2, ky_s1, ky_cs, ky_pop, ky_nth, ky_snt, ky_obj, ky_ari, ky_arl, ky_arr, ky_arn, ky_fv, ky_rcv, List.map_cons, List.map_nil, List.drop_succ_cons, List.drop_zero, Value.category, Nat.reduceAdd, Nat.reduceSub, true_and, and_true, true_or, or_true, reduceCtorEq, ite_true, ite_false, eq_self, Nat.reduceEqDiff, Nat.reduceLeDiff, nI_add, nI_1, nI_leI, nI_ltI, nI_eq, nI_clamp, kz_m1, kz_mn, kz_mn2, kz_n0, kz_0n, kz_0, kz_le0, kz_0lt, false_implies, true_implies, not_false_eq_true, not_true_eq_false, Nat.zero_le, kb_0, kz_10, kz_of, ky_sw, kz_mx, kz_mi]) | (refine ⟨vp_in_nI (by omega) (by omega), ?_⟩) | (refine ⟨fun zc => ?_, fun zc => ?_⟩ <;> try (exfalso; omega)) | fail)
    have hqq := hq f' g' o1 o2 ⟨_, (o4 183 (by omega)).trans y3⟩ (fun j hj => (o3 j (by omega)).trans (hg3 j hj)) (kfr_tr hF3 (kfr_tr (T := fun j => j = 170 ∨ j = 183) y1 o4 fun j hj => ⟨fun w => hj (Or.inr w), fun w => hj (Or.inl w)⟩) fun j hj => ⟨hj, hj⟩)
    (first | exact hqq | exact ⟨by decide, hqq⟩)
  obtain ⟨j1, j4⟩ := kIw_cl cw (by decide)
  have j4 : kWay (kTw c L (kTn c L (kTn c L (kTn c L s)))) < 4 := j4
  have j1 : kIw kWwy (kTw c L (kTn c L (kTn c L (kTn c L s)))) 0 = nI (kWay (kTw c L (kTn c L (kTn c L (kTn c L s))))) := j1
  have hRR : kRc c L n s = kRk c L (0, p, t, kWay (kTw c L (kTn c L (kTn c L (kTn c L s))))) (kTn c L (kTn c L (kTn c L (kTn c L s)))) := by rw [hR, kRv, if_neg (fun z => z j2), htv, if_neg jv, if_neg cw]
  generalize kWay (kTw c L (kTn c L (kTn c L (kTn c L s)))) = w at j1 j4 hRR
  obtain ⟨y1, y2, y3⟩ := tl _ (upd (upd (upd (upd C (4 * n) (nI 0)) (4 * n + 1) (nI p)) (4 * n + 2) (nI t)) (4 * n + 3) (nI w)) rfl
  have hd : (upd (upd (upd (upd C (4 * n) (nI 0)) (4 * n + 1) (nI p)) (4 * n + 2) (nI t)) (4 * n + 3) (nI w) : Nat → Int32) (4 * n + 3) = nI w := pk_us
  repeat' (first | (refine kx220 hM4 n3.2 hT3.1 ?_; simp only [ky_aft, ky_vl, Nat.reduceAdd]) | (refine kx203q ha y2 n3.2 hT3 ?_) | (refine ky_ok_stp rfl ?_; simp (disch := first | omega | assumption) only [ky_stp, ky_inv, ky_ldi, ky_ldl, ky_ldd, ky_lda, ky_cl2, ky_st1, ky_st2, ky_s1i, ky_s2i, ky_s1l, ky_s2l, ky_sli, ky_s1f, ky_s2f, ky_s1d, ky_s2d, ky_sr, ky_sai, ky_sasi, ky_sasl, ky_sasr, ky_svr, ky_sv, ky_sv2, ky_s1, ky_cs, ky_pop, ky_nth, ky_snt, ky_obj, ky_ari, ky_arl, ky_arr, ky_arn, ky_fv, ky_rcv, List.map_cons, List.map_nil, List.drop_succ_cons, List.drop_zero, Value.category, Nat.reduceAdd, Nat.reduceSub, true_and, and_true, true_or, or_true, reduceCtorEq, ite_true, ite_false, eq_self, Nat.reduceEqDiff, Nat.reduceLeDiff, nI_add, nI_1, nI_leI, nI_ltI, nI_eq, nI_clamp, kz_m1, kz_mn, kz_mn2, kz_n0, kz_0n, kz_0, kz_le0, kz_0lt, false_implies, true_implies, not_false_eq_true, not_true_eq_false, Nat.zero_le, kb_0, kz_10, kz_of, ky_sw, kz_mx, kz_mi, mh3, hgt3, h183, e2, e3, j1, kz_nm, hd, kz_up, kI_ne ha]) | (refine ⟨vp_in_nI (by omega) (by omega), ?_⟩) | (refine ⟨fun zc => ?_, fun zc => ?_⟩ <;> try (exfalso; omega)) | fail)
  intro f' g' o1 o2 o3 o4
  (try simp only [ky_aft, ky_vl, Nat.reduceAdd])
  repeat' (first | (refine ky_ok_stp rfl ?_; simp (disch := first | omega | assumption) only [ky_stp, ky_inv, ky_ldi, ky_ldl, ky_ldd, ky_lda, ky_cl2, ky_st1, ky_st2, ky_s1i, ky_s2i, ky_s1l, ky_s2l, ky_sli, ky_s1f, ky_s2f, ky_s1d, ky_s2d, ky_sr, ky_sai, ky_sasi, ky_sasl, ky_sasr, ky_svr, ky_sv, ky_sv2, ky_s1, ky_cs, ky_pop, ky_nth, ky_snt, ky_obj, ky_ari, ky_arl, ky_arr, ky_arn, ky_fv, ky_rcv, List.map_cons, List.map_nil, List.drop_succ_cons, List.drop_zero, Value.category, Nat.reduceAdd, Nat.reduceSub, true_and, and_true, true_or, or_true, reduceCtorEq, ite_true, ite_false, eq_self, Nat.reduceEqDiff, Nat.reduceLeDiff, nI_add, nI_1, nI_leI, nI_ltI, nI_eq, nI_clamp, kz_m1, kz_mn, kz_mn2, kz_n0, kz_0n, kz_0, kz_le0, kz_0lt, false_implies, true_implies, not_false_eq_true, not_true_eq_false, Nat.zero_le, kb_0, kz_10, kz_of, ky_sw, kz_mx, kz_mi]) | (refine ⟨vp_in_nI (by omega) (by omega), ?_⟩) | (refine ⟨fun zc => ?_, fun zc => ?_⟩ <;> try (exfalso; omega)) | fail)
  have hqq := hO (0, p, t, w) _ n4.2 (by omega) hRR (by omega) ⟨Nat.zero_le _, by show p < 60; omega, by show t < 60; omega, by show w ≤ 3; omega⟩ (fun w => absurd rfl w) f' g' _ o1 o2.1 ((o3 11 (by omega)).trans h113) ((o4 183 (by omega)).trans y3) (hX1 _ (fun t ht => by rw [pk_un (by omega), pk_un (by omega), pk_un (by omega), pk_un (by omega)]) (by rw [pk_un (by omega), pk_un (by omega), pk_un (by omega), pk_us]) (by rw [pk_un (by omega), pk_un (by omega), pk_us]) (0, p, t, w) rfl rfl fun _ => ⟨by rw [pk_un (by omega), pk_us], pk_us⟩) (fun j hj => (o3 j (by omega)).trans (hg3 j hj)) (kfr_tr hF3 (kfr_tr (T := fun j => j = 170 ∨ j = 183) y1 o4 fun j hj => ⟨fun w => hj (Or.inr w), fun w => hj (Or.inl w)⟩) fun j hj => ⟨hj, hj⟩)
  (first | exact hqq | exact ⟨by decide, hqq⟩)
end KXM
