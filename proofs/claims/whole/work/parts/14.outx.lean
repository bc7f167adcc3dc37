/-! ## an outline, changed -/
theorem kW_lv {a : Nat → Nat} {k n : Nat} {f : ky_H} {R : Nat → kR} {G : Nat → Int32} (h : kW a k f n R G) : f (a k) = some (.inr (3, [.int (nI n), .ref (a (k + 1)), .ref (a (k + 6)), .ref (a (k + 7)), .ref (a (k + 8)), .ref (a (k + 9)), .ref (a (k + 10))])) := h.1.1
theorem kfr_BS {a : Nat → Nat} {k : Nat} {f f' : ky_H} (h : kfr a f f' (kSB k)) : kfr a f f' (kBl k) := fun j hj => h j (by unfold kBl at hj; unfold kSB; omega)
theorem kW_sb {a : Nat → Nat} {k n : Nat} {f f' : ky_H} {R : Nat → kR} {G : Nat → Int32} (h : kW a k f n R G) (hf : kfr a f f' (kSB k)) : kW a k f' n R G := by
  obtain ⟨⟨h0, h6, h7, h8, h9, h10⟩, hb⟩ := h
  have z : ∀ j, j = k ∨ (k + 6 ≤ j ∧ j ≤ k + 10) → f' (a j) = f (a j) := fun j hj => hf j (by unfold kSB; omega)
  exact ⟨⟨(z _ (by omega)).trans h0, (z _ (by omega)).trans h6, (z _ (by omega)).trans h7, (z _ (by omega)).trans h8, (z _ (by omega)).trans h9, (z _ (by omega)).trans h10⟩, hb⟩
theorem kfr_BR {a : Nat → Nat} {k : Nat} {f f' : ky_H} (h : kfr a f f' (kRB k)) : kfr a f f' (kBl k) := fun j hj => h j (by unfold kBl at hj; unfold kRB; omega)
theorem kS_rb {a : Nat → Nat} {k : Nat} {f f' : ky_H} {S : Nat → Nat → Int32} (h : kS a k f S) (hf : kfr a f f' (kRB k)) : kS a k f' S := kS_fr h fun j z1 z2 => hf j (by unfold kRB; omega)
/-- the count alone is changed -/
theorem kW_ct {a : Nat → Nat} {k n n' : Nat} {f : ky_H} {R : Nat → kR} {G : Nat → Int32} (ha : kI a) (h : kW a k f n R G) : kW a k (ky_up f (a k) (.inr (3, [.int (nI n'), .ref (a (k + 1)), .ref (a (k + 6)), .ref (a (k + 7)), .ref (a (k + 8)), .ref (a (k + 9)), .ref (a (k + 10))]))) n' R G := by
  obtain ⟨⟨h0, h6, h7, h8, h9, h10⟩, hb⟩ := h
  refine ⟨?_, hb⟩
  unfold kO
  simp (disch := first | omega | assumption) only [kz_up, kI_ne ha, ite_true, ite_false, true_and]
  exact ⟨h6, h7, h8, h9, h10⟩
theorem kS_ct {a : Nat → Nat} {k k2 : Nat} {f : ky_H} {S : Nat → Nat → Int32} {e : ky_E} (ha : kI a) (h : kS a k f S) (hk : k2 < k + 1 ∨ k + 5 < k2) : kS a k (ky_up f (a k2) e) S := kS_fr h fun j z1 z2 => by
  simp (disch := first | omega | assumption) only [kz_up, kI_ne ha, ite_false]
section KXX
variable {adK a : Nat → Nat} {k k2 n n2 i e s : Nat} {f : ky_H} {R R2 : Nat → kR} {G G2 : Nat → Int32} {S S2 : Nat → Nat → Int32} {Q : ky_Q} {x v d : Int32} {N : Int64}
theorem kx43 (ha : kI a) (hW : kW a k f n R G) (hS : kS a k f S) (hQ : ∀ f' S', kW a k f' 0 R G → kS a k f' S' → kfr a f f' (kBl k) → (∀ l, 1 ≤ l → l ≤ 6 → kS0 S' l) → Q (.inl none) f') : ky_cl adK 43 [.ref (a k)] f Q := by
  have h0 := kW_lv hW
  have g1 := hS.1
  refine ⟨Nat.le_of_ble_eq_true rfl, fun z => absurd z (by decide), ?_⟩
  show ky_ok adK 43 0 [some (.ref (a k))] [] f 0 0 _
  repeat' (first
    | (refine kx67 ha (kS_ct ha hS (by omega)) fun f1 S1 hS1 hf1 h01 => ?_; simp only [ky_aft, ky_vl, Nat.reduceAdd])
    | (refine ky_ok_stp rfl ?_; simp (disch := first | omega | assumption) only [ky_stp, ky_inv, ky_ldi, ky_ldl, ky_ldd, ky_lda, ky_cl2, ky_st1, ky_st2, ky_s1i, ky_s2i, ky_s1l, ky_s2l, ky_sli, ky_s1f, ky_s2f, ky_s1d, ky_s2d, ky_sr, ky_sai, ky_sasi, ky_sasl, ky_sasr, ky_svr, ky_sv, ky_sv2, ky_s1, ky_cs, ky_pop, ky_nth, ky_snt, ky_obj, ky_ari, ky_arl, ky_arr, ky_arn, ky_fv, ky_rcv, List.map_cons, List.map_nil, List.drop_succ_cons, List.drop_zero, Value.category, Nat.reduceAdd, Nat.reduceSub, true_and, and_true, true_or, or_true, reduceCtorEq, ite_true, ite_false, eq_self, Nat.reduceEqDiff, Nat.reduceLeDiff, nI_add, nI_1, nI_leI, nI_ltI, nI_eq, nI_clamp, kz_m1, kz_mn, kz_mn2, kz_n0, kz_0n, kz_0, kz_le0, kz_0lt, false_implies, true_implies, not_false_eq_true, not_true_eq_false, Nat.zero_le, kb_0, kz_10, kz_of, ky_sw, kz_mx, kz_mi, h0, g1, kz_up, kI_ne ha])
    | (refine ⟨vp_in_nI (by omega) (by omega), ?_⟩)
    | (refine ⟨fun zc => ?_, fun zc => ?_⟩ <;> try (exfalso; omega))
    | fail)
  refine hQ f1 S1 (kW_sb (kW_ct ha hW) hf1) hS1 (fun j hj => (kfr_BS hf1 j hj).trans ?_) h01
  unfold kBl at hj
  simp (disch := first | omega | assumption) only [kz_up, kI_ne ha, ite_false]
theorem kx44 (ha : kI a) (hk : k + 10 < k2 ∨ k2 + 10 < k) (hW : kW a k f n R G) (hS : kS a k f S) (hW2 : kW a k2 f n2 R2 G2) (hS2 : kS a k2 f S2) (hn2 : n2 ≤ 60)
    (hQ : ∀ f' R' G' S', kW a k f' n2 R' G' → kS a k f' S' → kfr a f f' (kBl k) → (∀ i, i < n2 → R' i = R2 i) → (∀ l, 1 ≤ l → l ≤ 6 → kSq S' S2 l) → Q (.inl none) f') : ky_cl adK 44 [.ref (a k), .ref (a k2)] f Q := by
  have h0 := kW_lv hW
  have e0 := kW_lv hW2
  have g1 := hS.1
  have g2 := hS2.1
  refine ⟨Nat.le_of_ble_eq_true rfl, fun z => absurd z (by decide), ?_⟩
  show ky_ok adK 44 0 [some (.ref (a k)), some (.ref (a k2))] [] f 0 0 _
  repeat' (first
    | (refine ky_ok_stp rfl ?_; simp (disch := first | omega | assumption) only [ky_stp, ky_inv, ky_ldi, ky_ldl, ky_ldd, ky_lda, ky_cl2, ky_st1, ky_st2, ky_s1i, ky_s2i, ky_s1l, ky_s2l, ky_sli, ky_s1f, ky_s2f, ky_s1d, ky_s2d, ky_sr, ky_sai, ky_sasi, ky_sasl, ky_sasr, ky_svr, ky_sv, ky_sv2, ky_s1, ky_cs, ky_pop, ky_nth, ky_snt, ky_obj, ky_ari, ky_arl, ky_arr, ky_arn, ky_fv, ky_rcv, List.map_cons, List.map_nil, List.drop_succ_cons, List.drop_zero, Value.category, Nat.reduceAdd, Nat.reduceSub, true_and, and_true, true_or, or_true, reduceCtorEq, ite_true, ite_false, eq_self, Nat.reduceEqDiff, Nat.reduceLeDiff, nI_add, nI_1, nI_leI, nI_ltI, nI_eq, nI_clamp, kz_m1, kz_mn, kz_mn2, kz_n0, kz_0n, kz_0, kz_le0, kz_0lt, false_implies, true_implies, not_false_eq_true, not_true_eq_false, Nat.zero_le, kb_0, kz_10, kz_of, ky_sw, kz_mx, kz_mi, h0, g1, g2, e0])
    | (refine ⟨vp_in_nI (by omega) (by omega), ?_⟩)
    | (refine ⟨fun zc => ?_, fun zc => ?_⟩ <;> try (exfalso; omega))
    | fail)
  refine kx68 ha hk hS hS2 fun f1 S1 hS1 hf1 h01 => ?_
  simp only [ky_aft, ky_vl, Nat.reduceAdd]
  have hW1 := kW_sb hW hf1
  have z1 := kW_lv hW1
  have hV : kW a k2 f1 n2 R2 G2 := kW_fr hW2 fun j z1 z2 => hf1 j (by unfold kSB; omega)
  have z2 := kW_lv hV
  repeat' (first
    | (refine ky_ok_stp rfl ?_; simp (disch := first | omega | assumption) only [ky_stp, ky_inv, ky_ldi, ky_ldl, ky_ldd, ky_lda, ky_cl2, ky_st1, ky_st2, ky_s1i, ky_s2i, ky_s1l, ky_s2l, ky_sli, ky_s1f, ky_s2f, ky_s1d, ky_s2d, ky_sr, ky_sai, ky_sasi, ky_sasl, ky_sasr, ky_svr, ky_sv, ky_sv2, ky_s1, ky_cs, ky_pop, ky_nth, ky_snt, ky_obj, ky_ari, ky_arl, ky_arr, ky_arn, ky_fv, ky_rcv, List.map_cons, List.map_nil, List.drop_succ_cons, List.drop_zero, Value.category, Nat.reduceAdd, Nat.reduceSub, true_and, and_true, true_or, or_true, reduceCtorEq, ite_true, ite_false, eq_self, Nat.reduceEqDiff, Nat.reduceLeDiff, nI_add, nI_1, nI_leI, nI_ltI, nI_eq, nI_clamp, kz_m1, kz_mn, kz_mn2, kz_n0, kz_0n, kz_0, kz_le0, kz_0lt, false_implies, true_implies, not_false_eq_true, not_true_eq_false, Nat.zero_le, kb_0, kz_10, kz_of, ky_sw, kz_mx, kz_mi, z1, z2, kz_up, kI_ne ha])
    | (refine ⟨vp_in_nI (by omega) (by omega), ?_⟩)
    | (refine ⟨fun zc => ?_, fun zc => ?_⟩ <;> try (exfalso; omega))
    | fail)
  refine kx49 (n := 0) (s := 0) (e := n2) ha hk (kW_ct ha hW1) (kW_fr hV fun j z1 z2 => ?_) hn2 (by omega) (by omega) (by omega) fun f2 R' G' z3 z4 z5 z6 => ?_
  · simp (disch := first | omega | assumption) only [kz_up, kI_ne ha, ite_false]
  simp only [ky_aft, ky_vl, Nat.reduceAdd]
  repeat' (first
    | (refine ky_ok_stp rfl ?_; simp (disch := first | omega | assumption) only [ky_stp, ky_inv, ky_ldi, ky_ldl, ky_ldd, ky_lda, ky_cl2, ky_st1, ky_st2, ky_s1i, ky_s2i, ky_s1l, ky_s2l, ky_sli, ky_s1f, ky_s2f, ky_s1d, ky_s2d, ky_sr, ky_sai, ky_sasi, ky_sasl, ky_sasr, ky_svr, ky_sv, ky_sv2, ky_s1, ky_cs, ky_pop, ky_nth, ky_snt, ky_obj, ky_ari, ky_arl, ky_arr, ky_arn, ky_fv, ky_rcv, List.map_cons, List.map_nil, List.drop_succ_cons, List.drop_zero, Value.category, Nat.reduceAdd, Nat.reduceSub, true_and, and_true, true_or, or_true, reduceCtorEq, ite_true, ite_false, eq_self, Nat.reduceEqDiff, Nat.reduceLeDiff, nI_add, nI_1, nI_leI, nI_ltI, nI_eq, nI_clamp, kz_m1, kz_mn, kz_mn2, kz_n0, kz_0n, kz_0, kz_le0, kz_0lt, false_implies, true_implies, not_false_eq_true, not_true_eq_false, Nat.zero_le, kb_0, kz_10, kz_of, ky_sw, kz_mx, kz_mi])
    | (refine ⟨vp_in_nI (by omega) (by omega), ?_⟩)
    | (refine ⟨fun zc => ?_, fun zc => ?_⟩ <;> try (exfalso; omega))
    | fail)
  have z7 := kfr_up (e := .inr (3, [.int 0, .ref (a (k + 1)), .ref (a (k + 6)), .ref (a (k + 7)), .ref (a (k + 8)), .ref (a (k + 9)), .ref (a (k + 10))])) ha (kfr_rf (f := f1) (S := kRB k)) (q := k) (Or.inl rfl)
  have z8 : kfr a f1 f2 (kRB k) := kfr_tr z7 z4 fun _ z => ⟨z, z⟩
  exact hQ f2 R' G' S1 (by rw [show 0 + (n2 - 0) = n2 by omega] at z3; exact z3) (kS_rb hS1 z8) (kfr_tr (kfr_BS hf1) (kfr_BR z8) fun _ z => ⟨z, z⟩) (fun i hi => (z6 i i (by omega) (by omega) (by omega)).1) h01
theorem kx45 (ha : kI a) (hW : kW a k f n R G) (hn : n ≤ 60) (hi : i < n) (hv : k01 v) (hQ : ∀ f', kW a k f' n (kru R i ((R i).1, (R i).2.1, v, (R i).2.2.2)) G → kfr a f f' (kRB k) → Q (.inl none) f') : ky_cl adK 45 [.ref (a k), .int (nI i), .int v] f Q := by
  obtain ⟨⟨h0, h6, h7, h8, h9, h10⟩, hb⟩ := id hW
  refine ⟨Nat.le_of_ble_eq_true rfl, fun z => absurd z (by decide), ?_⟩
  show ky_ok adK 45 0 [some (.ref (a k)), some (.int (nI i)), some (.int v)] [] f 0 0 _
  repeat' (first
    | (refine kx25v hW.1 hn hi ?_; simp only [ky_aft, ky_vl, Nat.reduceAdd])
    | (refine ky_ok_stp rfl ?_; simp (disch := first | omega | assumption) only [ky_stp, ky_inv, ky_ldi, ky_ldl, ky_ldd, ky_lda, ky_cl2, ky_st1, ky_st2, ky_s1i, ky_s2i, ky_s1l, ky_s2l, ky_sli, ky_s1f, ky_s2f, ky_s1d, ky_s2d, ky_sr, ky_sai, ky_sasi, ky_sasl, ky_sasr, ky_svr, ky_sv, ky_sv2, ky_s1, ky_cs, ky_pop, ky_nth, ky_snt, ky_obj, ky_ari, ky_arl, ky_arr, ky_arn, ky_fv, ky_rcv, List.map_cons, List.map_nil, List.drop_succ_cons, List.drop_zero, Value.category, Nat.reduceAdd, Nat.reduceSub, true_and, and_true, true_or, or_true, reduceCtorEq, ite_true, ite_false, eq_self, Nat.reduceEqDiff, Nat.reduceLeDiff, nI_add, nI_1, nI_leI, nI_ltI, nI_eq, nI_clamp, kz_m1, kz_mn, kz_mn2, kz_n0, kz_0n, kz_0, kz_le0, kz_0lt, false_implies, true_implies, not_false_eq_true, not_true_eq_false, Nat.zero_le, kb_0, kz_10, kz_of, ky_sw, kz_mx, kz_mi, h0, h6, h7, h8, h9, h10, ky_nb3])
    | (refine ⟨vp_in_nI (by omega) (by omega), ?_⟩)
    | (refine ⟨fun zc => ?_, fun zc => ?_⟩ <;> try (exfalso; omega))
    | fail)
  refine hQ _ ⟨?_, k01_b hb hv (hb i).2⟩ (kfr_up ha kfr_rf (by unfold kRB; omega))
  unfold kO
  simp (disch := first | omega | assumption) only [kz_up, kI_ne ha, h0, h6, h7, h9, h10, ite_true, ite_false, true_and, and_true]
  exact ⟨by rw [kru_nk]; rfl, by rw [kru_lk]; rfl, by rw [← kru_p], by rw [kru_fk]; rfl⟩
theorem kx46 (ha : kI a) (hW : kW a k f n R G) (hn : n ≤ 60) (hi : i < n) (hv : k01 v) (hQ : ∀ f', kW a k f' n (kru R i ((R i).1, (R i).2.1, (R i).2.2.1, v)) G → kfr a f f' (kRB k) → Q (.inl none) f') : ky_cl adK 46 [.ref (a k), .int (nI i), .int v] f Q := by
  obtain ⟨⟨h0, h6, h7, h8, h9, h10⟩, hb⟩ := id hW
  refine ⟨Nat.le_of_ble_eq_true rfl, fun z => absurd z (by decide), ?_⟩
  show ky_ok adK 46 0 [some (.ref (a k)), some (.int (nI i)), some (.int v)] [] f 0 0 _
  repeat' (first
    | (refine kx25v hW.1 hn hi ?_; simp only [ky_aft, ky_vl, Nat.reduceAdd])
    | (refine ky_ok_stp rfl ?_; simp (disch := first | omega | assumption) only [ky_stp, ky_inv, ky_ldi, ky_ldl, ky_ldd, ky_lda, ky_cl2, ky_st1, ky_st2, ky_s1i, ky_s2i, ky_s1l, ky_s2l, ky_sli, ky_s1f, ky_s2f, ky_s1d, ky_s2d, ky_sr, ky_sai, ky_sasi, ky_sasl, ky_sasr, ky_svr, ky_sv, ky_sv2, ky_s1, ky_cs, ky_pop, ky_nth, ky_snt, ky_obj, ky_ari, ky_arl, ky_arr, ky_arn, ky_fv, ky_rcv, List.map_cons, List.map_nil, List.drop_succ_cons, List.drop_zero, Value.category, Nat.reduceAdd, Nat.reduceSub, true_and, and_true, true_or, or_true, reduceCtorEq, ite_true, ite_false, eq_self, Nat.reduceEqDiff, Nat.reduceLeDiff, nI_add, nI_1, nI_leI, nI_ltI, nI_eq, nI_clamp, kz_m1, kz_mn, kz_mn2, kz_n0, kz_0n, kz_0, kz_le0, kz_0lt, false_implies, true_implies, not_false_eq_true, not_true_eq_false, Nat.zero_le, kb_0, kz_10, kz_of, ky_sw, kz_mx, kz_mi, h0, h6, h7, h8, h9, h10, ky_nb3])
    | (refine ⟨vp_in_nI (by omega) (by omega), ?_⟩)
    | (refine ⟨fun zc => ?_, fun zc => ?_⟩ <;> try (exfalso; omega))
    | fail)
  refine hQ _ ⟨?_, k01_b hb (hb i).1 hv⟩ (kfr_up ha kfr_rf (by unfold kRB; omega))
  unfold kO
  simp (disch := first | omega | assumption) only [kz_up, kI_ne ha, h0, h6, h7, h8, h10, ite_true, ite_false, true_and, and_true]
  exact ⟨by rw [kru_nk]; rfl, by rw [kru_lk]; rfl, by rw [kru_pk]; rfl, by rw [← kru_f]⟩
def ksh (d : Int32) (r : kR) : kR := (r.1, r.2.1 + d, r.2.2.1, r.2.2.2)
theorem kx47 (ha : kI a) (hW : kW a k f n R G) (hn : n ≤ 60) (hs : s ≤ e) (he : e ≤ n) (hQ : ∀ f' R', kW a k f' n R' G → kfr a f f' (kRB k) → (∀ i, i < n → R' i = if s ≤ i ∧ i < e then ksh d (R i) else R i) → Q (.inl none) f') : ky_cl adK 47 [.ref (a k), .int (nI s), .int (nI e), .int d] f Q := by
  have loop : ∀ m t f R, t + m = e → kW a k f n R G → (∀ f' R', kW a k f' n R' G → kfr a f f' (kRB k) → (∀ i, i < n → R' i = if t ≤ i ∧ i < e then ksh d (R i) else R i) → Q (.inl none) f') →
      ky_ok adK 47 3 [some (.ref (a k)), some (.int (nI s)), some (.int (nI e)), some (.int d), some (.int (nI t))] [] f 0 0 Q := by
    intro m
    induction m with
    | zero =>
      intro t f R ht hW hQ
      repeat' (first
    | (refine ky_ok_stp rfl ?_; simp (disch := first | omega | assumption) only [ky_stp, ky_inv, ky_ldi, ky_ldl, ky_ldd, ky_lda, ky_cl2, ky_st1, ky_st2, ky_s1i, ky_s2i, ky_s1l, ky_s2l, ky_sli, ky_s1f, ky_s2f, ky_s1d, ky_s2d, ky_sr, ky_sai, ky_sasi, ky_sasl, ky_sasr, ky_svr, ky_sv, ky_sv2, ky_s1, ky_cs, ky_pop, ky_nth, ky_snt, ky_obj, ky_ari, ky_arl, ky_arr, ky_arn, ky_fv, ky_rcv, List.map_cons, List.map_nil, List.drop_succ_cons, List.drop_zero, Value.category, Nat.reduceAdd, Nat.reduceSub, true_and, and_true, true_or, or_true, reduceCtorEq, ite_true, ite_false, eq_self, Nat.reduceEqDiff, Nat.reduceLeDiff, nI_add, nI_1, nI_leI, nI_ltI, nI_eq, nI_clamp, kz_m1, kz_mn, kz_mn2, kz_n0, kz_0n, kz_0, kz_le0, kz_0lt, false_implies, true_implies, not_false_eq_true, not_true_eq_false, Nat.zero_le, kb_0, kz_10, kz_of, ky_sw, kz_mx, kz_mi])
    | (refine ⟨vp_in_nI (by omega) (by omega), ?_⟩)
    | (refine ⟨fun zc => ?_, fun zc => ?_⟩ <;> try (exfalso; omega))
    | fail)
      exact hQ f R hW kfr_rf fun i _ => by rw [if_neg (by omega)]
    | succ m ih =>
      intro t f R ht hW hQ
      obtain ⟨⟨h0, h6, h7, h8, h9, h10⟩, hb⟩ := id hW
      repeat' (first
    | (refine ih (t + 1) _ (kru R t (ksh d (R t))) (by omega) ?_ ?_)
    | (refine ky_ok_stp rfl ?_; simp (disch := first | omega | assumption) only [ky_stp, ky_inv, ky_ldi, ky_ldl, ky_ldd, ky_lda, ky_cl2, ky_st1, ky_st2, ky_s1i, ky_s2i, ky_s1l, ky_s2l, ky_sli, ky_s1f, ky_s2f, ky_s1d, ky_s2d, ky_sr, ky_sai, ky_sasi, ky_sasl, ky_sasr, ky_svr, ky_sv, ky_sv2, ky_s1, ky_cs, ky_pop, ky_nth, ky_snt, ky_obj, ky_ari, ky_arl, ky_arr, ky_arn, ky_fv, ky_rcv, List.map_cons, List.map_nil, List.drop_succ_cons, List.drop_zero, Value.category, Nat.reduceAdd, Nat.reduceSub, true_and, and_true, true_or, or_true, reduceCtorEq, ite_true, ite_false, eq_self, Nat.reduceEqDiff, Nat.reduceLeDiff, nI_add, nI_1, nI_leI, nI_ltI, nI_eq, nI_clamp, kz_m1, kz_mn, kz_mn2, kz_n0, kz_0n, kz_0, kz_le0, kz_0lt, false_implies, true_implies, not_false_eq_true, not_true_eq_false, Nat.zero_le, kb_0, kz_10, kz_of, ky_sw, kz_mx, kz_mi, h0, h6, h7, h8, h9, h10])
    | (refine ⟨vp_in_nI (by omega) (by omega), ?_⟩)
    | (refine ⟨fun zc => ?_, fun zc => ?_⟩ <;> try (exfalso; omega))
    | fail)
      · refine ⟨?_, k01_b hb (hb t).1 (hb t).2⟩
        unfold kO
        simp (disch := first | omega | assumption) only [kz_up, kI_ne ha, h0, h6, h8, h9, h10, ite_true, ite_false, true_and, and_true]
        exact ⟨by rw [kru_nk]; rfl, by rw [← kru_l]; rfl, by rw [kru_pk]; rfl, by rw [kru_fk]; rfl⟩
      · refine fun f' R' z1 z2 z3 => hQ f' R' z1 (kfr_tr (kfr_up ha kfr_rf (by unfold kRB; omega)) z2 fun _ z => ⟨z, z⟩) fun i hi => ?_
        rw [z3 i hi]
        by_cases hit : i = t
        · subst hit
          rw [if_neg (by omega), if_pos (by omega), kru_s]
        · rw [kru_o _ _ hit]
          by_cases h2 : t ≤ i ∧ i < e
          · rw [if_pos (by omega), if_pos h2]
          · rw [if_neg (by omega), if_neg h2]
  refine ⟨Nat.le_of_ble_eq_true rfl, fun z => absurd z (by decide), ?_⟩
  show ky_ok adK 47 0 [some (.ref (a k)), some (.int (nI s)), some (.int (nI e)), some (.int d), none] [] f 0 0 _
  repeat' (first
    | (refine loop (e - s) s f R (by omega) hW hQ)
    | (refine ky_ok_stp rfl ?_; simp (disch := first | omega | assumption) only [ky_stp, ky_inv, ky_ldi, ky_ldl, ky_ldd, ky_lda, ky_cl2, ky_st1, ky_st2, ky_s1i, ky_s2i, ky_s1l, ky_s2l, ky_sli, ky_s1f, ky_s2f, ky_s1d, ky_s2d, ky_sr, ky_sai, ky_sasi, ky_sasl, ky_sasr, ky_svr, ky_sv, ky_sv2, ky_s1, ky_cs, ky_pop, ky_nth, ky_snt, ky_obj, ky_ari, ky_arl, ky_arr, ky_arn, ky_fv, ky_rcv, List.map_cons, List.map_nil, List.drop_succ_cons, List.drop_zero, Value.category, Nat.reduceAdd, Nat.reduceSub, true_and, and_true, true_or, or_true, reduceCtorEq, ite_true, ite_false, eq_self, Nat.reduceEqDiff, Nat.reduceLeDiff, nI_add, nI_1, nI_leI, nI_ltI, nI_eq, nI_clamp, kz_m1, kz_mn, kz_mn2, kz_n0, kz_0n, kz_0, kz_le0, kz_0lt, false_implies, true_implies, not_false_eq_true, not_true_eq_false, Nat.zero_le, kb_0, kz_10, kz_of, ky_sw, kz_mx, kz_mi])
    | (refine ⟨vp_in_nI (by omega) (by omega), ?_⟩)
    | (refine ⟨fun zc => ?_, fun zc => ?_⟩ <;> try (exfalso; omega))
    | fail)
theorem kx48 (ha : kI a) (hW : kW a k f n R G) (hn : n < 60) (hQ : ∀ f', kW a k f' (n + 1) (kru R n (N, x, 0, 0)) (upd G n (-1)) → kfr a f f' (kRB k) → Q (.inl none) f') : ky_cl adK 48 [.ref (a k), .long N, .int x] f Q := by
  obtain ⟨⟨h0, h6, h7, h8, h9, h10⟩, hb⟩ := id hW
  refine ⟨Nat.le_of_ble_eq_true rfl, fun z => absurd z (by decide), ?_⟩
  show ky_ok adK 48 0 [some (.ref (a k)), some (.long N), none, some (.int x)] [] f 0 0 _
  repeat' (first
    | (refine ky_ok_stp rfl ?_; simp (disch := first | omega | assumption) only [ky_stp, ky_inv, ky_ldi, ky_ldl, ky_ldd, ky_lda, ky_cl2, ky_st1, ky_st2, ky_s1i, ky_s2i, ky_s1l, ky_s2l, ky_sli, ky_s1f, ky_s2f, ky_s1d, ky_s2d, ky_sr, ky_sai, ky_sasi, ky_sasl, ky_sasr, ky_svr, ky_sv, ky_sv2, ky_s1, ky_cs, ky_pop, ky_nth, ky_snt, ky_obj, ky_ari, ky_arl, ky_arr, ky_arn, ky_fv, ky_rcv, List.map_cons, List.map_nil, List.drop_succ_cons, List.drop_zero, Value.category, Nat.reduceAdd, Nat.reduceSub, true_and, and_true, true_or, or_true, reduceCtorEq, ite_true, ite_false, eq_self, Nat.reduceEqDiff, Nat.reduceLeDiff, nI_add, nI_1, nI_leI, nI_ltI, nI_eq, nI_clamp, kz_m1, kz_mn, kz_mn2, kz_n0, kz_0n, kz_0, kz_le0, kz_0lt, false_implies, true_implies, not_false_eq_true, not_true_eq_false, Nat.zero_le, kb_0, kz_10, kz_of, ky_sw, kz_mx, kz_mi, h0, h6, h7, h8, h9, h10, kz_up, kI_ne ha, kz_60])
    | (refine ⟨vp_in_nI (by omega) (by omega), ?_⟩)
    | (refine ⟨fun zc => ?_, fun zc => ?_⟩ <;> try (exfalso; omega))
    | fail)
  refine hQ _ ⟨?_, k01_b hb (Or.inl rfl) (Or.inl rfl)⟩ fun j hj => ?_
  · unfold kO
    simp (disch := first | omega | assumption) only [kz_up, kI_ne ha, ite_true, ite_false, true_and, and_true]
    exact ⟨by rw [← kru_n], by rw [← kru_l], by rw [← kru_p]; rfl, by rw [← kru_f]; rfl⟩
  · unfold kRB at hj
    simp (disch := first | omega | assumption) only [kz_up, kI_ne ha, ite_false]
theorem kx50 (ha : kI a) (hk : k + 10 < k2 ∨ k2 + 10 < k) (hW : kW a k f n R G) (hW2 : kW a k2 f n2 R2 G2) (hn2 : n2 ≤ 60) (hs : s ≤ e) (he : e ≤ n2)
    (hQ : ∀ f' R' G', kW a k f' (e - s) R' G' → kfr a f f' (kRB k) → (∀ i j, j < e - s → i = j + s → R' j = R2 i ∧ G' j = nI i) → Q (.inl none) f') :
    ky_cl adK 50 [.ref (a k), .ref (a k2), .int (nI s), .int (nI e)] f Q := by
  have h0 := kW_lv hW
  refine ⟨Nat.le_of_ble_eq_true rfl, fun z => absurd z (by decide), ?_⟩
  show ky_ok adK 50 0 [some (.ref (a k)), some (.ref (a k2)), some (.int (nI s)), some (.int (nI e))] [] f 0 0 _
  repeat' (first
    | (refine ky_ok_stp rfl ?_; simp (disch := first | omega | assumption) only [ky_stp, ky_inv, ky_ldi, ky_ldl, ky_ldd, ky_lda, ky_cl2, ky_st1, ky_st2, ky_s1i, ky_s2i, ky_s1l, ky_s2l, ky_sli, ky_s1f, ky_s2f, ky_s1d, ky_s2d, ky_sr, ky_sai, ky_sasi, ky_sasl, ky_sasr, ky_svr, ky_sv, ky_sv2, ky_s1, ky_cs, ky_pop, ky_nth, ky_snt, ky_obj, ky_ari, ky_arl, ky_arr, ky_arn, ky_fv, ky_rcv, List.map_cons, List.map_nil, List.drop_succ_cons, List.drop_zero, Value.category, Nat.reduceAdd, Nat.reduceSub, true_and, and_true, true_or, or_true, reduceCtorEq, ite_true, ite_false, eq_self, Nat.reduceEqDiff, Nat.reduceLeDiff, nI_add, nI_1, nI_leI, nI_ltI, nI_eq, nI_clamp, kz_m1, kz_mn, kz_mn2, kz_n0, kz_0n, kz_0, kz_le0, kz_0lt, false_implies, true_implies, not_false_eq_true, not_true_eq_false, Nat.zero_le, kb_0, kz_10, kz_of, ky_sw, kz_mx, kz_mi, h0, kz_up, kI_ne ha])
    | (refine ⟨vp_in_nI (by omega) (by omega), ?_⟩)
    | (refine ⟨fun zc => ?_, fun zc => ?_⟩ <;> try (exfalso; omega))
    | fail)
  refine kx49 (n := 0) ha hk (kW_ct ha hW) (kW_fr hW2 fun j z1 z2 => ?_) hn2 hs he (by omega) fun f2 R' G' z3 z4 z5 z6 => ?_
  · simp (disch := first | omega | assumption) only [kz_up, kI_ne ha, ite_false]
  simp only [ky_aft, ky_vl, Nat.reduceAdd]
  repeat' (first
    | (refine ky_ok_stp rfl ?_; simp (disch := first | omega | assumption) only [ky_stp, ky_inv, ky_ldi, ky_ldl, ky_ldd, ky_lda, ky_cl2, ky_st1, ky_st2, ky_s1i, ky_s2i, ky_s1l, ky_s2l, ky_sli, ky_s1f, ky_s2f, ky_s1d, ky_s2d, ky_sr, ky_sai, ky_sasi, ky_sasl, ky_sasr, ky_svr, ky_sv, ky_sv2, ky_s1, ky_cs, ky_pop, ky_nth, ky_snt, ky_obj, ky_ari, ky_arl, ky_arr, ky_arn, ky_fv, ky_rcv, List.map_cons, List.map_nil, List.drop_succ_cons, List.drop_zero, Value.category, Nat.reduceAdd, Nat.reduceSub, true_and, and_true, true_or, or_true, reduceCtorEq, ite_true, ite_false, eq_self, Nat.reduceEqDiff, Nat.reduceLeDiff, nI_add, nI_1, nI_leI, nI_ltI, nI_eq, nI_clamp, kz_m1, kz_mn, kz_mn2, kz_n0, kz_0n, kz_0, kz_le0, kz_0lt, false_implies, true_implies, not_false_eq_true, not_true_eq_false, Nat.zero_le, kb_0, kz_10, kz_of, ky_sw, kz_mx, kz_mi])
    | (refine ⟨vp_in_nI (by omega) (by omega), ?_⟩)
    | (refine ⟨fun zc => ?_, fun zc => ?_⟩ <;> try (exfalso; omega))
    | fail)
  have z7 := kfr_up (e := .inr (3, [.int 0, .ref (a (k + 1)), .ref (a (k + 6)), .ref (a (k + 7)), .ref (a (k + 8)), .ref (a (k + 9)), .ref (a (k + 10))])) ha (kfr_rf (f := f) (S := kRB k)) (q := k) (Or.inl rfl)
  exact hQ f2 R' G' (by rw [Nat.zero_add] at z3; exact z3) (kfr_tr z7 z4 fun _ z => ⟨z, z⟩) (fun i j z8 z9 => z6 i j (by omega) (by omega) (by omega))
end KXX
