/-! ## rows of bytes -/
/-- a row of bytes at k: its length, what it holds -/
def kB (a : Nat → Nat) (k : Nat) (f : ky_H) (cap len : Nat) (c : Nat → Nat) : Prop :=
  ∃ B : Nat → Int32, f (a k) = some (.inr (0, [.int (nI len), .ref (a (k + 1))])) ∧ f (a (k + 1)) = some (.inl (0, cap, .inl B)) ∧ len ≤ cap ∧ (∀ i, i < len → B i &&& 255 = nI (c i)) ∧ ∀ i, i < len → c i < 256
def kBB (k : Nat) : Nat → Prop := fun j => j = k ∨ j = k + 1
theorem kB_fr {a : Nat → Nat} {k cap len : Nat} {f f' : ky_H} {c : Nat → Nat} (h : kB a k f cap len c) (h0 : f' (a k) = f (a k)) (h1 : f' (a (k + 1)) = f (a (k + 1))) : kB a k f' cap len c := by
  obtain ⟨B, g0, g1, g2, g3, g4⟩ := h
  exact ⟨B, h0.trans g0, h1.trans g1, g2, g3, g4⟩
theorem kB_co {a : Nat → Nat} {k cap len : Nat} {f : ky_H} {c c' : Nat → Nat} (h : kB a k f cap len c) (hc : ∀ i, i < len → c' i = c i) : kB a k f cap len c' := by
  obtain ⟨B, g0, g1, g2, g3, g4⟩ := h
  exact ⟨B, g0, g1, g2, fun i hi => by rw [hc i hi]; exact g3 i hi, fun i hi => by rw [hc i hi]; exact g4 i hi⟩
def kcu (c : Nat → Nat) (i b : Nat) : Nat → Nat := fun j => if j = i then b else c j
set_option maxRecDepth 100000 in
theorem kz_byte : ∀ b, b < 256 → ky_nb 0 ((nI b).toInt8.toInt32) &&& 255 = nI b := by decide +kernel
section KXB
variable {adK a : Nat → Nat} {k k2 cap cap2 len len2 i b : Nat} {f : ky_H} {c c2 : Nat → Nat} {Q : ky_Q} {x : Int32}
theorem kx1 (ha : kI a) (hB : kB a k f cap len c) (hQ : ∀ f', kB a k f' cap 0 c → kfr a f f' (fun j => j = k) → Q (.inl none) f') : ky_cl adK 1 [.ref (a k)] f Q := by
  obtain ⟨B, h0, h1, h2, h3, h4⟩ := hB
  refine ⟨Nat.le_of_ble_eq_true rfl, fun z => absurd z (by decide), ?_⟩; show ky_ok adK 1 0 [some (.ref (a k))] [] f 0 0 _
  repeat' (first | (refine ky_ok_stp rfl ?_; simp (disch := first | omega | assumption) only [ky_stp, ky_inv, ky_ldi, ky_ldl, ky_ldd, ky_lda, ky_cl2, ky_st1, ky_st2, ky_s1i, ky_s2i, ky_s1l, ky_s2l, ky_sli, ky_s1f, ky_s2f, ky_s1d, ky_s2d, ky_sr, ky_sai, ky_sasi, ky_sasl, ky_sasr, ky_svr, ky_sv, ky_sv2, ky_s1, ky_cs, ky_pop, ky_nth, ky_snt, ky_obj, ky_ari, ky_arl, ky_arr, ky_arn, ky_fv, ky_rcv, List.map_cons, List.map_nil, List.drop_succ_cons, List.drop_zero, Value.category, Nat.reduceAdd, Nat.reduceSub, true_and, and_true, true_or, or_true, reduceCtorEq, ite_true, ite_false, eq_self, Nat.reduceEqDiff, Nat.reduceLeDiff, nI_add, nI_1, nI_leI, nI_ltI, nI_eq, nI_clamp, kz_m1, kz_mn, kz_mn2, kz_n0, kz_0n, kz_0, kz_le0, kz_0lt, false_implies, true_implies, not_false_eq_true, not_true_eq_false, Nat.zero_le, kb_0, kz_10, kz_of, ky_sw, kz_mx, kz_mi, h0]) | (refine ⟨vp_in_nI (by omega) (by omega), ?_⟩) | (refine ⟨fun zc => ?_, fun zc => ?_⟩ <;> try (exfalso; omega)) | fail)
  exact hQ _ ⟨B, by rw [kz_same]; rfl, by simp (disch := first | omega | assumption) only [kz_up, kI_ne ha, h1, ite_false], by omega, fun i hi => by omega, fun i hi => by omega⟩ (kfr_up ha kfr_rf rfl)
theorem kx2 (ha : kI a) (hB : kB a k f cap len c) (hl : len < cap) (hc : cap < 100000) (hb : b < 256) (hQ : ∀ f', kB a k f' cap (len + 1) (kcu c len b) → kfr a f f' (kBB k) → Q (.inl none) f') : ky_cl adK 2 [.ref (a k), .int (nI b)] f Q := by
  obtain ⟨B, h0, h1, h2, h3, h4⟩ := hB
  refine ⟨Nat.le_of_ble_eq_true rfl, fun z => absurd z (by decide), ?_⟩; show ky_ok adK 2 0 [some (.ref (a k)), some (.int (nI b))] [] f 0 0 _
  repeat' (first | (refine ky_ok_stp rfl ?_; simp (disch := first | omega | assumption) only [ky_stp, ky_inv, ky_ldi, ky_ldl, ky_ldd, ky_lda, ky_cl2, ky_st1, ky_st2, ky_s1i, ky_s2i, ky_s1l, ky_s2l, ky_sli, ky_s1f, ky_s2f, ky_s1d, ky_s2d, ky_sr, ky_sai, ky_sasi, ky_sasl, ky_sasr, ky_svr, ky_sv, ky_sv2, ky_s1, ky_cs, ky_pop, ky_nth, ky_snt, ky_obj, ky_ari, ky_arl, ky_arr, ky_arn, ky_fv, ky_rcv, List.map_cons, List.map_nil, List.drop_succ_cons, List.drop_zero, Value.category, Nat.reduceAdd, Nat.reduceSub, true_and, and_true, true_or, or_true, reduceCtorEq, ite_true, ite_false, eq_self, Nat.reduceEqDiff, Nat.reduceLeDiff, nI_add, nI_1, nI_leI, nI_ltI, nI_eq, nI_clamp, kz_m1, kz_mn, kz_mn2, kz_n0, kz_0n, kz_0, kz_le0, kz_0lt, false_implies, true_implies, not_false_eq_true, not_true_eq_false, Nat.zero_le, kb_0, kz_10, kz_of, ky_sw, kz_mx, kz_mi, h0, h1, kz_up, kI_ne ha, kz_of]) | (refine ⟨vp_in_nI (by omega) (by omega), ?_⟩) | (refine ⟨fun zc => ?_, fun zc => ?_⟩ <;> try (exfalso; omega)) | fail)
  refine hQ _ ⟨_, by rw [kz_same], by simp (disch := first | omega | assumption) only [kz_up, kI_ne ha, ite_true, ite_false]; rfl, by omega, fun i hi => ?_, fun i hi => ?_⟩ (kfr_up ha (kfr_up ha kfr_rf (Or.inr rfl)) (Or.inl rfl))
  · by_cases he : i = len
    · subst he
      rw [pk_us, kcu, if_pos rfl]
      exact kz_byte b hb
    · rw [pk_un he, kcu, if_neg he]
      exact h3 i (by omega)
  · unfold kcu
    split
    · exact hb
    · exact h4 i (by omega)
theorem kx3 (hB : kB a k f cap len c) (hc : cap < 100000) (hi : i < len) (hQ : Q (.inl (some (.int (nI (c i))))) f) : ky_cl adK 3 [.ref (a k), .int (nI i)] f Q := by
  obtain ⟨B, h0, h1, h2, h3, h4⟩ := hB
  refine ⟨Nat.le_of_ble_eq_true rfl, fun z => absurd z (by decide), ?_⟩; show ky_ok adK 3 0 [some (.ref (a k)), some (.int (nI i))] [] f 0 0 _
  repeat' (first | (refine ky_ok_stp rfl ?_; simp (disch := first | omega | assumption) only [ky_stp, ky_inv, ky_ldi, ky_ldl, ky_ldd, ky_lda, ky_cl2, ky_st1, ky_st2, ky_s1i, ky_s2i, ky_s1l, ky_s2l, ky_sli, ky_s1f, ky_s2f, ky_s1d, ky_s2d, ky_sr, ky_sai, ky_sasi, ky_sasl, ky_sasr, ky_svr, ky_sv, ky_sv2, ky_s1, ky_cs, ky_pop, ky_nth, ky_snt, ky_obj, ky_ari, ky_arl, ky_arr, ky_arn, ky_fv, ky_rcv, List.map_cons, List.map_nil, List.drop_succ_cons, List.drop_zero, Value.category, Nat.reduceAdd, Nat.reduceSub, true_and, and_true, true_or, or_true, reduceCtorEq, ite_true, ite_false, eq_self, Nat.reduceEqDiff, Nat.reduceLeDiff, nI_add, nI_1, nI_leI, nI_ltI, nI_eq, nI_clamp, kz_m1, kz_mn, kz_mn2, kz_n0, kz_0n, kz_0, kz_le0, kz_0lt, false_implies, true_implies, not_false_eq_true, not_true_eq_false, Nat.zero_le, kb_0, kz_10, kz_of, ky_sw, kz_mx, kz_mi, h0, h1]) | (refine ⟨vp_in_nI (by omega) (by omega), ?_⟩) | (refine ⟨fun zc => ?_, fun zc => ?_⟩ <;> try (exfalso; omega)) | fail)
  rw [h3 i hi]; exact hQ
theorem kx3n (hB : kB a k f cap len c) (hc : cap < 100000) (hx : ∀ i, i < len → x ≠ nI i) (hQ : Q (.inl (some (.int (-1)))) f) : ky_cl adK 3 [.ref (a k), .int x] f Q := by
  obtain ⟨B, h0, h1, h2, h3, h4⟩ := hB
  by_cases hx0 : x < 0
  · have e0 := eq_true hx0
    refine ⟨Nat.le_of_ble_eq_true rfl, fun z => absurd z (by decide), ?_⟩; show ky_ok adK 3 0 [some (.ref (a k)), some (.int x)] [] f 0 0 _
    repeat' (first | (refine ky_ok_stp rfl ?_; simp (disch := first | omega | assumption) only [ky_stp, ky_inv, ky_ldi, ky_ldl, ky_ldd, ky_lda, ky_cl2, ky_st1, ky_st2, ky_s1i, ky_s2i, ky_s1l, ky_s2l, ky_sli, ky_s1f, ky_s2f, ky_s1d, ky_s2d, ky_sr, ky_sai, ky_sasi, ky_sasl, ky_sasr, ky_svr, ky_sv, ky_sv2, ky_s1, ky_cs, ky_pop, ky_nth, ky_snt, ky_obj, ky_ari, ky_arl, ky_arr, ky_arn, ky_fv, ky_rcv, List.map_cons, List.map_nil, List.drop_succ_cons, List.drop_zero, Value.category, Nat.reduceAdd, Nat.reduceSub, true_and, and_true, true_or, or_true, reduceCtorEq, ite_true, ite_false, eq_self, Nat.reduceEqDiff, Nat.reduceLeDiff, nI_add, nI_1, nI_leI, nI_ltI, nI_eq, nI_clamp, kz_m1, kz_mn, kz_mn2, kz_n0, kz_0n, kz_0, kz_le0, kz_0lt, false_implies, true_implies, not_false_eq_true, not_true_eq_false, Nat.zero_le, kb_0, kz_10, kz_of, ky_sw, kz_mx, kz_mi, h0, h1, e0]) | (refine ⟨vp_in_nI (by omega) (by omega), ?_⟩) | (refine ⟨fun zc => ?_, fun zc => ?_⟩ <;> try (exfalso; omega)) | fail)
    exact hQ
  · obtain ⟨j, hj, rfl⟩ := nI_of hx0
    have hlj : len ≤ j := Nat.not_lt.mp fun z => hx j z rfl
    refine ⟨Nat.le_of_ble_eq_true rfl, fun z => absurd z (by decide), ?_⟩; show ky_ok adK 3 0 [some (.ref (a k)), some (.int (nI j))] [] f 0 0 _
    repeat' (first | (refine ky_ok_stp rfl ?_; simp (disch := first | omega | assumption) only [ky_stp, ky_inv, ky_ldi, ky_ldl, ky_ldd, ky_lda, ky_cl2, ky_st1, ky_st2, ky_s1i, ky_s2i, ky_s1l, ky_s2l, ky_sli, ky_s1f, ky_s2f, ky_s1d, ky_s2d, ky_sr, ky_sai, ky_sasi, ky_sasl, ky_sasr, ky_svr, ky_sv, ky_sv2, ky_s1, ky_cs, ky_pop, ky_nth, ky_snt, ky_obj, ky_ari, ky_arl, ky_arr, ky_arn, ky_fv, ky_rcv, List.map_cons, List.map_nil, List.drop_succ_cons, List.drop_zero, Value.category, Nat.reduceAdd, Nat.reduceSub, true_and, and_true, true_or, or_true, reduceCtorEq, ite_true, ite_false, eq_self, Nat.reduceEqDiff, Nat.reduceLeDiff, nI_add, nI_1, nI_leI, nI_ltI, nI_eq, nI_clamp, kz_m1, kz_mn, kz_mn2, kz_n0, kz_0n, kz_0, kz_le0, kz_0lt, false_implies, true_implies, not_false_eq_true, not_true_eq_false, Nat.zero_le, kb_0, kz_10, kz_of, ky_sw, kz_mx, kz_mi, h0, h1]) | (refine ⟨vp_in_nI (by omega) (by omega), ?_⟩) | (refine ⟨fun zc => ?_, fun zc => ?_⟩ <;> try (exfalso; omega)) | fail)
    exact hQ
theorem kx3e (hB : kB a k f cap len c) (hc : cap < 100000) (hi : len ≤ i) (hi2 : i < 100000) (hQ : Q (.inl (some (.int (-1)))) f) : ky_cl adK 3 [.ref (a k), .int (nI i)] f Q :=
  kx3n hB hc (fun j hj => by rw [ne_eq, nI_eq (by omega) (by omega)]; omega) hQ
theorem kx4 (hB : kB a k f cap len c) (hB2 : kB a k2 f cap2 len2 c2) (hc : cap < 100000) (hc2 : cap2 < 100000) (hQ1 : len = len2 → (∀ i, i < len → c i = c2 i) → Q (.inl (some (.int 1))) f) (hQ0 : ¬ (len = len2 ∧ ∀ i, i < len → c i = c2 i) → Q (.inl (some (.int 0))) f) : ky_cl adK 4 [.ref (a k), .ref (a k2)] f Q := by
  obtain ⟨B, h0, h1, h2, h3, h4⟩ := id hB
  obtain ⟨B2, g0, g1, g2, g3, g4⟩ := id hB2
  have loop : ∀ m t, t + m = len → len = len2 → (∀ i, i < t → c i = c2 i) → ky_ok adK 4 15 [some (.ref (a k)), some (.ref (a k2)), some (.int (nI t))] [] f 0 0 Q := by
    intro m
    induction m with
    | zero =>
      intro t ht hl he
      repeat' (first | (refine ky_ok_stp rfl ?_; simp (disch := first | omega | assumption) only [ky_stp, ky_inv, ky_ldi, ky_ldl, ky_ldd, ky_lda, ky_cl2, ky_st1, ky_st2, ky_s1i, ky_s2i, ky_s1l, ky_s2l, ky_sli, ky_s1f, ky_s2f, ky_s1d, ky_s2d, ky_sr, ky_sai, ky_sasi, ky_sasl, ky_sasr, ky_svr, ky_sv, ky_sv2, ky_s1, ky_cs, ky_pop, ky_nth, ky_snt, ky_obj, ky_ari, ky_arl, ky_arr, ky_arn, ky_fv, ky_rcv, List.map_cons, List.map_nil, List.drop_succ_cons, List.drop_zero, Value.category, Nat.reduceAdd, Nat.reduceSub, true_and, and_true, true_or, or_true, reduceCtorEq, ite_true, ite_false, eq_self, Nat.reduceEqDiff, Nat.reduceLeDiff, nI_add, nI_1, nI_leI, nI_ltI, nI_eq, nI_clamp, kz_m1, kz_mn, kz_mn2, kz_n0, kz_0n, kz_0, kz_le0, kz_0lt, false_implies, true_implies, not_false_eq_true, not_true_eq_false, Nat.zero_le, kb_0, kz_10, kz_of, ky_sw, kz_mx, kz_mi, h0, g0]) | (refine ⟨vp_in_nI (by omega) (by omega), ?_⟩) | (refine ⟨fun zc => ?_, fun zc => ?_⟩ <;> try (exfalso; omega)) | fail)
      exact hQ1 hl fun i hi => he i (by omega)
    | succ m ih =>
      intro t ht hl he
      have z1 := h4 t (by omega)
      have z2 := g4 t (by omega)
      repeat' (first | (refine ih (t + 1) (by omega) hl ?_) | (refine kx3 hB hc (show t < len by omega) ?_; simp only [ky_aft, ky_vl, Nat.reduceAdd]) | (refine kx3 hB2 hc2 (show t < len2 by omega) ?_; simp only [ky_aft, ky_vl, Nat.reduceAdd]) | (refine ky_ok_stp rfl ?_; simp (disch := first | omega | assumption) only [ky_stp, ky_inv, ky_ldi, ky_ldl, ky_ldd, ky_lda, ky_cl2, ky_st1, ky_st2, ky_s1i, ky_s2i, ky_s1l, ky_s2l, ky_sli, ky_s1f, ky_s2f, ky_s1d, ky_s2d, ky_sr, ky_sai, ky_sasi, ky_sasl, ky_sasr, ky_svr, ky_sv, ky_sv2, ky_s1, ky_cs, ky_pop, ky_nth, ky_snt, ky_obj, ky_ari, ky_arl, ky_arr, ky_arn, ky_fv, ky_rcv, List.map_cons, List.map_nil, List.drop_succ_cons, List.drop_zero, Value.category, Nat.reduceAdd, Nat.reduceSub, true_and, and_true, true_or, or_true, reduceCtorEq, ite_true, ite_false, eq_self, Nat.reduceEqDiff, Nat.reduceLeDiff, nI_add, nI_1, nI_leI, nI_ltI, nI_eq, nI_clamp, kz_m1, kz_mn, kz_mn2, kz_n0, kz_0n, kz_0, kz_le0, kz_0lt, false_implies, true_implies, not_false_eq_true, not_true_eq_false, Nat.zero_le, kb_0, kz_10, kz_of, ky_sw, kz_mx, kz_mi, h0, g0]) | (refine ⟨vp_in_nI (by omega) (by omega), ?_⟩) | (refine ⟨fun zc => ?_, fun zc => ?_⟩ <;> try (exfalso; omega)) | fail)
      · intro i hi
        by_cases hit : i = t
        · rw [hit]; exact zc
        · exact he i (by omega)
      · exact hQ0 fun z => zc (z.2 t (by omega))
  refine ⟨Nat.le_of_ble_eq_true rfl, fun z => absurd z (by decide), ?_⟩; show ky_ok adK 4 0 [some (.ref (a k)), some (.ref (a k2)), none] [] f 0 0 _
  repeat' (first | (refine loop len 0 (by omega) (by omega) (fun i hi => by omega)) | (refine ky_ok_stp rfl ?_; simp (disch := first | omega | assumption) only [ky_stp, ky_inv, ky_ldi, ky_ldl, ky_ldd, ky_lda, ky_cl2, ky_st1, ky_st2, ky_s1i, ky_s2i, ky_s1l, ky_s2l, ky_sli, ky_s1f, ky_s2f, ky_s1d, ky_s2d, ky_sr, ky_sai, ky_sasi, ky_sasl, ky_sasr, ky_svr, ky_sv, ky_sv2, ky_s1, ky_cs, ky_pop, ky_nth, ky_snt, ky_obj, ky_ari, ky_arl, ky_arr, ky_arn, ky_fv, ky_rcv, List.map_cons, List.map_nil, List.drop_succ_cons, List.drop_zero, Value.category, Nat.reduceAdd, Nat.reduceSub, true_and, and_true, true_or, or_true, reduceCtorEq, ite_true, ite_false, eq_self, Nat.reduceEqDiff, Nat.reduceLeDiff, nI_add, nI_1, nI_leI, nI_ltI, nI_eq, nI_clamp, kz_m1, kz_mn, kz_mn2, kz_n0, kz_0n, kz_0, kz_le0, kz_0lt, false_implies, true_implies, not_false_eq_true, not_true_eq_false, Nat.zero_le, kb_0, kz_10, kz_of, ky_sw, kz_mx, kz_mi, h0, g0]) | (refine ⟨vp_in_nI (by omega) (by omega), ?_⟩) | (refine ⟨fun zc => ?_, fun zc => ?_⟩ <;> try (exfalso; omega)) | fail)
  exact hQ0 fun z => zc z.1
end KXB
