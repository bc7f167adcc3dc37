/-! ## the signs of COUNTs -/
def sgD (c : Nat) : List Nat := if c < 10 then [48 + c] else if c < 100 then [48 + c / 10, 48 + c % 10] else [48 + c / 100, 48 + c / 10 % 10, 48 + c % 10]
def sgL (c first : Nat) : List Nat := if 0 < (c - 1) / 26 then [first + (c - 1) / 26 - 1, first + (c - 1) % 26] else [first + (c - 1) % 26]
def sgg (d one five ten : Nat) : List Nat := if d = 9 then [one, ten] else if d = 4 then [one, five] else (if 4 < d then [five] else []) ++ List.replicate (d % 5) one
def sgR (c sh : Nat) : List Nat := List.replicate (c / 100) (67 + sh) ++ (sgg (c / 10 % 10) (88 + sh) (76 + sh) (67 + sh) ++ sgg (c % 10) (73 + sh) (86 + sh) (88 + sh))
def sg (k c : Nat) : List Nat := match k with
  | 0 => sgD c
  | 1 => sgL c 65
  | 2 => sgL c 97
  | 3 => sgR c 0
  | 4 => sgR c 32
  | _ => []
set_option maxRecDepth 100000 in
theorem sg_okb : ∀ k, k < 5 → ∀ c, c < 159 → 1 ≤ c → (decide (sg k c ≠ []) && decide ((sg k c).length ≤ 8) && (sg k c).all fun b => decide (0 < b ∧ b < 256 ∧ b ≠ 46)) = true := by decide +kernel
theorem sg_ok {k c : Nat} (hk : k < 5) (hc : c < 159) (h1 : 1 ≤ c) : sg k c ≠ [] ∧ (sg k c).length ≤ 8 ∧ ∀ b ∈ sg k c, 0 < b ∧ b < 256 ∧ b ≠ 46 := by
  have h := sg_okb k hk c hc h1
  simp only [Bool.and_eq_true, decide_eq_true_eq, List.all_eq_true] at h
  exact ⟨h.1.1, h.1.2, h.2⟩
/-- the loops as the code has them -/
def kDs : Nat → Nat → Int32 → Int64 → Int64
  | 0, _, _, s => s
  | m + 1, j, r, s => if r ≤ 0 then s else kDs m (j + 8) (r / 10) (s ||| ((48 + (r - r / 10 * 10)).toInt64 <<< ((nI j).toInt64 &&& 63)))
def kLs (fi : Int32) : Nat → Nat → Int32 → Int64 → Int64
  | 0, _, _, s => s
  | m + 1, j, r, s => if r ≤ 0 then s else kLs fi m (j + 8) ((r - 1) / 26) (s ||| ((fi + ((r - 1) - (r - 1) / 26 * 26)).toInt64 <<< ((nI j).toInt64 &&& 63)))
def kRl (o : Int32) : Nat → Int64 → Int64
  | 0, s => s
  | m + 1, s => kRl o m ((s <<< ((8 : Int32).toInt64 &&& 63)) ||| o.toInt64)
def kRd (s : Int64) (d : Nat) (o v t : Int32) : Int64 :=
  if d = 9 then (((s <<< ((8 : Int32).toInt64 &&& 63)) ||| o.toInt64) <<< ((8 : Int32).toInt64 &&& 63)) ||| t.toInt64
  else if d = 4 then (((s <<< ((8 : Int32).toInt64 &&& 63)) ||| o.toInt64) <<< ((8 : Int32).toInt64 &&& 63)) ||| v.toInt64
  else kRl o (d % 5) (if 5 ≤ d then (s <<< ((8 : Int32).toInt64 &&& 63)) ||| v.toInt64 else s)
def kRo (c : Nat) (sm : Int32) : Int64 := kRd (kRd (if c < 100 then 0 else (67 + sm).toInt64) (c / 10 % 10) (88 + sm) (76 + sm) (67 + sm)) (c % 10) (73 + sm) (86 + sm) (88 + sm)
set_option maxRecDepth 100000 in
theorem kDs_ok : ∀ c, c < 159 → 1 ≤ c → kDs 8 0 (nI c) 0 = kpS (sg 0 c) := by decide +kernel
set_option maxRecDepth 100000 in
theorem kLs_ok : ∀ c, c < 159 → 1 ≤ c → kLs 65 8 0 (nI c) 0 = kpS (sg 1 c) ∧ kLs 97 8 0 (nI c) 0 = kpS (sg 2 c) := by decide +kernel
set_option maxRecDepth 100000 in
theorem kRo_ok : ∀ c, c < 159 → 1 ≤ c → kRo c 0 = kpS (sg 3 c) ∧ kRo c 32 = kpS (sg 4 c) := by decide +kernel
set_option maxRecDepth 100000 in
theorem kz_dv : ∀ c, c < 159 → nI c / 10 - nI c / 10 / 10 * 10 = nI (c / 10 % 10) ∧ nI c - nI c / 10 * 10 = nI (c % 10) := by decide +kernel
theorem kz_100 : (100 : Int32) = nI 100 := rfl
theorem kz_1m : ((1 : Int32) ≤ -1) = False := by decide
theorem kz_d10 : ((10 : Int32) = 0) = False := by decide
theorem kz_d26 : ((26 : Int32) = 0) = False := by decide
theorem kz_d5 : ((5 : Int32) = 0) = False := by decide
set_option maxRecDepth 100000 in
theorem kz_m5 : ∀ d, d < 10 → nI d - nI d / 5 * 5 = nI (d % 5) := by decide +kernel
section KXG
variable {adK : Nat → Nat} {c d k : Nat} {f : ky_H} {Q : ky_Q} {s : Int64} {o v t fi sm : Int32}
theorem kx20 (hQ : Q (.inl (some (.long (kDs 8 0 (nI c) 0)))) f) : ky_cl adK 20 [.int (nI c)] f Q := by
  have loop : ∀ m j r s, j + 8 * m = 64 → Q (.inl (some (.long (kDs m j r s)))) f → ky_ok adK 20 7 [some (.int (nI c)), some (.long s), none, some (.int r), some (.int (nI j))] [] f 0 0 Q := by
    intro m
    induction m with
    | zero =>
      intro j r s hj hq
      repeat' (first | (refine ky_ok_stp rfl ?_; simp (disch := first | omega | assumption) only [ky_stp, ky_inv, ky_ldi, ky_ldl, ky_ldd, ky_lda, ky_cl2, ky_st1, ky_st2, ky_s1i, ky_s2i, ky_s1l, ky_s2l, ky_sli, ky_s1f, ky_s2f, ky_s1d, ky_s2d, ky_sr, ky_sai, ky_sasi, ky_sasl, ky_sasr, ky_svr, ky_sv, ky_sv2, ky_s1, ky_cs, ky_pop, ky_nth, ky_snt, ky_obj, ky_ari, ky_arl, ky_arr, ky_arn, ky_fv, ky_rcv, List.map_cons, List.map_nil, List.drop_succ_cons, List.drop_zero, Value.category, Nat.reduceAdd, Nat.reduceSub, true_and, and_true, true_or, or_true, reduceCtorEq, ite_true, ite_false, eq_self, Nat.reduceEqDiff, Nat.reduceLeDiff, nI_add, nI_1, nI_leI, nI_ltI, nI_eq, nI_clamp, kz_m1, kz_mn, kz_mn2, kz_n0, kz_0n, kz_0, kz_le0, kz_0lt, false_implies, true_implies, not_false_eq_true, not_true_eq_false, Nat.zero_le, kb_0, kz_10, kz_of, ky_sw, kz_mx, kz_mi, kz_64]) | (refine ⟨vp_in_nI (by omega) (by omega), ?_⟩) | (refine ⟨fun zc => ?_, fun zc => ?_⟩ <;> try (exfalso; omega)) | fail)
      exact hq
    | succ m ih =>
      intro j r s hj hq
      rw [kDs] at hq
      repeat' (first | (refine ih (j + 8) _ _ (by omega) ?_) | (refine ky_ok_stp rfl ?_; simp (disch := first | omega | assumption) only [ky_stp, ky_inv, ky_ldi, ky_ldl, ky_ldd, ky_lda, ky_cl2, ky_st1, ky_st2, ky_s1i, ky_s2i, ky_s1l, ky_s2l, ky_sli, ky_s1f, ky_s2f, ky_s1d, ky_s2d, ky_sr, ky_sai, ky_sasi, ky_sasl, ky_sasr, ky_svr, ky_sv, ky_sv2, ky_s1, ky_cs, ky_pop, ky_nth, ky_snt, ky_obj, ky_ari, ky_arl, ky_arr, ky_arn, ky_fv, ky_rcv, List.map_cons, List.map_nil, List.drop_succ_cons, List.drop_zero, Value.category, Nat.reduceAdd, Nat.reduceSub, true_and, and_true, true_or, or_true, reduceCtorEq, ite_true, ite_false, eq_self, Nat.reduceEqDiff, Nat.reduceLeDiff, nI_add, nI_1, nI_leI, nI_ltI, nI_eq, nI_clamp, kz_m1, kz_mn, kz_mn2, kz_n0, kz_0n, kz_0, kz_le0, kz_0lt, false_implies, true_implies, not_false_eq_true, not_true_eq_false, Nat.zero_le, kb_0, kz_10, kz_of, ky_sw, kz_mx, kz_mi, kz_64, kz_8, kz_d10]) | (refine ⟨vp_in_nI (by omega) (by omega), ?_⟩) | (refine ⟨fun zc => ?_, fun zc => ?_⟩ <;> try (exfalso; omega)) | fail)
      · rw [if_pos (by assumption)] at hq; exact hq
      · rw [if_neg (by assumption)] at hq; exact hq
  refine ⟨Nat.le_of_ble_eq_true rfl, fun z => absurd z (by decide), ?_⟩; show ky_ok adK 20 0 [some (.int (nI c)), none, none, none, none] [] f 0 0 _
  repeat' (first | (refine loop 8 0 _ _ (by omega) hQ) | (refine ky_ok_stp rfl ?_; simp (disch := first | omega | assumption) only [ky_stp, ky_inv, ky_ldi, ky_ldl, ky_ldd, ky_lda, ky_cl2, ky_st1, ky_st2, ky_s1i, ky_s2i, ky_s1l, ky_s2l, ky_sli, ky_s1f, ky_s2f, ky_s1d, ky_s2d, ky_sr, ky_sai, ky_sasi, ky_sasl, ky_sasr, ky_svr, ky_sv, ky_sv2, ky_s1, ky_cs, ky_pop, ky_nth, ky_snt, ky_obj, ky_ari, ky_arl, ky_arr, ky_arn, ky_fv, ky_rcv, List.map_cons, List.map_nil, List.drop_succ_cons, List.drop_zero, Value.category, Nat.reduceAdd, Nat.reduceSub, true_and, and_true, true_or, or_true, reduceCtorEq, ite_true, ite_false, eq_self, Nat.reduceEqDiff, Nat.reduceLeDiff, nI_add, nI_1, nI_leI, nI_ltI, nI_eq, nI_clamp, kz_m1, kz_mn, kz_mn2, kz_n0, kz_0n, kz_0, kz_le0, kz_0lt, false_implies, true_implies, not_false_eq_true, not_true_eq_false, Nat.zero_le, kb_0, kz_10, kz_of, ky_sw, kz_mx, kz_mi]) | (refine ⟨vp_in_nI (by omega) (by omega), ?_⟩) | (refine ⟨fun zc => ?_, fun zc => ?_⟩ <;> try (exfalso; omega)) | fail)
theorem kx21 (hQ : Q (.inl (some (.long (kLs fi 8 0 (nI c) 0)))) f) : ky_cl adK 21 [.int (nI c), .int fi] f Q := by
  have loop : ∀ m j r s, j + 8 * m = 64 → Q (.inl (some (.long (kLs fi m j r s)))) f → ky_ok adK 21 8 [some (.int (nI c)), some (.int fi), some (.long s), none, some (.int r), some (.int (nI j))] [] f 0 0 Q := by
    intro m
    induction m with
    | zero =>
      intro j r s hj hq
      repeat' (first | (refine ky_ok_stp rfl ?_; simp (disch := first | omega | assumption) only [ky_stp, ky_inv, ky_ldi, ky_ldl, ky_ldd, ky_lda, ky_cl2, ky_st1, ky_st2, ky_s1i, ky_s2i, ky_s1l, ky_s2l, ky_sli, ky_s1f, ky_s2f, ky_s1d, ky_s2d, ky_sr, ky_sai, ky_sasi, ky_sasl, ky_sasr, ky_svr, ky_sv, ky_sv2, ky_s1, ky_cs, ky_pop, ky_nth, ky_snt, ky_obj, ky_ari, ky_arl, ky_arr, ky_arn, ky_fv, ky_rcv, List.map_cons, List.map_nil, List.drop_succ_cons, List.drop_zero, Value.category, Nat.reduceAdd, Nat.reduceSub, true_and, and_true, true_or, or_true, reduceCtorEq, ite_true, ite_false, eq_self, Nat.reduceEqDiff, Nat.reduceLeDiff, nI_add, nI_1, nI_leI, nI_ltI, nI_eq, nI_clamp, kz_m1, kz_mn, kz_mn2, kz_n0, kz_0n, kz_0, kz_le0, kz_0lt, false_implies, true_implies, not_false_eq_true, not_true_eq_false, Nat.zero_le, kb_0, kz_10, kz_of, ky_sw, kz_mx, kz_mi, kz_64]) | (refine ⟨vp_in_nI (by omega) (by omega), ?_⟩) | (refine ⟨fun zc => ?_, fun zc => ?_⟩ <;> try (exfalso; omega)) | fail)
      exact hq
    | succ m ih =>
      intro j r s hj hq
      rw [kLs] at hq
      repeat' (first | (refine ih (j + 8) _ _ (by omega) ?_) | (refine ky_ok_stp rfl ?_; simp (disch := first | omega | assumption) only [ky_stp, ky_inv, ky_ldi, ky_ldl, ky_ldd, ky_lda, ky_cl2, ky_st1, ky_st2, ky_s1i, ky_s2i, ky_s1l, ky_s2l, ky_sli, ky_s1f, ky_s2f, ky_s1d, ky_s2d, ky_sr, ky_sai, ky_sasi, ky_sasl, ky_sasr, ky_svr, ky_sv, ky_sv2, ky_s1, ky_cs, ky_pop, ky_nth, ky_snt, ky_obj, ky_ari, ky_arl, ky_arr, ky_arn, ky_fv, ky_rcv, List.map_cons, List.map_nil, List.drop_succ_cons, List.drop_zero, Value.category, Nat.reduceAdd, Nat.reduceSub, true_and, and_true, true_or, or_true, reduceCtorEq, ite_true, ite_false, eq_self, Nat.reduceEqDiff, Nat.reduceLeDiff, nI_add, nI_1, nI_leI, nI_ltI, nI_eq, nI_clamp, kz_m1, kz_mn, kz_mn2, kz_n0, kz_0n, kz_0, kz_le0, kz_0lt, false_implies, true_implies, not_false_eq_true, not_true_eq_false, Nat.zero_le, kb_0, kz_10, kz_of, ky_sw, kz_mx, kz_mi, kz_64, kz_8, kz_d26]) | (refine ⟨vp_in_nI (by omega) (by omega), ?_⟩) | (refine ⟨fun zc => ?_, fun zc => ?_⟩ <;> try (exfalso; omega)) | fail)
      · rw [if_pos (by assumption)] at hq; exact hq
      · rw [if_neg (by assumption)] at hq; exact hq
  refine ⟨Nat.le_of_ble_eq_true rfl, fun z => absurd z (by decide), ?_⟩; show ky_ok adK 21 0 [some (.int (nI c)), some (.int fi), none, none, none, none] [] f 0 0 _
  repeat' (first | (refine loop 8 0 _ _ (by omega) hQ) | (refine ky_ok_stp rfl ?_; simp (disch := first | omega | assumption) only [ky_stp, ky_inv, ky_ldi, ky_ldl, ky_ldd, ky_lda, ky_cl2, ky_st1, ky_st2, ky_s1i, ky_s2i, ky_s1l, ky_s2l, ky_sli, ky_s1f, ky_s2f, ky_s1d, ky_s2d, ky_sr, ky_sai, ky_sasi, ky_sasl, ky_sasr, ky_svr, ky_sv, ky_sv2, ky_s1, ky_cs, ky_pop, ky_nth, ky_snt, ky_obj, ky_ari, ky_arl, ky_arr, ky_arn, ky_fv, ky_rcv, List.map_cons, List.map_nil, List.drop_succ_cons, List.drop_zero, Value.category, Nat.reduceAdd, Nat.reduceSub, true_and, and_true, true_or, or_true, reduceCtorEq, ite_true, ite_false, eq_self, Nat.reduceEqDiff, Nat.reduceLeDiff, nI_add, nI_1, nI_leI, nI_ltI, nI_eq, nI_clamp, kz_m1, kz_mn, kz_mn2, kz_n0, kz_0n, kz_0, kz_le0, kz_0lt, false_implies, true_implies, not_false_eq_true, not_true_eq_false, Nat.zero_le, kb_0, kz_10, kz_of, ky_sw, kz_mx, kz_mi]) | (refine ⟨vp_in_nI (by omega) (by omega), ?_⟩) | (refine ⟨fun zc => ?_, fun zc => ?_⟩ <;> try (exfalso; omega)) | fail)
theorem kx23 (hd : d < 10) (hQ : Q (.inl (some (.long (kRd s d o v t)))) f) : ky_cl adK 23 [.long s, .int (nI d), .int o, .int v, .int t] f Q := by
  have z5 := kz_m5 d hd
  have loop : ∀ m j s2, j + m = d % 5 → Q (.inl (some (.long (kRl o m s2)))) f → ky_ok adK 23 63 [some (.long s), none, some (.int (nI d)), some (.int o), some (.int v), some (.int t), some (.long s2), none, some (.int (nI j))] [] f 0 0 Q := by
    intro m
    induction m with
    | zero =>
      intro j s2 hj hq
      repeat' (first | (refine ky_ok_stp rfl ?_; simp (disch := first | omega | assumption) only [ky_stp, ky_inv, ky_ldi, ky_ldl, ky_ldd, ky_lda, ky_cl2, ky_st1, ky_st2, ky_s1i, ky_s2i, ky_s1l, ky_s2l, ky_sli, ky_s1f, ky_s2f, ky_s1d, ky_s2d, ky_sr, ky_sai, ky_sasi, ky_sasl, ky_sasr, ky_svr, ky_sv, ky_sv2, ky_s1, ky_cs, ky_pop, ky_nth, ky_snt, ky_obj, ky_ari, ky_arl, ky_arr, ky_arn, ky_fv, ky_rcv, List.map_cons, List.map_nil, List.drop_succ_cons, List.drop_zero, Value.category, Nat.reduceAdd, Nat.reduceSub, true_and, and_true, true_or, or_true, reduceCtorEq, ite_true, ite_false, eq_self, Nat.reduceEqDiff, Nat.reduceLeDiff, nI_add, nI_1, nI_leI, nI_ltI, nI_eq, nI_clamp, kz_m1, kz_mn, kz_mn2, kz_n0, kz_0n, kz_0, kz_le0, kz_0lt, false_implies, true_implies, not_false_eq_true, not_true_eq_false, Nat.zero_le, kb_0, kz_10, kz_of, ky_sw, kz_mx, kz_mi, kz_d5, z5]) | (refine ⟨vp_in_nI (by omega) (by omega), ?_⟩) | (refine ⟨fun zc => ?_, fun zc => ?_⟩ <;> try (exfalso; omega)) | fail)
      exact hq
    | succ m ih =>
      intro j s2 hj hq
      rw [kRl] at hq
      repeat' (first | (refine ih (j + 1) _ (by omega) hq) | (refine ky_ok_stp rfl ?_; simp (disch := first | omega | assumption) only [ky_stp, ky_inv, ky_ldi, ky_ldl, ky_ldd, ky_lda, ky_cl2, ky_st1, ky_st2, ky_s1i, ky_s2i, ky_s1l, ky_s2l, ky_sli, ky_s1f, ky_s2f, ky_s1d, ky_s2d, ky_sr, ky_sai, ky_sasi, ky_sasl, ky_sasr, ky_svr, ky_sv, ky_sv2, ky_s1, ky_cs, ky_pop, ky_nth, ky_snt, ky_obj, ky_ari, ky_arl, ky_arr, ky_arn, ky_fv, ky_rcv, List.map_cons, List.map_nil, List.drop_succ_cons, List.drop_zero, Value.category, Nat.reduceAdd, Nat.reduceSub, true_and, and_true, true_or, or_true, reduceCtorEq, ite_true, ite_false, eq_self, Nat.reduceEqDiff, Nat.reduceLeDiff, nI_add, nI_1, nI_leI, nI_ltI, nI_eq, nI_clamp, kz_m1, kz_mn, kz_mn2, kz_n0, kz_0n, kz_0, kz_le0, kz_0lt, false_implies, true_implies, not_false_eq_true, not_true_eq_false, Nat.zero_le, kb_0, kz_10, kz_of, ky_sw, kz_mx, kz_mi, kz_d5, z5]) | (refine ⟨vp_in_nI (by omega) (by omega), ?_⟩) | (refine ⟨fun zc => ?_, fun zc => ?_⟩ <;> try (exfalso; omega)) | fail)
  refine ⟨Nat.le_of_ble_eq_true rfl, fun z => absurd z (by decide), ?_⟩; show ky_ok adK 23 0 [some (.long s), none, some (.int (nI d)), some (.int o), some (.int v), some (.int t), none, none, none] [] f 0 0 _
  unfold kRd at hQ
  repeat' (first | (refine loop (d % 5) 0 _ (by omega) ?_) | (refine ky_ok_stp rfl ?_; simp (disch := first | omega | assumption) only [ky_stp, ky_inv, ky_ldi, ky_ldl, ky_ldd, ky_lda, ky_cl2, ky_st1, ky_st2, ky_s1i, ky_s2i, ky_s1l, ky_s2l, ky_sli, ky_s1f, ky_s2f, ky_s1d, ky_s2d, ky_sr, ky_sai, ky_sasi, ky_sasl, ky_sasr, ky_svr, ky_sv, ky_sv2, ky_s1, ky_cs, ky_pop, ky_nth, ky_snt, ky_obj, ky_ari, ky_arl, ky_arr, ky_arn, ky_fv, ky_rcv, List.map_cons, List.map_nil, List.drop_succ_cons, List.drop_zero, Value.category, Nat.reduceAdd, Nat.reduceSub, true_and, and_true, true_or, or_true, reduceCtorEq, ite_true, ite_false, eq_self, Nat.reduceEqDiff, Nat.reduceLeDiff, nI_add, nI_1, nI_leI, nI_ltI, nI_eq, nI_clamp, kz_m1, kz_mn, kz_mn2, kz_n0, kz_0n, kz_0, kz_le0, kz_0lt, false_implies, true_implies, not_false_eq_true, not_true_eq_false, Nat.zero_le, kb_0, kz_10, kz_of, ky_sw, kz_mx, kz_mi, kz_9, kz_4, kz_5]) | (refine ⟨vp_in_nI (by omega) (by omega), ?_⟩) | (refine ⟨fun zc => ?_, fun zc => ?_⟩ <;> try (exfalso; omega)) | fail)
  · rw [if_neg (by assumption), if_neg (by assumption), if_neg (by omega)] at hQ; exact hQ
  · rw [if_neg (by assumption), if_neg (by assumption), if_pos (by omega)] at hQ; exact hQ
  · rw [if_neg (by assumption), if_pos (by assumption)] at hQ; exact hQ
  · rw [if_pos (by assumption)] at hQ; exact hQ
theorem kx22 (hc : c < 159) (hQ : Q (.inl (some (.long (kRo c sm)))) f) : ky_cl adK 22 [.int (nI c), .int sm] f Q := by
  have z1 := (kz_dv c hc).1
  have z2 := (kz_dv c hc).2
  unfold kRo at hQ
  refine ⟨Nat.le_of_ble_eq_true rfl, fun z => absurd z (by decide), ?_⟩; show ky_ok adK 22 0 [some (.int (nI c)), some (.int sm), none, none] [] f 0 0 _
  repeat' (first | (refine kx23 (show c / 10 % 10 < 10 by omega) ?_; simp only [ky_aft, ky_vl, Nat.reduceAdd]) | (refine kx23 (show c % 10 < 10 by omega) ?_; simp only [ky_aft, ky_vl, Nat.reduceAdd]) | (refine ky_ok_stp rfl ?_; simp (disch := first | omega | assumption) only [ky_stp, ky_inv, ky_ldi, ky_ldl, ky_ldd, ky_lda, ky_cl2, ky_st1, ky_st2, ky_s1i, ky_s2i, ky_s1l, ky_s2l, ky_sli, ky_s1f, ky_s2f, ky_s1d, ky_s2d, ky_sr, ky_sai, ky_sasi, ky_sasl, ky_sasr, ky_svr, ky_sv, ky_sv2, ky_s1, ky_cs, ky_pop, ky_nth, ky_snt, ky_obj, ky_ari, ky_arl, ky_arr, ky_arn, ky_fv, ky_rcv, List.map_cons, List.map_nil, List.drop_succ_cons, List.drop_zero, Value.category, Nat.reduceAdd, Nat.reduceSub, true_and, and_true, true_or, or_true, reduceCtorEq, ite_true, ite_false, eq_self, Nat.reduceEqDiff, Nat.reduceLeDiff, nI_add, nI_1, nI_leI, nI_ltI, nI_eq, nI_clamp, kz_m1, kz_mn, kz_mn2, kz_n0, kz_0n, kz_0, kz_le0, kz_0lt, false_implies, true_implies, not_false_eq_true, not_true_eq_false, Nat.zero_le, kb_0, kz_10, kz_of, ky_sw, kz_mx, kz_mi, kz_100, kz_d10, z1, z2]) | (refine ⟨vp_in_nI (by omega) (by omega), ?_⟩) | (refine ⟨fun zc => ?_, fun zc => ?_⟩ <;> try (exfalso; omega)) | fail)
  · rw [if_pos (by assumption)] at hQ; exact hQ
  · rw [if_neg (by assumption)] at hQ; exact hQ
theorem kx19 (hk : k < 5) (hc : c < 159) (h1 : 1 ≤ c) (hQ : Q (.inl (some (.long (kpS (sg k c))))) f) : ky_cl adK 19 [.int (nI k), .int (nI c)] f Q := by
  have e0 := kDs_ok c hc h1
  have e1 := (kLs_ok c hc h1).1
  have e2 := (kLs_ok c hc h1).2
  have e3 := (kRo_ok c hc h1).1
  have e4 := (kRo_ok c hc h1).2
  refine ⟨Nat.le_of_ble_eq_true rfl, fun z => absurd z (by decide), ?_⟩; show ky_ok adK 19 0 [some (.int (nI k)), some (.int (nI c))] [] f 0 0 _
  repeat' (first | (refine kx20 ?_; simp only [ky_aft, ky_vl, Nat.reduceAdd]) | (refine kx21 ?_; simp only [ky_aft, ky_vl, Nat.reduceAdd]) | (refine kx22 hc ?_; simp only [ky_aft, ky_vl, Nat.reduceAdd]) | (refine ky_ok_stp rfl ?_; simp (disch := first | omega | assumption) only [ky_stp, ky_inv, ky_ldi, ky_ldl, ky_ldd, ky_lda, ky_cl2, ky_st1, ky_st2, ky_s1i, ky_s2i, ky_s1l, ky_s2l, ky_sli, ky_s1f, ky_s2f, ky_s1d, ky_s2d, ky_sr, ky_sai, ky_sasi, ky_sasl, ky_sasr, ky_svr, ky_sv, ky_sv2, ky_s1, ky_cs, ky_pop, ky_nth, ky_snt, ky_obj, ky_ari, ky_arl, ky_arr, ky_arn, ky_fv, ky_rcv, List.map_cons, List.map_nil, List.drop_succ_cons, List.drop_zero, Value.category, Nat.reduceAdd, Nat.reduceSub, true_and, and_true, true_or, or_true, reduceCtorEq, ite_true, ite_false, eq_self, Nat.reduceEqDiff, Nat.reduceLeDiff, nI_add, nI_1, nI_leI, nI_ltI, nI_eq, nI_clamp, kz_m1, kz_mn, kz_mn2, kz_n0, kz_0n, kz_0, kz_le0, kz_0lt, false_implies, true_implies, not_false_eq_true, not_true_eq_false, Nat.zero_le, kb_0, kz_10, kz_of, ky_sw, kz_mx, kz_mi, kz_1, kz_2, kz_3x, kz_4, e0, e1, e2, e3, e4]) | (refine ⟨vp_in_nI (by omega) (by omega), ?_⟩) | (refine ⟨fun zc => ?_, fun zc => ?_⟩ <;> try (exfalso; omega)) | fail)
  · subst zc; exact hQ
  · subst zc; exact hQ
  · subst zc; exact hQ
  · subst zc; exact hQ
  · obtain rfl : k = 4 := by omega
    exact hQ
theorem kx19n (hQ : Q (.inl (some (.long 0))) f) : ky_cl adK 19 [.int (nI k), .int (-1)] f Q := by
  refine ⟨Nat.le_of_ble_eq_true rfl, fun z => absurd z (by decide), ?_⟩; show ky_ok adK 19 0 [some (.int (nI k)), some (.int (-1))] [] f 0 0 _
  repeat' (first | (refine ky_ok_stp rfl ?_; simp (disch := first | omega | assumption) only [ky_stp, ky_inv, ky_ldi, ky_ldl, ky_ldd, ky_lda, ky_cl2, ky_st1, ky_st2, ky_s1i, ky_s2i, ky_s1l, ky_s2l, ky_sli, ky_s1f, ky_s2f, ky_s1d, ky_s2d, ky_sr, ky_sai, ky_sasi, ky_sasl, ky_sasr, ky_svr, ky_sv, ky_sv2, ky_s1, ky_cs, ky_pop, ky_nth, ky_snt, ky_obj, ky_ari, ky_arl, ky_arr, ky_arn, ky_fv, ky_rcv, List.map_cons, List.map_nil, List.drop_succ_cons, List.drop_zero, Value.category, Nat.reduceAdd, Nat.reduceSub, true_and, and_true, true_or, or_true, reduceCtorEq, ite_true, ite_false, eq_self, Nat.reduceEqDiff, Nat.reduceLeDiff, nI_add, nI_1, nI_leI, nI_ltI, nI_eq, nI_clamp, kz_m1, kz_mn, kz_mn2, kz_n0, kz_0n, kz_0, kz_le0, kz_0lt, false_implies, true_implies, not_false_eq_true, not_true_eq_false, Nat.zero_le, kb_0, kz_10, kz_of, ky_sw, kz_mx, kz_mi, kz_1m]) | (refine ⟨vp_in_nI (by omega) (by omega), ?_⟩) | (refine ⟨fun zc => ?_, fun zc => ?_⟩ <;> try (exfalso; omega)) | fail)
  exact hQ
end KXG
