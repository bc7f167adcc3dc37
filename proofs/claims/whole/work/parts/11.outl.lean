/-! ## an outline, read: what walks along it -/
theorem nI_sub {a b : Nat} (h : b ≤ a) : nI a - nI b = nI (a - b) := by
  have h1 : nI (a - b) + nI b = nI a := by rw [nI_add, Nat.sub_add_cancel h]
  rw [← h1, Int32.add_sub_cancel]
/-- where a way leads: the place, the level -/
def kPB (L : Nat → Int32) (n j w : Nat) : Nat := if w = 0 then j - 1 else if w = 2 then j else kE L (kLv L j) j (n - j)
def kLB (L : Nat → Int32) (j w : Nat) : Int32 := if w = 0 ∨ w = 1 then kLv L j else kLv L j + 1
/-- how many headings a branch has -/
def kSz (L : Nat → Int32) (n p : Nat) : Nat := kE L (L p) (p + 1) (n - (p + 1)) - p
def kSA (L : Nat → Int32) (N : Nat → Int64) (n p o b : Nat) : Prop := if b = 0 then N p < N o else if b = 1 then kSz L n o < kSz L n p else o < p
section KXO2
variable {adK a : Nat → Nat} {k n i j q e : Nat} {f : ky_H} {N : Nat → Int64} {L P F G PL : Nat → Int32} {Q : ky_Q} {x : Int32}
theorem kx31 (hO : kO a k f n N L P F G) (hn : n ≤ 60) (hi : i < n) (hQ : Q (.inl (some (.int (nI (kP L (L i) i) - 1)))) f) : ky_cl adK 31 [.ref (a k), .int (nI i)] f Q := by
  have hO' := hO
  obtain ⟨h0, h6, h7, h8, h9, h10⟩ := hO
  have loop : ∀ j, j ≤ n → Q (.inl (some (.int (nI (kP L (L i) j) - 1)))) f → ky_ok adK 31 10 [some (.ref (a k)), some (.int (nI i)), some (.int (L i)), some (.int (nI j - 1))] [] f 0 0 Q := by
    intro j
    induction j with
    | zero =>
      intro hj hq
      rw [kP, kz_z] at hq
      rw [kz_z]
      repeat' (first
    | (refine ky_ok_stp rfl ?_; simp (disch := first | omega | assumption) only [ky_stp, ky_inv, ky_ldi, ky_ldl, ky_ldd, ky_lda, ky_cl2, ky_st1, ky_st2, ky_s1i, ky_s2i, ky_s1l, ky_s2l, ky_sli, ky_s1f, ky_s2f, ky_s1d, ky_s2d, ky_sr, ky_sai, ky_sasi, ky_sasl, ky_sasr, ky_svr, ky_sv, ky_sv2, ky_s1, ky_cs, ky_pop, ky_nth, ky_snt, ky_obj, ky_ari, ky_arl, ky_arr, ky_arn, ky_fv, ky_rcv, List.map_cons, List.map_nil, List.drop_succ_cons, List.drop_zero, Value.category, Nat.reduceAdd, Nat.reduceSub, true_and, and_true, true_or, or_true, reduceCtorEq, ite_true, ite_false, eq_self, Nat.reduceEqDiff, Nat.reduceLeDiff, nI_add, nI_1, nI_leI, nI_ltI, nI_eq, nI_clamp, kz_m1, kz_mn, kz_mn2, kz_n0, kz_0n, kz_0, kz_le0, kz_0lt, false_implies, true_implies, not_false_eq_true, not_true_eq_false, Nat.zero_le, kb_0, kz_10, kz_of, ky_sw, h0, h6, h7, h8, h9, h10])
    | (refine ⟨vp_in_nI (by omega) (by omega), ?_⟩)
    | (refine ⟨fun zc => ?_, fun zc => ?_⟩ <;> try (exfalso; omega))
    | fail)
      exact hq
    | succ j ih =>
      intro hj hq
      rw [kP] at hq
      rw [nI_pred]
      repeat' (first
    | (refine ih (by omega) ?_)
    | (refine kx27 hO' hn (show j < n by omega) ?_; simp only [ky_aft, ky_vl, Nat.reduceAdd])
    | (refine ky_ok_stp rfl ?_; simp (disch := first | omega | assumption) only [ky_stp, ky_inv, ky_ldi, ky_ldl, ky_ldd, ky_lda, ky_cl2, ky_st1, ky_st2, ky_s1i, ky_s2i, ky_s1l, ky_s2l, ky_sli, ky_s1f, ky_s2f, ky_s1d, ky_s2d, ky_sr, ky_sai, ky_sasi, ky_sasl, ky_sasr, ky_svr, ky_sv, ky_sv2, ky_s1, ky_cs, ky_pop, ky_nth, ky_snt, ky_obj, ky_ari, ky_arl, ky_arr, ky_arn, ky_fv, ky_rcv, List.map_cons, List.map_nil, List.drop_succ_cons, List.drop_zero, Value.category, Nat.reduceAdd, Nat.reduceSub, true_and, and_true, true_or, or_true, reduceCtorEq, ite_true, ite_false, eq_self, Nat.reduceEqDiff, Nat.reduceLeDiff, nI_add, nI_1, nI_leI, nI_ltI, nI_eq, nI_clamp, kz_m1, kz_mn, kz_mn2, kz_n0, kz_0n, kz_0, kz_le0, kz_0lt, false_implies, true_implies, not_false_eq_true, not_true_eq_false, Nat.zero_le, kb_0, kz_10, kz_of, ky_sw, h0, h6, h7, h8, h9, h10])
    | (refine ⟨vp_in_nI (by omega) (by omega), ?_⟩)
    | (refine ⟨fun zc => ?_, fun zc => ?_⟩ <;> try (exfalso; omega))
    | fail)
      · rw [if_pos (by assumption)] at hq; exact hq
      · rw [if_neg (by assumption), nI_pred] at hq; exact hq
  refine ⟨Nat.le_of_ble_eq_true rfl, fun z => absurd z (by decide), ?_⟩
  show ky_ok adK 31 0 [some (.ref (a k)), some (.int (nI i)), none, none] [] f 0 0 _
  repeat' (first
    | (refine loop i (by omega) hQ)
    | (refine kx27 hO' hn hi ?_; simp only [ky_aft, ky_vl, Nat.reduceAdd])
    | (refine ky_ok_stp rfl ?_; simp (disch := first | omega | assumption) only [ky_stp, ky_inv, ky_ldi, ky_ldl, ky_ldd, ky_lda, ky_cl2, ky_st1, ky_st2, ky_s1i, ky_s2i, ky_s1l, ky_s2l, ky_sli, ky_s1f, ky_s2f, ky_s1d, ky_s2d, ky_sr, ky_sai, ky_sasi, ky_sasl, ky_sasr, ky_svr, ky_sv, ky_sv2, ky_s1, ky_cs, ky_pop, ky_nth, ky_snt, ky_obj, ky_ari, ky_arl, ky_arr, ky_arn, ky_fv, ky_rcv, List.map_cons, List.map_nil, List.drop_succ_cons, List.drop_zero, Value.category, Nat.reduceAdd, Nat.reduceSub, true_and, and_true, true_or, or_true, reduceCtorEq, ite_true, ite_false, eq_self, Nat.reduceEqDiff, Nat.reduceLeDiff, nI_add, nI_1, nI_leI, nI_ltI, nI_eq, nI_clamp, kz_m1, kz_mn, kz_mn2, kz_n0, kz_0n, kz_0, kz_le0, kz_0lt, false_implies, true_implies, not_false_eq_true, not_true_eq_false, Nat.zero_le, kb_0, kz_10, kz_of, ky_sw, h0, h6, h7, h8, h9, h10])
    | (refine ⟨vp_in_nI (by omega) (by omega), ?_⟩)
    | (refine ⟨fun zc => ?_, fun zc => ?_⟩ <;> try (exfalso; omega))
    | fail)
theorem kx33 (hO : kO a k f n N L P F G) (hn : n ≤ 60) (hi : i ≤ e) (he : e ≤ n) (hQ : Q (.inl (some (.int (kG L i (e - i) 0)))) f) : ky_cl adK 33 [.ref (a k), .int (nI i), .int (nI e)] f Q := by
  have hO' := hO
  obtain ⟨h0, h6, h7, h8, h9, h10⟩ := hO
  have loop : ∀ m t g, t + m = e → Q (.inl (some (.int (kG L t m g)))) f → ky_ok adK 33 5 [some (.ref (a k)), some (.int (nI i)), some (.int (nI e)), some (.int g), some (.int (nI t))] [] f 0 0 Q := by
    intro m
    induction m with
    | zero =>
      intro t g ht hq
      rw [kG] at hq
      repeat' (first
    | (refine ky_ok_stp rfl ?_; simp (disch := first | omega | assumption) only [ky_stp, ky_inv, ky_ldi, ky_ldl, ky_ldd, ky_lda, ky_cl2, ky_st1, ky_st2, ky_s1i, ky_s2i, ky_s1l, ky_s2l, ky_sli, ky_s1f, ky_s2f, ky_s1d, ky_s2d, ky_sr, ky_sai, ky_sasi, ky_sasl, ky_sasr, ky_svr, ky_sv, ky_sv2, ky_s1, ky_cs, ky_pop, ky_nth, ky_snt, ky_obj, ky_ari, ky_arl, ky_arr, ky_arn, ky_fv, ky_rcv, List.map_cons, List.map_nil, List.drop_succ_cons, List.drop_zero, Value.category, Nat.reduceAdd, Nat.reduceSub, true_and, and_true, true_or, or_true, reduceCtorEq, ite_true, ite_false, eq_self, Nat.reduceEqDiff, Nat.reduceLeDiff, nI_add, nI_1, nI_leI, nI_ltI, nI_eq, nI_clamp, kz_m1, kz_mn, kz_mn2, kz_n0, kz_0n, kz_0, kz_le0, kz_0lt, false_implies, true_implies, not_false_eq_true, not_true_eq_false, Nat.zero_le, kb_0, kz_10, kz_of, ky_sw, h0, h6, h7, h8, h9, h10])
    | (refine ⟨vp_in_nI (by omega) (by omega), ?_⟩)
    | (refine ⟨fun zc => ?_, fun zc => ?_⟩ <;> try (exfalso; omega))
    | fail)
      exact hq
    | succ m ih =>
      intro t g ht hq
      rw [kG] at hq
      repeat' (first
    | (refine ih (t + 1) _ (by omega) ?_)
    | (refine kx27 hO' hn (show t < n by omega) ?_; simp only [ky_aft, ky_vl, Nat.reduceAdd])
    | (refine ky_ok_stp rfl ?_; simp (disch := first | omega | assumption) only [ky_stp, ky_inv, ky_ldi, ky_ldl, ky_ldd, ky_lda, ky_cl2, ky_st1, ky_st2, ky_s1i, ky_s2i, ky_s1l, ky_s2l, ky_sli, ky_s1f, ky_s2f, ky_s1d, ky_s2d, ky_sr, ky_sai, ky_sasi, ky_sasl, ky_sasr, ky_svr, ky_sv, ky_sv2, ky_s1, ky_cs, ky_pop, ky_nth, ky_snt, ky_obj, ky_ari, ky_arl, ky_arr, ky_arn, ky_fv, ky_rcv, List.map_cons, List.map_nil, List.drop_succ_cons, List.drop_zero, Value.category, Nat.reduceAdd, Nat.reduceSub, true_and, and_true, true_or, or_true, reduceCtorEq, ite_true, ite_false, eq_self, Nat.reduceEqDiff, Nat.reduceLeDiff, nI_add, nI_1, nI_leI, nI_ltI, nI_eq, nI_clamp, kz_m1, kz_mn, kz_mn2, kz_n0, kz_0n, kz_0, kz_le0, kz_0lt, false_implies, true_implies, not_false_eq_true, not_true_eq_false, Nat.zero_le, kb_0, kz_10, kz_of, ky_sw, h0, h6, h7, h8, h9, h10])
    | (refine ⟨vp_in_nI (by omega) (by omega), ?_⟩)
    | (refine ⟨fun zc => ?_, fun zc => ?_⟩ <;> try (exfalso; omega))
    | fail)
      exact hq
  refine ⟨Nat.le_of_ble_eq_true rfl, fun z => absurd z (by decide), ?_⟩
  show ky_ok adK 33 0 [some (.ref (a k)), some (.int (nI i)), some (.int (nI e)), none, none] [] f 0 0 _
  repeat' (first
    | (refine loop (e - i) i 0 (by omega) hQ)
    | (refine ky_ok_stp rfl ?_; simp (disch := first | omega | assumption) only [ky_stp, ky_inv, ky_ldi, ky_ldl, ky_ldd, ky_lda, ky_cl2, ky_st1, ky_st2, ky_s1i, ky_s2i, ky_s1l, ky_s2l, ky_sli, ky_s1f, ky_s2f, ky_s1d, ky_s2d, ky_sr, ky_sai, ky_sasi, ky_sasl, ky_sasr, ky_svr, ky_sv, ky_sv2, ky_s1, ky_cs, ky_pop, ky_nth, ky_snt, ky_obj, ky_ari, ky_arl, ky_arr, ky_arn, ky_fv, ky_rcv, List.map_cons, List.map_nil, List.drop_succ_cons, List.drop_zero, Value.category, Nat.reduceAdd, Nat.reduceSub, true_and, and_true, true_or, or_true, reduceCtorEq, ite_true, ite_false, eq_self, Nat.reduceEqDiff, Nat.reduceLeDiff, nI_add, nI_1, nI_leI, nI_ltI, nI_eq, nI_clamp, kz_m1, kz_mn, kz_mn2, kz_n0, kz_0n, kz_0, kz_le0, kz_0lt, false_implies, true_implies, not_false_eq_true, not_true_eq_false, Nat.zero_le, kb_0, kz_10, kz_of, ky_sw, h0, h6, h7, h8, h9, h10])
    | (refine ⟨vp_in_nI (by omega) (by omega), ?_⟩)
    | (refine ⟨fun zc => ?_, fun zc => ?_⟩ <;> try (exfalso; omega))
    | fail)
theorem kx34 (hO : kO a k f n N L P F G) (hn : n ≤ 60) (hQ : Q (.inl (some (.int (kSu L 0 n 0)))) f) : ky_cl adK 34 [.ref (a k)] f Q := by
  have hO' := hO
  obtain ⟨h0, h6, h7, h8, h9, h10⟩ := hO
  have loop : ∀ m t g, t + m = n → Q (.inl (some (.int (kSu L t m g)))) f → ky_ok adK 34 4 [some (.ref (a k)), some (.int g), some (.int (nI t))] [] f 0 0 Q := by
    intro m
    induction m with
    | zero =>
      intro t g ht hq
      rw [kSu] at hq
      repeat' (first
    | (refine ky_ok_stp rfl ?_; simp (disch := first | omega | assumption) only [ky_stp, ky_inv, ky_ldi, ky_ldl, ky_ldd, ky_lda, ky_cl2, ky_st1, ky_st2, ky_s1i, ky_s2i, ky_s1l, ky_s2l, ky_sli, ky_s1f, ky_s2f, ky_s1d, ky_s2d, ky_sr, ky_sai, ky_sasi, ky_sasl, ky_sasr, ky_svr, ky_sv, ky_sv2, ky_s1, ky_cs, ky_pop, ky_nth, ky_snt, ky_obj, ky_ari, ky_arl, ky_arr, ky_arn, ky_fv, ky_rcv, List.map_cons, List.map_nil, List.drop_succ_cons, List.drop_zero, Value.category, Nat.reduceAdd, Nat.reduceSub, true_and, and_true, true_or, or_true, reduceCtorEq, ite_true, ite_false, eq_self, Nat.reduceEqDiff, Nat.reduceLeDiff, nI_add, nI_1, nI_leI, nI_ltI, nI_eq, nI_clamp, kz_m1, kz_mn, kz_mn2, kz_n0, kz_0n, kz_0, kz_le0, kz_0lt, false_implies, true_implies, not_false_eq_true, not_true_eq_false, Nat.zero_le, kb_0, kz_10, kz_of, ky_sw, h0, h6, h7, h8, h9, h10])
    | (refine ⟨vp_in_nI (by omega) (by omega), ?_⟩)
    | (refine ⟨fun zc => ?_, fun zc => ?_⟩ <;> try (exfalso; omega))
    | fail)
      exact hq
    | succ m ih =>
      intro t g ht hq
      rw [kSu] at hq
      repeat' (first
    | (refine ih (t + 1) _ (by omega) hq)
    | (refine kx27 hO' hn (show t < n by omega) ?_; simp only [ky_aft, ky_vl, Nat.reduceAdd])
    | (refine ky_ok_stp rfl ?_; simp (disch := first | omega | assumption) only [ky_stp, ky_inv, ky_ldi, ky_ldl, ky_ldd, ky_lda, ky_cl2, ky_st1, ky_st2, ky_s1i, ky_s2i, ky_s1l, ky_s2l, ky_sli, ky_s1f, ky_s2f, ky_s1d, ky_s2d, ky_sr, ky_sai, ky_sasi, ky_sasl, ky_sasr, ky_svr, ky_sv, ky_sv2, ky_s1, ky_cs, ky_pop, ky_nth, ky_snt, ky_obj, ky_ari, ky_arl, ky_arr, ky_arn, ky_fv, ky_rcv, List.map_cons, List.map_nil, List.drop_succ_cons, List.drop_zero, Value.category, Nat.reduceAdd, Nat.reduceSub, true_and, and_true, true_or, or_true, reduceCtorEq, ite_true, ite_false, eq_self, Nat.reduceEqDiff, Nat.reduceLeDiff, nI_add, nI_1, nI_leI, nI_ltI, nI_eq, nI_clamp, kz_m1, kz_mn, kz_mn2, kz_n0, kz_0n, kz_0, kz_le0, kz_0lt, false_implies, true_implies, not_false_eq_true, not_true_eq_false, Nat.zero_le, kb_0, kz_10, kz_of, ky_sw, h0, h6, h7, h8, h9, h10])
    | (refine ⟨vp_in_nI (by omega) (by omega), ?_⟩)
    | (refine ⟨fun zc => ?_, fun zc => ?_⟩ <;> try (exfalso; omega))
    | fail)
  refine ⟨Nat.le_of_ble_eq_true rfl, fun z => absurd z (by decide), ?_⟩
  show ky_ok adK 34 0 [some (.ref (a k)), none, none] [] f 0 0 _
  repeat' (first
    | (refine loop n 0 0 (by omega) hQ)
    | (refine ky_ok_stp rfl ?_; simp (disch := first | omega | assumption) only [ky_stp, ky_inv, ky_ldi, ky_ldl, ky_ldd, ky_lda, ky_cl2, ky_st1, ky_st2, ky_s1i, ky_s2i, ky_s1l, ky_s2l, ky_sli, ky_s1f, ky_s2f, ky_s1d, ky_s2d, ky_sr, ky_sai, ky_sasi, ky_sasl, ky_sasr, ky_svr, ky_sv, ky_sv2, ky_s1, ky_cs, ky_pop, ky_nth, ky_snt, ky_obj, ky_ari, ky_arl, ky_arr, ky_arn, ky_fv, ky_rcv, List.map_cons, List.map_nil, List.drop_succ_cons, List.drop_zero, Value.category, Nat.reduceAdd, Nat.reduceSub, true_and, and_true, true_or, or_true, reduceCtorEq, ite_true, ite_false, eq_self, Nat.reduceEqDiff, Nat.reduceLeDiff, nI_add, nI_1, nI_leI, nI_ltI, nI_eq, nI_clamp, kz_m1, kz_mn, kz_mn2, kz_n0, kz_0n, kz_0, kz_le0, kz_0lt, false_implies, true_implies, not_false_eq_true, not_true_eq_false, Nat.zero_le, kb_0, kz_10, kz_of, ky_sw, h0, h6, h7, h8, h9, h10])
    | (refine ⟨vp_in_nI (by omega) (by omega), ?_⟩)
    | (refine ⟨fun zc => ?_, fun zc => ?_⟩ <;> try (exfalso; omega))
    | fail)
theorem kx35 (hO : kO a k f n N L P F G) (hn : n ≤ 60) (hQ : Q (.inl (some (.int (nI (kNf F 0 n 0))))) f) : ky_cl adK 35 [.ref (a k)] f Q := by
  have hO' := hO
  obtain ⟨h0, h6, h7, h8, h9, h10⟩ := hO
  have loop : ∀ m t g, t + m = n → Q (.inl (some (.int (nI (kNf F t m g))))) f → ky_ok adK 35 4 [some (.ref (a k)), some (.int (nI g)), some (.int (nI t))] [] f 0 0 Q := by
    intro m
    induction m with
    | zero =>
      intro t g ht hq
      rw [kNf] at hq
      repeat' (first
    | (refine ky_ok_stp rfl ?_; simp (disch := first | omega | assumption) only [ky_stp, ky_inv, ky_ldi, ky_ldl, ky_ldd, ky_lda, ky_cl2, ky_st1, ky_st2, ky_s1i, ky_s2i, ky_s1l, ky_s2l, ky_sli, ky_s1f, ky_s2f, ky_s1d, ky_s2d, ky_sr, ky_sai, ky_sasi, ky_sasl, ky_sasr, ky_svr, ky_sv, ky_sv2, ky_s1, ky_cs, ky_pop, ky_nth, ky_snt, ky_obj, ky_ari, ky_arl, ky_arr, ky_arn, ky_fv, ky_rcv, List.map_cons, List.map_nil, List.drop_succ_cons, List.drop_zero, Value.category, Nat.reduceAdd, Nat.reduceSub, true_and, and_true, true_or, or_true, reduceCtorEq, ite_true, ite_false, eq_self, Nat.reduceEqDiff, Nat.reduceLeDiff, nI_add, nI_1, nI_leI, nI_ltI, nI_eq, nI_clamp, kz_m1, kz_mn, kz_mn2, kz_n0, kz_0n, kz_0, kz_le0, kz_0lt, false_implies, true_implies, not_false_eq_true, not_true_eq_false, Nat.zero_le, kb_0, kz_10, kz_of, ky_sw, h0, h6, h7, h8, h9, h10])
    | (refine ⟨vp_in_nI (by omega) (by omega), ?_⟩)
    | (refine ⟨fun zc => ?_, fun zc => ?_⟩ <;> try (exfalso; omega))
    | fail)
      exact hq
    | succ m ih =>
      intro t g ht hq
      rw [kNf] at hq
      repeat' (first
    | (refine ih (t + 1) _ (by omega) ?_)
    | (refine kx29 hO' hn (show t < n by omega) ?_; simp only [ky_aft, ky_vl, Nat.reduceAdd])
    | (refine ky_ok_stp rfl ?_; simp (disch := first | omega | assumption) only [ky_stp, ky_inv, ky_ldi, ky_ldl, ky_ldd, ky_lda, ky_cl2, ky_st1, ky_st2, ky_s1i, ky_s2i, ky_s1l, ky_s2l, ky_sli, ky_s1f, ky_s2f, ky_s1d, ky_s2d, ky_sr, ky_sai, ky_sasi, ky_sasl, ky_sasr, ky_svr, ky_sv, ky_sv2, ky_s1, ky_cs, ky_pop, ky_nth, ky_snt, ky_obj, ky_ari, ky_arl, ky_arr, ky_arn, ky_fv, ky_rcv, List.map_cons, List.map_nil, List.drop_succ_cons, List.drop_zero, Value.category, Nat.reduceAdd, Nat.reduceSub, true_and, and_true, true_or, or_true, reduceCtorEq, ite_true, ite_false, eq_self, Nat.reduceEqDiff, Nat.reduceLeDiff, nI_add, nI_1, nI_leI, nI_ltI, nI_eq, nI_clamp, kz_m1, kz_mn, kz_mn2, kz_n0, kz_0n, kz_0, kz_le0, kz_0lt, false_implies, true_implies, not_false_eq_true, not_true_eq_false, Nat.zero_le, kb_0, kz_10, kz_of, ky_sw, h0, h6, h7, h8, h9, h10])
    | (refine ⟨vp_in_nI (by omega) (by omega), ?_⟩)
    | (refine ⟨fun zc => ?_, fun zc => ?_⟩ <;> try (exfalso; omega))
    | fail)
      · rw [if_pos (by assumption)] at hq; exact hq
      · rw [if_neg (by assumption)] at hq; exact hq
  refine ⟨Nat.le_of_ble_eq_true rfl, fun z => absurd z (by decide), ?_⟩
  show ky_ok adK 35 0 [some (.ref (a k)), none, none] [] f 0 0 _
  repeat' (first
    | (refine loop n 0 0 (by omega) hQ)
    | (refine ky_ok_stp rfl ?_; simp (disch := first | omega | assumption) only [ky_stp, ky_inv, ky_ldi, ky_ldl, ky_ldd, ky_lda, ky_cl2, ky_st1, ky_st2, ky_s1i, ky_s2i, ky_s1l, ky_s2l, ky_sli, ky_s1f, ky_s2f, ky_s1d, ky_s2d, ky_sr, ky_sai, ky_sasi, ky_sasl, ky_sasr, ky_svr, ky_sv, ky_sv2, ky_s1, ky_cs, ky_pop, ky_nth, ky_snt, ky_obj, ky_ari, ky_arl, ky_arr, ky_arn, ky_fv, ky_rcv, List.map_cons, List.map_nil, List.drop_succ_cons, List.drop_zero, Value.category, Nat.reduceAdd, Nat.reduceSub, true_and, and_true, true_or, or_true, reduceCtorEq, ite_true, ite_false, eq_self, Nat.reduceEqDiff, Nat.reduceLeDiff, nI_add, nI_1, nI_leI, nI_ltI, nI_eq, nI_clamp, kz_m1, kz_mn, kz_mn2, kz_n0, kz_0n, kz_0, kz_le0, kz_0lt, false_implies, true_implies, not_false_eq_true, not_true_eq_false, Nat.zero_le, kb_0, kz_10, kz_of, ky_sw, h0, h6, h7, h8, h9, h10])
    | (refine ⟨vp_in_nI (by omega) (by omega), ?_⟩)
    | (refine ⟨fun zc => ?_, fun zc => ?_⟩ <;> try (exfalso; omega))
    | fail)
theorem kx36 (hO : kO a k f n N L P F G) (hn : n ≤ 60) (hi : i < n) (hQ : Q (.inl (some (.int (nI (kSb L (L i) i 0))))) f) : ky_cl adK 36 [.ref (a k), .int (nI i)] f Q := by
  have hO' := hO
  obtain ⟨h0, h6, h7, h8, h9, h10⟩ := hO
  have loop : ∀ j g, j ≤ n → Q (.inl (some (.int (nI (kSb L (L i) j g))))) f → ky_ok adK 36 13 [some (.ref (a k)), some (.int (nI i)), some (.int (L i)), some (.int (nI g)), some (.int (nI j - 1))] [] f 0 0 Q := by
    intro j
    induction j with
    | zero =>
      intro g hj hq
      rw [kSb] at hq
      rw [kz_z]
      repeat' (first
    | (refine ky_ok_stp rfl ?_; simp (disch := first | omega | assumption) only [ky_stp, ky_inv, ky_ldi, ky_ldl, ky_ldd, ky_lda, ky_cl2, ky_st1, ky_st2, ky_s1i, ky_s2i, ky_s1l, ky_s2l, ky_sli, ky_s1f, ky_s2f, ky_s1d, ky_s2d, ky_sr, ky_sai, ky_sasi, ky_sasl, ky_sasr, ky_svr, ky_sv, ky_sv2, ky_s1, ky_cs, ky_pop, ky_nth, ky_snt, ky_obj, ky_ari, ky_arl, ky_arr, ky_arn, ky_fv, ky_rcv, List.map_cons, List.map_nil, List.drop_succ_cons, List.drop_zero, Value.category, Nat.reduceAdd, Nat.reduceSub, true_and, and_true, true_or, or_true, reduceCtorEq, ite_true, ite_false, eq_self, Nat.reduceEqDiff, Nat.reduceLeDiff, nI_add, nI_1, nI_leI, nI_ltI, nI_eq, nI_clamp, kz_m1, kz_mn, kz_mn2, kz_n0, kz_0n, kz_0, kz_le0, kz_0lt, false_implies, true_implies, not_false_eq_true, not_true_eq_false, Nat.zero_le, kb_0, kz_10, kz_of, ky_sw, h0, h6, h7, h8, h9, h10])
    | (refine ⟨vp_in_nI (by omega) (by omega), ?_⟩)
    | (refine ⟨fun zc => ?_, fun zc => ?_⟩ <;> try (exfalso; omega))
    | fail)
      exact hq
    | succ j ih =>
      intro g hj hq
      rw [kSb] at hq
      rw [nI_pred]
      repeat' (first
    | (refine ih _ (by omega) ?_)
    | (refine kx27 hO' hn (show j < n by omega) ?_; simp only [ky_aft, ky_vl, Nat.reduceAdd])
    | (refine ky_ok_stp rfl ?_; simp (disch := first | omega | assumption) only [ky_stp, ky_inv, ky_ldi, ky_ldl, ky_ldd, ky_lda, ky_cl2, ky_st1, ky_st2, ky_s1i, ky_s2i, ky_s1l, ky_s2l, ky_sli, ky_s1f, ky_s2f, ky_s1d, ky_s2d, ky_sr, ky_sai, ky_sasi, ky_sasl, ky_sasr, ky_svr, ky_sv, ky_sv2, ky_s1, ky_cs, ky_pop, ky_nth, ky_snt, ky_obj, ky_ari, ky_arl, ky_arr, ky_arn, ky_fv, ky_rcv, List.map_cons, List.map_nil, List.drop_succ_cons, List.drop_zero, Value.category, Nat.reduceAdd, Nat.reduceSub, true_and, and_true, true_or, or_true, reduceCtorEq, ite_true, ite_false, eq_self, Nat.reduceEqDiff, Nat.reduceLeDiff, nI_add, nI_1, nI_leI, nI_ltI, nI_eq, nI_clamp, kz_m1, kz_mn, kz_mn2, kz_n0, kz_0n, kz_0, kz_le0, kz_0lt, false_implies, true_implies, not_false_eq_true, not_true_eq_false, Nat.zero_le, kb_0, kz_10, kz_of, ky_sw, h0, h6, h7, h8, h9, h10])
    | (refine ⟨vp_in_nI (by omega) (by omega), ?_⟩)
    | (refine ⟨fun zc => ?_, fun zc => ?_⟩ <;> try (exfalso; omega))
    | fail)
      · rw [if_pos (by assumption)] at hq; exact hq
      · rw [if_neg (by assumption), if_neg (by assumption)] at hq; exact hq
      · rw [if_neg (by assumption), if_pos (by assumption)] at hq; exact hq
  refine ⟨Nat.le_of_ble_eq_true rfl, fun z => absurd z (by decide), ?_⟩
  show ky_ok adK 36 0 [some (.ref (a k)), some (.int (nI i)), none, none, none] [] f 0 0 _
  repeat' (first
    | (refine loop i 0 (by omega) hQ)
    | (refine kx27 hO' hn hi ?_; simp only [ky_aft, ky_vl, Nat.reduceAdd])
    | (refine ky_ok_stp rfl ?_; simp (disch := first | omega | assumption) only [ky_stp, ky_inv, ky_ldi, ky_ldl, ky_ldd, ky_lda, ky_cl2, ky_st1, ky_st2, ky_s1i, ky_s2i, ky_s1l, ky_s2l, ky_sli, ky_s1f, ky_s2f, ky_s1d, ky_s2d, ky_sr, ky_sai, ky_sasi, ky_sasl, ky_sasr, ky_svr, ky_sv, ky_sv2, ky_s1, ky_cs, ky_pop, ky_nth, ky_snt, ky_obj, ky_ari, ky_arl, ky_arr, ky_arn, ky_fv, ky_rcv, List.map_cons, List.map_nil, List.drop_succ_cons, List.drop_zero, Value.category, Nat.reduceAdd, Nat.reduceSub, true_and, and_true, true_or, or_true, reduceCtorEq, ite_true, ite_false, eq_self, Nat.reduceEqDiff, Nat.reduceLeDiff, nI_add, nI_1, nI_leI, nI_ltI, nI_eq, nI_clamp, kz_m1, kz_mn, kz_mn2, kz_n0, kz_0n, kz_0, kz_le0, kz_0lt, false_implies, true_implies, not_false_eq_true, not_true_eq_false, Nat.zero_le, kb_0, kz_10, kz_of, ky_sw, h0, h6, h7, h8, h9, h10])
    | (refine ⟨vp_in_nI (by omega) (by omega), ?_⟩)
    | (refine ⟨fun zc => ?_, fun zc => ?_⟩ <;> try (exfalso; omega))
    | fail)
theorem kx37 (hO : kO a k f n N L P F G) (hn : n ≤ 60) (hi : i < n) (hQ : Q (.inl (some (.int (if i + 1 < kE L (L i) (i + 1) (n - (i + 1)) then 1 else 0)))) f) : ky_cl adK 37 [.ref (a k), .int (nI i)] f Q := by
  have hO' := hO
  obtain ⟨h0, h6, h7, h8, h9, h10⟩ := hO
  have zb := kE_le L (L i) (n - (i + 1)) (i + 1)
  refine ⟨Nat.le_of_ble_eq_true rfl, fun z => absurd z (by decide), ?_⟩
  show ky_ok adK 37 0 [some (.ref (a k)), some (.int (nI i))] [] f 0 0 _
  repeat' (first
    | (refine kx32 (j := i + 1) hO' hn (by omega) (nI_pred i).symm ?_; simp only [ky_aft, ky_vl, Nat.reduceAdd]; simp only [kLv])
    | (refine ky_ok_stp rfl ?_; simp (disch := first | omega | assumption) only [ky_stp, ky_inv, ky_ldi, ky_ldl, ky_ldd, ky_lda, ky_cl2, ky_st1, ky_st2, ky_s1i, ky_s2i, ky_s1l, ky_s2l, ky_sli, ky_s1f, ky_s2f, ky_s1d, ky_s2d, ky_sr, ky_sai, ky_sasi, ky_sasl, ky_sasr, ky_svr, ky_sv, ky_sv2, ky_s1, ky_cs, ky_pop, ky_nth, ky_snt, ky_obj, ky_ari, ky_arl, ky_arr, ky_arn, ky_fv, ky_rcv, List.map_cons, List.map_nil, List.drop_succ_cons, List.drop_zero, Value.category, Nat.reduceAdd, Nat.reduceSub, true_and, and_true, true_or, or_true, reduceCtorEq, ite_true, ite_false, eq_self, Nat.reduceEqDiff, Nat.reduceLeDiff, nI_add, nI_1, nI_leI, nI_ltI, nI_eq, nI_clamp, kz_m1, kz_mn, kz_mn2, kz_n0, kz_0n, kz_0, kz_le0, kz_0lt, false_implies, true_implies, not_false_eq_true, not_true_eq_false, Nat.zero_le, kb_0, kz_10, kz_of, ky_sw, h0, h6, h7, h8, h9, h10])
    | (refine ⟨vp_in_nI (by omega) (by omega), ?_⟩)
    | (refine ⟨fun zc => ?_, fun zc => ?_⟩ <;> try (exfalso; omega))
    | fail)
  · rw [if_neg (by omega)] at hQ; exact hQ
  · rw [if_pos (by omega)] at hQ; exact hQ
theorem kx38 (hO : kO a k f n N L P F G) (hn : n ≤ 60) (hj : j ≤ n) (hx : x = nI j - 1) (hP : f (a q) = some (.inl (1, 60, .inl PL))) (ha : kI a) (hq : q < k ∨ k + 10 < q)
    (hQ : Q (.inl (some (.int (nI (kCh L (kLv L j + 1) j (kE L (kLv L j) j (n - j) - j) []).length)))) (ky_up f (a q) (.inl (1, 60, .inl (kput PL (kCh L (kLv L j + 1) j (kE L (kLv L j) j (n - j) - j) [])))))) : ky_cl adK 38 [.ref (a k), .int x, .ref (a q)] f Q := by
  subst hx
  have zb := kE_le L (kLv L j) (n - j) j
  generalize he : kE L (kLv L j) j (n - j) = e at zb hQ
  have hO' := hO
  obtain ⟨h0, h6, h7, h8, h9, h10⟩ := id hO
  have hOu : ∀ g, kO a k (ky_up f (a q) g) n N L P F G := by
    intro g
    unfold kO
    simp (disch := first | omega | assumption) only [kz_up, kI_ne ha, if_false]
    exact hO
  have loop : ∀ m t l c, l.length = c → t + m = e → c + m ≤ 60 → Q (.inl (some (.int (nI (kCh L (kLv L j + 1) t m l).length)))) (ky_up f (a q) (.inl (1, 60, .inl (kput PL (kCh L (kLv L j + 1) t m l))))) →
      ky_ok adK 38 23 [some (.ref (a k)), some (.int (nI j - 1)), some (.ref (a q)), some (.int (kLv L j + 1)), some (.int (nI e)), some (.int (nI c)), some (.int (nI t))] [] (ky_up f (a q) (.inl (1, 60, .inl (kput PL l)))) 0 0 Q := by
    intro m
    induction m with
    | zero =>
      intro t l c hc ht hl hq
      rw [kCh, hc] at hq
      repeat' (first
    | (refine ky_ok_stp rfl ?_; simp (disch := first | omega | assumption) only [ky_stp, ky_inv, ky_ldi, ky_ldl, ky_ldd, ky_lda, ky_cl2, ky_st1, ky_st2, ky_s1i, ky_s2i, ky_s1l, ky_s2l, ky_sli, ky_s1f, ky_s2f, ky_s1d, ky_s2d, ky_sr, ky_sai, ky_sasi, ky_sasl, ky_sasr, ky_svr, ky_sv, ky_sv2, ky_s1, ky_cs, ky_pop, ky_nth, ky_snt, ky_obj, ky_ari, ky_arl, ky_arr, ky_arn, ky_fv, ky_rcv, List.map_cons, List.map_nil, List.drop_succ_cons, List.drop_zero, Value.category, Nat.reduceAdd, Nat.reduceSub, true_and, and_true, true_or, or_true, reduceCtorEq, ite_true, ite_false, eq_self, Nat.reduceEqDiff, Nat.reduceLeDiff, nI_add, nI_1, nI_leI, nI_ltI, nI_eq, nI_clamp, kz_m1, kz_mn, kz_mn2, kz_n0, kz_0n, kz_0, kz_le0, kz_0lt, false_implies, true_implies, not_false_eq_true, not_true_eq_false, Nat.zero_le, kb_0, kz_10, kz_of, ky_sw, kz_same])
    | (refine ⟨vp_in_nI (by omega) (by omega), ?_⟩)
    | (refine ⟨fun zc => ?_, fun zc => ?_⟩ <;> try (exfalso; omega))
    | fail)
      exact hq
    | succ m ih =>
      intro t l c hc ht hl hq
      rw [kCh] at hq
      repeat' (first
    | (refine ih (t + 1) l c hc (by omega) (by omega) ?_)
    | (refine ih (t + 1) (l ++ [t]) (c + 1) (ksn_len hc t) (by omega) (by omega) ?_)
    | (refine kx27 (hOu _) hn (show t < n by omega) ?_; simp only [ky_aft, ky_vl, Nat.reduceAdd])
    | (refine ky_ok_stp rfl ?_; simp (disch := first | omega | assumption) only [ky_stp, ky_inv, ky_ldi, ky_ldl, ky_ldd, ky_lda, ky_cl2, ky_st1, ky_st2, ky_s1i, ky_s2i, ky_s1l, ky_s2l, ky_sli, ky_s1f, ky_s2f, ky_s1d, ky_s2d, ky_sr, ky_sai, ky_sasi, ky_sasl, ky_sasr, ky_svr, ky_sv, ky_sv2, ky_s1, ky_cs, ky_pop, ky_nth, ky_snt, ky_obj, ky_ari, ky_arl, ky_arr, ky_arn, ky_fv, ky_rcv, List.map_cons, List.map_nil, List.drop_succ_cons, List.drop_zero, Value.category, Nat.reduceAdd, Nat.reduceSub, true_and, and_true, true_or, or_true, reduceCtorEq, ite_true, ite_false, eq_self, Nat.reduceEqDiff, Nat.reduceLeDiff, nI_add, nI_1, nI_leI, nI_ltI, nI_eq, nI_clamp, kz_m1, kz_mn, kz_mn2, kz_n0, kz_0n, kz_0, kz_le0, kz_0lt, false_implies, true_implies, not_false_eq_true, not_true_eq_false, Nat.zero_le, kb_0, kz_10, kz_of, ky_sw, kz_up, kI_ne ha, h0, kz_uu, kput_sn, kz_60])
    | (refine ⟨vp_in_nI (by omega) (by omega), ?_⟩)
    | (refine ⟨fun zc => ?_, fun zc => ?_⟩ <;> try (exfalso; omega))
    | fail)
      · rw [if_neg (by assumption)] at hq; exact hq
      · rw [if_pos (by assumption)] at hq; exact hq
  have e0 : ky_up f (a q) (.inl (1, 60, .inl (kput PL []))) = f := by rw [kput_nil, kz_id hP]
  have hl0 := loop (e - j) j [] 0 rfl (by omega) (by omega) hQ
  rw [e0] at hl0
  refine ⟨Nat.le_of_ble_eq_true rfl, fun z => absurd z (by decide), ?_⟩
  show ky_ok adK 38 0 [some (.ref (a k)), some (.int (nI j - 1)), some (.ref (a q)), none, none, none, none] [] f 0 0 _
  repeat' (first
    | (exact hl0)
    | (refine kx27j hO' hn hj ?_; simp only [ky_aft, ky_vl, Nat.reduceAdd])
    | (refine kx32 (j := j) hO' hn hj rfl ?_; simp only [ky_aft, ky_vl, Nat.reduceAdd])
    | (refine ky_ok_stp rfl ?_; simp (disch := first | omega | assumption) only [ky_stp, ky_inv, ky_ldi, ky_ldl, ky_ldd, ky_lda, ky_cl2, ky_st1, ky_st2, ky_s1i, ky_s2i, ky_s1l, ky_s2l, ky_sli, ky_s1f, ky_s2f, ky_s1d, ky_s2d, ky_sr, ky_sai, ky_sasi, ky_sasl, ky_sasr, ky_svr, ky_sv, ky_sv2, ky_s1, ky_cs, ky_pop, ky_nth, ky_snt, ky_obj, ky_ari, ky_arl, ky_arr, ky_arn, ky_fv, ky_rcv, List.map_cons, List.map_nil, List.drop_succ_cons, List.drop_zero, Value.category, Nat.reduceAdd, Nat.reduceSub, true_and, and_true, true_or, or_true, reduceCtorEq, ite_true, ite_false, eq_self, Nat.reduceEqDiff, Nat.reduceLeDiff, nI_add, nI_1, nI_leI, nI_ltI, nI_eq, nI_clamp, kz_m1, kz_mn, kz_mn2, kz_n0, kz_0n, kz_0, kz_le0, kz_0lt, false_implies, true_implies, not_false_eq_true, not_true_eq_false, Nat.zero_le, kb_0, kz_10, kz_of, ky_sw, h0, Int32.sub_add_cancel, he])
    | (refine ⟨vp_in_nI (by omega) (by omega), ?_⟩)
    | (refine ⟨fun zc => ?_, fun zc => ?_⟩ <;> try (exfalso; omega))
    | fail)
theorem kx39 (hO : kO a k f n N L P F G) (hn : n ≤ 60) (hP : f (a q) = some (.inl (1, 60, .inl PL))) (ha : kI a) (hq : q < k ∨ k + 10 < q)
    (hQ : Q (.inl (some (.int (nI (kVs L F 6 0 n []).length)))) (ky_up f (a q) (.inl (1, 60, .inl (kput PL (kVs L F 6 0 n [])))))) : ky_cl adK 39 [.ref (a k), .ref (a q)] f Q := by
  have hO' := hO
  obtain ⟨h0, h6, h7, h8, h9, h10⟩ := id hO
  have hOu : ∀ g, kO a k (ky_up f (a q) g) n N L P F G := by
    intro g
    unfold kO
    simp (disch := first | omega | assumption) only [kz_up, kI_ne ha, if_false]
    exact hO
  have loop : ∀ m t l c g, l.length = c → t + m = n → c + m ≤ 60 → Q (.inl (some (.int (nI (kVs L F g t m l).length)))) (ky_up f (a q) (.inl (1, 60, .inl (kput PL (kVs L F g t m l))))) →
      ky_ok adK 39 8 [some (.ref (a k)), some (.ref (a q)), some (.int (nI c)), some (.int g), some (.int (nI t))] [] (ky_up f (a q) (.inl (1, 60, .inl (kput PL l)))) 0 0 Q := by
    intro m
    induction m with
    | zero =>
      intro t l c g hc ht hl hq
      rw [kVs, hc] at hq
      repeat' (first
    | (refine ky_ok_stp rfl ?_; simp (disch := first | omega | assumption) only [ky_stp, ky_inv, ky_ldi, ky_ldl, ky_ldd, ky_lda, ky_cl2, ky_st1, ky_st2, ky_s1i, ky_s2i, ky_s1l, ky_s2l, ky_sli, ky_s1f, ky_s2f, ky_s1d, ky_s2d, ky_sr, ky_sai, ky_sasi, ky_sasl, ky_sasr, ky_svr, ky_sv, ky_sv2, ky_s1, ky_cs, ky_pop, ky_nth, ky_snt, ky_obj, ky_ari, ky_arl, ky_arr, ky_arn, ky_fv, ky_rcv, List.map_cons, List.map_nil, List.drop_succ_cons, List.drop_zero, Value.category, Nat.reduceAdd, Nat.reduceSub, true_and, and_true, true_or, or_true, reduceCtorEq, ite_true, ite_false, eq_self, Nat.reduceEqDiff, Nat.reduceLeDiff, nI_add, nI_1, nI_leI, nI_ltI, nI_eq, nI_clamp, kz_m1, kz_mn, kz_mn2, kz_n0, kz_0n, kz_0, kz_le0, kz_0lt, false_implies, true_implies, not_false_eq_true, not_true_eq_false, Nat.zero_le, kb_0, kz_10, kz_of, ky_sw, kz_up, kI_ne ha, h0])
    | (refine ⟨vp_in_nI (by omega) (by omega), ?_⟩)
    | (refine ⟨fun zc => ?_, fun zc => ?_⟩ <;> try (exfalso; omega))
    | fail)
      exact hq
    | succ m ih =>
      intro t l c g hc ht hl hq
      rw [kVs] at hq
      repeat' (first
    | (refine ih (t + 1) l c _ hc (by omega) (by omega) ?_)
    | (refine ih (t + 1) (l ++ [t]) (c + 1) _ (ksn_len hc t) (by omega) (by omega) ?_)
    | (refine kx27 (hOu _) hn (show t < n by omega) ?_; simp only [ky_aft, ky_vl, Nat.reduceAdd])
    | (refine kx29 (hOu _) hn (show t < n by omega) ?_; simp only [ky_aft, ky_vl, Nat.reduceAdd])
    | (refine ky_ok_stp rfl ?_; simp (disch := first | omega | assumption) only [ky_stp, ky_inv, ky_ldi, ky_ldl, ky_ldd, ky_lda, ky_cl2, ky_st1, ky_st2, ky_s1i, ky_s2i, ky_s1l, ky_s2l, ky_sli, ky_s1f, ky_s2f, ky_s1d, ky_s2d, ky_sr, ky_sai, ky_sasi, ky_sasl, ky_sasr, ky_svr, ky_sv, ky_sv2, ky_s1, ky_cs, ky_pop, ky_nth, ky_snt, ky_obj, ky_ari, ky_arl, ky_arr, ky_arn, ky_fv, ky_rcv, List.map_cons, List.map_nil, List.drop_succ_cons, List.drop_zero, Value.category, Nat.reduceAdd, Nat.reduceSub, true_and, and_true, true_or, or_true, reduceCtorEq, ite_true, ite_false, eq_self, Nat.reduceEqDiff, Nat.reduceLeDiff, nI_add, nI_1, nI_leI, nI_ltI, nI_eq, nI_clamp, kz_m1, kz_mn, kz_mn2, kz_n0, kz_0n, kz_0, kz_le0, kz_0lt, false_implies, true_implies, not_false_eq_true, not_true_eq_false, Nat.zero_le, kb_0, kz_10, kz_of, ky_sw, kz_up, kI_ne ha, h0, kz_uu, kput_sn, kz_60])
    | (refine ⟨vp_in_nI (by omega) (by omega), ?_⟩)
    | (refine ⟨fun zc => ?_, fun zc => ?_⟩ <;> try (exfalso; omega))
    | fail)
      · rw [if_neg (Int32.not_le.mpr (by assumption))] at hq; exact hq
      · rw [if_pos (Int32.not_lt.mp (by assumption)), if_pos (by assumption)] at hq; exact hq
      · rw [if_pos (Int32.not_lt.mp (by assumption)), if_neg (by assumption)] at hq; exact hq
  have e0 : ky_up f (a q) (.inl (1, 60, .inl (kput PL []))) = f := by rw [kput_nil, kz_id hP]
  have hl0 := loop n 0 [] 0 6 rfl (by omega) (by omega) hQ
  rw [e0] at hl0
  refine ⟨Nat.le_of_ble_eq_true rfl, fun z => absurd z (by decide), ?_⟩
  show ky_ok adK 39 0 [some (.ref (a k)), some (.ref (a q)), none, none, none] [] f 0 0 _
  repeat' (first
    | (exact hl0)
    | (refine ky_ok_stp rfl ?_; simp (disch := first | omega | assumption) only [ky_stp, ky_inv, ky_ldi, ky_ldl, ky_ldd, ky_lda, ky_cl2, ky_st1, ky_st2, ky_s1i, ky_s2i, ky_s1l, ky_s2l, ky_sli, ky_s1f, ky_s2f, ky_s1d, ky_s2d, ky_sr, ky_sai, ky_sasi, ky_sasl, ky_sasr, ky_svr, ky_sv, ky_sv2, ky_s1, ky_cs, ky_pop, ky_nth, ky_snt, ky_obj, ky_ari, ky_arl, ky_arr, ky_arn, ky_fv, ky_rcv, List.map_cons, List.map_nil, List.drop_succ_cons, List.drop_zero, Value.category, Nat.reduceAdd, Nat.reduceSub, true_and, and_true, true_or, or_true, reduceCtorEq, ite_true, ite_false, eq_self, Nat.reduceEqDiff, Nat.reduceLeDiff, nI_add, nI_1, nI_leI, nI_ltI, nI_eq, nI_clamp, kz_m1, kz_mn, kz_mn2, kz_n0, kz_0n, kz_0, kz_le0, kz_0lt, false_implies, true_implies, not_false_eq_true, not_true_eq_false, Nat.zero_le, kb_0, kz_10, kz_of, ky_sw, h0])
    | (refine ⟨vp_in_nI (by omega) (by omega), ?_⟩)
    | (refine ⟨fun zc => ?_, fun zc => ?_⟩ <;> try (exfalso; omega))
    | fail)
theorem kx41 {w : Nat} (hO : kO a k f n N L P F G) (hn : n ≤ 60) (hj : j ≤ n) (hx : x = nI j - 1) (hw : w ≤ 3) (h3 : j = 0 → w = 3) (hQ : Q (.inl (some (.int (nI (kPB L n j w))))) f) : ky_cl adK 41 [.ref (a k), .int x, .int (nI w)] f Q := by
  subst hx
  have hO' := hO
  obtain ⟨h0, h6, h7, h8, h9, h10⟩ := hO
  refine ⟨Nat.le_of_ble_eq_true rfl, fun z => absurd z (by decide), ?_⟩
  show ky_ok adK 41 0 [some (.ref (a k)), some (.int (nI j - 1)), some (.int (nI w))] [] f 0 0 _
  unfold kPB at hQ
  repeat' (first
    | (refine kx32 (j := j) hO' hn hj rfl ?_; simp only [ky_aft, ky_vl, Nat.reduceAdd])
    | (refine ky_ok_stp rfl ?_; simp (disch := first | omega | assumption) only [ky_stp, ky_inv, ky_ldi, ky_ldl, ky_ldd, ky_lda, ky_cl2, ky_st1, ky_st2, ky_s1i, ky_s2i, ky_s1l, ky_s2l, ky_sli, ky_s1f, ky_s2f, ky_s1d, ky_s2d, ky_sr, ky_sai, ky_sasi, ky_sasl, ky_sasr, ky_svr, ky_sv, ky_sv2, ky_s1, ky_cs, ky_pop, ky_nth, ky_snt, ky_obj, ky_ari, ky_arl, ky_arr, ky_arn, ky_fv, ky_rcv, List.map_cons, List.map_nil, List.drop_succ_cons, List.drop_zero, Value.category, Nat.reduceAdd, Nat.reduceSub, true_and, and_true, true_or, or_true, reduceCtorEq, ite_true, ite_false, eq_self, Nat.reduceEqDiff, Nat.reduceLeDiff, nI_add, nI_1, nI_leI, nI_ltI, nI_eq, nI_clamp, kz_m1, kz_mn, kz_mn2, kz_n0, kz_0n, kz_0, kz_le0, kz_0lt, false_implies, true_implies, not_false_eq_true, not_true_eq_false, Nat.zero_le, kb_0, kz_10, kz_of, ky_sw, h0, kz_2, Int32.sub_add_cancel])
    | (refine ⟨vp_in_nI (by omega) (by omega), ?_⟩)
    | (refine ⟨fun zc => ?_, fun zc => ?_⟩ <;> try (exfalso; omega))
    | fail)
  · subst zc
    obtain ⟨j, rfl⟩ : ∃ t, j = t + 1 := ⟨j - 1, by omega⟩
    rw [nI_pred]; exact hQ
  · subst zc; exact hQ
  · rw [if_neg (by assumption), if_neg (by assumption)] at hQ; exact hQ
theorem kx42 {w : Nat} (hO : kO a k f n N L P F G) (hn : n ≤ 60) (hj : j ≤ n) (hx : x = nI j - 1) (hw : w ≤ 3) (hQ : Q (.inl (some (.int (kLB L j w)))) f) : ky_cl adK 42 [.ref (a k), .int x, .int (nI w)] f Q := by
  subst hx
  have hO' := hO
  obtain ⟨h0, h6, h7, h8, h9, h10⟩ := hO
  refine ⟨Nat.le_of_ble_eq_true rfl, fun z => absurd z (by decide), ?_⟩
  show ky_ok adK 42 0 [some (.ref (a k)), some (.int (nI j - 1)), some (.int (nI w))] [] f 0 0 _
  unfold kLB at hQ
  repeat' (first
    | (refine kx27j (j := j) hO' hn hj ?_; simp only [ky_aft, ky_vl, Nat.reduceAdd])
    | (refine ky_ok_stp rfl ?_; simp (disch := first | omega | assumption) only [ky_stp, ky_inv, ky_ldi, ky_ldl, ky_ldd, ky_lda, ky_cl2, ky_st1, ky_st2, ky_s1i, ky_s2i, ky_s1l, ky_s2l, ky_sli, ky_s1f, ky_s2f, ky_s1d, ky_s2d, ky_sr, ky_sai, ky_sasi, ky_sasl, ky_sasr, ky_svr, ky_sv, ky_sv2, ky_s1, ky_cs, ky_pop, ky_nth, ky_snt, ky_obj, ky_ari, ky_arl, ky_arr, ky_arn, ky_fv, ky_rcv, List.map_cons, List.map_nil, List.drop_succ_cons, List.drop_zero, Value.category, Nat.reduceAdd, Nat.reduceSub, true_and, and_true, true_or, or_true, reduceCtorEq, ite_true, ite_false, eq_self, Nat.reduceEqDiff, Nat.reduceLeDiff, nI_add, nI_1, nI_leI, nI_ltI, nI_eq, nI_clamp, kz_m1, kz_mn, kz_mn2, kz_n0, kz_0n, kz_0, kz_le0, kz_0lt, false_implies, true_implies, not_false_eq_true, not_true_eq_false, Nat.zero_le, kb_0, kz_10, kz_of, ky_sw, h0, kz_1])
    | (refine ⟨vp_in_nI (by omega) (by omega), ?_⟩)
    | (refine ⟨fun zc => ?_, fun zc => ?_⟩ <;> try (exfalso; omega))
    | fail)
  · rw [if_pos (Or.inl (by assumption))] at hQ; exact hQ
  · rw [if_neg (by omega)] at hQ; exact hQ
  · rw [if_pos (Or.inr (by assumption))] at hQ; exact hQ
theorem kx40 {p o b : Nat} (hO : kO a k f n N L P F G) (hn : n ≤ 60) (hp : p < n) (ho : o < n) (hb : b ≤ 2) (hQ1 : kSA L N n p o b → Q (.inl (some (.int 1))) f) (hQ0 : ¬ kSA L N n p o b → Q (.inl (some (.int 0))) f) : ky_cl adK 40 [.ref (a k), .int (nI p), .int (nI o), .int (nI b)] f Q := by
  have hO' := hO
  obtain ⟨h0, h6, h7, h8, h9, h10⟩ := hO
  have zp := kE_le L (L p) (n - (p + 1)) (p + 1)
  have zo := kE_le L (L o) (n - (o + 1)) (o + 1)
  refine ⟨Nat.le_of_ble_eq_true rfl, fun z => absurd z (by decide), ?_⟩
  show ky_ok adK 40 0 [some (.ref (a k)), some (.int (nI p)), some (.int (nI o)), some (.int (nI b))] [] f 0 0 _
  repeat' (first
    | (refine kx26 hO' hn hp ?_; simp only [ky_aft, ky_vl, Nat.reduceAdd])
    | (refine kx26 hO' hn ho ?_; simp only [ky_aft, ky_vl, Nat.reduceAdd])
    | (refine kx32 (j := p + 1) hO' hn (by omega) (nI_pred p).symm ?_; simp only [ky_aft, ky_vl, Nat.reduceAdd]; simp only [kLv])
    | (refine kx32 (j := o + 1) hO' hn (by omega) (nI_pred o).symm ?_; simp only [ky_aft, ky_vl, Nat.reduceAdd]; simp only [kLv])
    | (refine ky_ok_stp rfl ?_; simp (disch := first | omega | assumption) only [ky_stp, ky_inv, ky_ldi, ky_ldl, ky_ldd, ky_lda, ky_cl2, ky_st1, ky_st2, ky_s1i, ky_s2i, ky_s1l, ky_s2l, ky_sli, ky_s1f, ky_s2f, ky_s1d, ky_s2d, ky_sr, ky_sai, ky_sasi, ky_sasl, ky_sasr, ky_svr, ky_sv, ky_sv2, ky_s1, ky_cs, ky_pop, ky_nth, ky_snt, ky_obj, ky_ari, ky_arl, ky_arr, ky_arn, ky_fv, ky_rcv, List.map_cons, List.map_nil, List.drop_succ_cons, List.drop_zero, Value.category, Nat.reduceAdd, Nat.reduceSub, true_and, and_true, true_or, or_true, reduceCtorEq, ite_true, ite_false, eq_self, Nat.reduceEqDiff, Nat.reduceLeDiff, nI_add, nI_1, nI_leI, nI_ltI, nI_eq, nI_clamp, kz_m1, kz_mn, kz_mn2, kz_n0, kz_0n, kz_0, kz_le0, kz_0lt, false_implies, true_implies, not_false_eq_true, not_true_eq_false, Nat.zero_le, kb_0, kz_10, kz_of, ky_sw, h0, kz_1, kz_cmp, nI_sub])
    | (refine ⟨vp_in_nI (by omega) (by omega), ?_⟩)
    | (refine ⟨fun zc => ?_, fun zc => ?_⟩ <;> try (exfalso; omega))
    | fail)
  · refine hQ0 ?_
    rw [kSA, if_pos (by assumption)]; assumption
  · refine hQ1 ?_
    rw [kSA, if_pos (by assumption)]; exact Classical.not_not.mp zc
  · refine hQ0 ?_
    rw [kSA, if_neg (by assumption), if_pos (by assumption)]; exact Nat.not_lt.mpr zc
  · refine hQ1 ?_
    rw [kSA, if_neg (by assumption), if_pos (by assumption)]; exact Nat.not_le.mp zc
  · refine hQ0 ?_
    rw [kSA, if_neg (by assumption), if_neg (by assumption)]; exact Nat.not_lt.mpr zc
  · refine hQ1 ?_
    rw [kSA, if_neg (by assumption), if_neg (by assumption)]; exact Nat.not_le.mp zc
end KXO2
