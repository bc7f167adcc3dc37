-- deps:
/-! ## names: their letters in a long number -/
def kpad (w : List Nat) : List Nat := (w ++ List.replicate 8 0).take 8
def kNW (w : List Nat) : Int64 := kpS (kpad w)
theorem kpad_len (w : List Nat) : (kpad w).length = 8 := by simp [kpad]
theorem kpad_b {w : List Nat} (h : ∀ b ∈ w, b < 256) : ∀ b ∈ kpad w, b < 256 := by
  intro b hb
  rcases List.mem_append.mp (List.mem_of_mem_take hb) with hb | hb
  · exact h b hb
  · rw [List.eq_of_mem_replicate hb]; decide
theorem kpad_get (w : List Nat) {j : Nat} (hj : j < 8) : (kpad w).getD j 0 = w.getD j 0 := by
  rw [kpad, List.getD_eq_getElem?_getD, List.getD_eq_getElem?_getD, List.getElem?_take, if_pos hj, List.getElem?_append]
  by_cases h : j < w.length
  · rw [if_pos h]
  · rw [if_neg h, List.getElem?_replicate, List.getElem?_eq_none (by omega)]
    split <;> rfl
theorem kpad_long {w : List Nat} (x : List Nat) (h : 8 ≤ w.length) : kpad (w ++ x) = kpad w := by
  rw [kpad, kpad, List.append_assoc, List.take_append_of_le_length h, List.take_append_of_le_length h]
theorem kpN_app (p q : List Nat) : kpN (p ++ q) = kpN p * 256 ^ q.length + kpN q := by
  rw [kpN, List.foldl_append, kpN_f]; rfl
theorem kpN_z : ∀ m, kpN (List.replicate m 0) = 0
  | 0 => rfl
  | m + 1 => by rw [List.replicate_succ, kpN_cons, kpN_z m, Nat.zero_mul]
theorem kpad_sh {w : List Nat} (h : w.length ≤ 8) : kpad w = w ++ List.replicate (8 - w.length) 0 := by
  rw [kpad, List.take_append, List.take_of_length_le h, List.take_replicate, Nat.min_eq_left (by omega)]
theorem kpad_N {w : List Nat} (h : w.length ≤ 8) : kpN (kpad w) = kpN w * 256 ^ (8 - w.length) := by
  rw [kpad_sh h, kpN_app, kpN_z, List.length_replicate, Nat.add_zero]
set_option maxRecDepth 100000 in
theorem kNW_b : ∀ j, j < 8 → ∀ b, b < 256 → (nI b).toInt64 <<< (((8 : Int32) * (7 - nI j)).toInt64 &&& 63) = (UInt64.ofNat (b * 256 ^ (7 - j))).toInt64 := by decide +kernel
theorem kNW_sn {p : List Nat} {b : Nat} (hb : b < 256) (h : p.length < 8) : kNW p ||| ((nI b).toInt64 <<< (((8 : Int32) * (7 - nI p.length)).toInt64 &&& 63)) = kNW (p ++ [b]) := by
  rw [kNW_b _ h b hb, kNW, kNW, kpS, kpS, kpad_N (by omega), kpad_N (by simp; omega), kpN_app]
  have e1 : kpN [b] = b := by simp [kpN]
  have e2 : 8 - p.length = (7 - p.length) + 1 := by omega
  rw [e1, List.length_append, List.length_singleton, show 8 - (p.length + 1) = 7 - p.length by omega, e2]
  generalize kpN p = P
  generalize 7 - p.length = d
  have e3 : P * 256 ^ (d + 1) + b * 256 ^ d = P * 256 ^ (d + 1) ||| b * 256 ^ d := by
    have h1 : b * 256 ^ d < 256 ^ (d + 1) := by rw [Nat.pow_succ, Nat.mul_comm]; exact Nat.mul_lt_mul_of_pos_left hb (Nat.pow_pos (by decide))
    rw [show (256 : Nat) = 2 ^ 8 from rfl, ← Nat.pow_mul, ← Nat.pow_mul] at h1 ⊢
    rw [Nat.mul_comm P, Nat.two_pow_add_eq_or_of_lt h1]
  rw [show (P * 256 ^ 1 + b) * 256 ^ d = P * 256 ^ (d + 1) + b * 256 ^ d by rw [Nat.pow_one, Nat.add_mul, Nat.mul_assoc, Nat.pow_succ, Nat.mul_comm 256], e3, UInt64.ofNat_or]
  rfl
theorem nI_mul (x y : Nat) : nI x * nI y = nI (x * y) := by
  unfold nI
  exact (Int32.ofNat_mul x y).symm
section KXN
variable {adK : Nat → Nat} {j b : Nat} {f : ky_H} {Q : ky_Q} {w : List Nat} {x : Int32} {l : Int64}
theorem kx134 (hb : b < 256) (hw : w.length < 100000) (hQ : Q (.inl (some (.long (kNW (w ++ [b]))))) f) : ky_cl adK 134 [.long (kNW w), .int (nI w.length), .int (nI b)] f Q := by
  refine ⟨Nat.le_of_ble_eq_true rfl, fun z => absurd z (by decide), ?_⟩; show ky_ok adK 134 0 [some (.long (kNW w)), none, some (.int (nI w.length)), some (.int (nI b))] [] f 0 0 _
  repeat' (first | (refine ky_ok_stp rfl ?_; simp (disch := first | omega | assumption) only [ky_stp, ky_inv, ky_ldi, ky_ldl, ky_ldd, ky_lda, ky_cl2, ky_st1, ky_st2, ky_s1i, ky_s2i, ky_s1l, ky_s2l, ky_sli, ky_s1f, ky_s2f, ky_s1d, ky_s2d, ky_sr, ky_sai, ky_sasi, ky_sasl, ky_sasr, ky_svr, ky_sv, ky_sv2, ky_s1, ky_cs, ky_pop, ky_nth, ky_snt, ky_obj, ky_ari, ky_arl, ky_arr, ky_arn, ky_fv, ky_rcv, List.map_cons, List.map_nil, List.drop_succ_cons, List.drop_zero, Value.category, Nat.reduceAdd, Nat.reduceSub, true_and, and_true, true_or, or_true, reduceCtorEq, ite_true, ite_false, eq_self, Nat.reduceEqDiff, Nat.reduceLeDiff, nI_add, nI_1, nI_leI, nI_ltI, nI_eq, nI_clamp, kz_m1, kz_mn, kz_mn2, kz_n0, kz_0n, kz_0, kz_le0, kz_0lt, false_implies, true_implies, not_false_eq_true, not_true_eq_false, Nat.zero_le, kb_0, kz_10, kz_of, ky_sw, kz_mx, kz_mi, kz_8]) | (refine ⟨vp_in_nI (by omega) (by omega), ?_⟩) | (refine ⟨fun zc => ?_, fun zc => ?_⟩ <;> try (exfalso; omega)) | fail)
  · rw [kNW, kpad_long _ (by assumption)] at hQ; exact hQ
  · rw [← kz_8, kNW_sn hb (by omega)]; exact hQ
theorem kx134l (hl : w.length = j) (hb : b < 256) (hw : j < 100000) (hQ : Q (.inl (some (.long (kNW (w ++ [b]))))) f) : ky_cl adK 134 [.long (kNW w), .int (nI j), .int (nI b)] f Q := by
  subst hl; exact kx134 hb hw hQ
theorem kx135 (hw : ∀ b ∈ w, b < 256) (hj : j < 8) (hQ : Q (.inl (some (.int (nI (w.getD j 0))))) f) : ky_cl adK 135 [.long (kNW w), .int (nI j)] f Q := by
  have e : ∀ j, j < 8 → (8 : Int32) * (7 - nI j) = nI (8 * (7 - j)) := by decide +kernel
  refine ⟨Nat.le_of_ble_eq_true rfl, fun z => absurd z (by decide), ?_⟩; show ky_ok adK 135 0 [some (.long (kNW w)), none, some (.int (nI j))] [] f 0 0 _
  repeat' (first | (refine ky_ok_stp rfl ?_; simp (disch := first | omega | assumption) only [ky_stp, ky_inv, ky_ldi, ky_ldl, ky_ldd, ky_lda, ky_cl2, ky_st1, ky_st2, ky_s1i, ky_s2i, ky_s1l, ky_s2l, ky_sli, ky_s1f, ky_s2f, ky_s1d, ky_s2d, ky_sr, ky_sai, ky_sasi, ky_sasl, ky_sasr, ky_svr, ky_sv, ky_sv2, ky_s1, ky_cs, ky_pop, ky_nth, ky_snt, ky_obj, ky_ari, ky_arl, ky_arr, ky_arn, ky_fv, ky_rcv, List.map_cons, List.map_nil, List.drop_succ_cons, List.drop_zero, Value.category, Nat.reduceAdd, Nat.reduceSub, true_and, and_true, true_or, or_true, reduceCtorEq, ite_true, ite_false, eq_self, Nat.reduceEqDiff, Nat.reduceLeDiff, nI_add, nI_1, nI_leI, nI_ltI, nI_eq, nI_clamp, kz_m1, kz_mn, kz_mn2, kz_n0, kz_0n, kz_0, kz_le0, kz_0lt, false_implies, true_implies, not_false_eq_true, not_true_eq_false, Nat.zero_le, kb_0, kz_10, kz_of, ky_sw, kz_mx, kz_mi, kz_8]) | (refine ⟨vp_in_nI (by omega) (by omega), ?_⟩) | (refine ⟨fun zc => ?_, fun zc => ?_⟩ <;> try (exfalso; omega)) | fail)
  rw [← kz_8, e j hj, kNW, kpS_sh (kpad_b hw) (by rw [kpad_len]; omega) (show 7 - j < 8 by omega) rfl, kpN_dig _ _ (kpad_b hw) (by rw [kpad_len]; omega), kpad_len, show 8 - 1 - (7 - j) = j by omega, kpad_get _ hj]
  exact hQ
theorem kx135n (hx : ∀ j, j < 8 → x ≠ nI j) (hQ : Q (.inl (some (.int 0))) f) : ky_cl adK 135 [.long l, .int x] f Q := by
  by_cases hx0 : x < 0
  · have e0 := eq_true hx0
    refine ⟨Nat.le_of_ble_eq_true rfl, fun z => absurd z (by decide), ?_⟩; show ky_ok adK 135 0 [some (.long l), none, some (.int x)] [] f 0 0 _
    repeat' (first | (refine ky_ok_stp rfl ?_; simp (disch := first | omega | assumption) only [ky_stp, ky_inv, ky_ldi, ky_ldl, ky_ldd, ky_lda, ky_cl2, ky_st1, ky_st2, ky_s1i, ky_s2i, ky_s1l, ky_s2l, ky_sli, ky_s1f, ky_s2f, ky_s1d, ky_s2d, ky_sr, ky_sai, ky_sasi, ky_sasl, ky_sasr, ky_svr, ky_sv, ky_sv2, ky_s1, ky_cs, ky_pop, ky_nth, ky_snt, ky_obj, ky_ari, ky_arl, ky_arr, ky_arn, ky_fv, ky_rcv, List.map_cons, List.map_nil, List.drop_succ_cons, List.drop_zero, Value.category, Nat.reduceAdd, Nat.reduceSub, true_and, and_true, true_or, or_true, reduceCtorEq, ite_true, ite_false, eq_self, Nat.reduceEqDiff, Nat.reduceLeDiff, nI_add, nI_1, nI_leI, nI_ltI, nI_eq, nI_clamp, kz_m1, kz_mn, kz_mn2, kz_n0, kz_0n, kz_0, kz_le0, kz_0lt, false_implies, true_implies, not_false_eq_true, not_true_eq_false, Nat.zero_le, kb_0, kz_10, kz_of, ky_sw, kz_mx, kz_mi, e0]) | (refine ⟨vp_in_nI (by omega) (by omega), ?_⟩) | (refine ⟨fun zc => ?_, fun zc => ?_⟩ <;> try (exfalso; omega)) | fail)
    exact hQ
  · obtain ⟨j, hj, rfl⟩ := nI_of hx0
    have hlj : 8 ≤ j := Nat.not_lt.mp fun z => hx j z rfl
    refine ⟨Nat.le_of_ble_eq_true rfl, fun z => absurd z (by decide), ?_⟩; show ky_ok adK 135 0 [some (.long l), none, some (.int (nI j))] [] f 0 0 _
    repeat' (first | (refine ky_ok_stp rfl ?_; simp (disch := first | omega | assumption) only [ky_stp, ky_inv, ky_ldi, ky_ldl, ky_ldd, ky_lda, ky_cl2, ky_st1, ky_st2, ky_s1i, ky_s2i, ky_s1l, ky_s2l, ky_sli, ky_s1f, ky_s2f, ky_s1d, ky_s2d, ky_sr, ky_sai, ky_sasi, ky_sasl, ky_sasr, ky_svr, ky_sv, ky_sv2, ky_s1, ky_cs, ky_pop, ky_nth, ky_snt, ky_obj, ky_ari, ky_arl, ky_arr, ky_arn, ky_fv, ky_rcv, List.map_cons, List.map_nil, List.drop_succ_cons, List.drop_zero, Value.category, Nat.reduceAdd, Nat.reduceSub, true_and, and_true, true_or, or_true, reduceCtorEq, ite_true, ite_false, eq_self, Nat.reduceEqDiff, Nat.reduceLeDiff, nI_add, nI_1, nI_leI, nI_ltI, nI_eq, nI_clamp, kz_m1, kz_mn, kz_mn2, kz_n0, kz_0n, kz_0, kz_le0, kz_0lt, false_implies, true_implies, not_false_eq_true, not_true_eq_false, Nat.zero_le, kb_0, kz_10, kz_of, ky_sw, kz_mx, kz_mi, kz_8]) | (refine ⟨vp_in_nI (by omega) (by omega), ?_⟩) | (refine ⟨fun zc => ?_, fun zc => ?_⟩ <;> try (exfalso; omega)) | fail)
    exact hQ
/-- a name -/
def kWd (w : List Nat) : Prop := w ≠ [] ∧ w.length ≤ 8 ∧ ∀ b ∈ w, 97 ≤ b ∧ b ≤ 122
theorem kWd_get {w : List Nat} (h : kWd w) (j : Nat) : if j < w.length then 97 ≤ w.getD j 0 ∧ w.getD j 0 ≤ 122 else w.getD j 0 = 0 := by
  rw [List.getD_eq_getElem?_getD]
  by_cases e : j < w.length
  · rw [if_pos e, List.getElem?_eq_getElem e]
    exact h.2.2 _ (List.getElem_mem e)
  · rw [if_neg e, List.getElem?_eq_none (by omega)]; rfl
theorem kx136 (hw : kWd w) (hQ : Q (.inl (some (.int (nI w.length)))) f) : ky_cl adK 136 [.long (kNW w)] f Q := by
  have h8 := hw.2.1
  have loop : ∀ m t, t + m = 8 → ky_ok adK 136 4 [some (.long (kNW w)), none, some (.int (nI (min t w.length))), some (.int (nI t))] [] f 0 0 Q := by
    intro m
    induction m with
    | zero =>
      intro t ht
      repeat' (first | (refine ky_ok_stp rfl ?_; simp (disch := first | omega | assumption) only [ky_stp, ky_inv, ky_ldi, ky_ldl, ky_ldd, ky_lda, ky_cl2, ky_st1, ky_st2, ky_s1i, ky_s2i, ky_s1l, ky_s2l, ky_sli, ky_s1f, ky_s2f, ky_s1d, ky_s2d, ky_sr, ky_sai, ky_sasi, ky_sasl, ky_sasr, ky_svr, ky_sv, ky_sv2, ky_s1, ky_cs, ky_pop, ky_nth, ky_snt, ky_obj, ky_ari, ky_arl, ky_arr, ky_arn, ky_fv, ky_rcv, List.map_cons, List.map_nil, List.drop_succ_cons, List.drop_zero, Value.category, Nat.reduceAdd, Nat.reduceSub, true_and, and_true, true_or, or_true, reduceCtorEq, ite_true, ite_false, eq_self, Nat.reduceEqDiff, Nat.reduceLeDiff, nI_add, nI_1, nI_leI, nI_ltI, nI_eq, nI_clamp, kz_m1, kz_mn, kz_mn2, kz_n0, kz_0n, kz_0, kz_le0, kz_0lt, false_implies, true_implies, not_false_eq_true, not_true_eq_false, Nat.zero_le, kb_0, kz_10, kz_of, ky_sw, kz_mx, kz_mi, kz_8]) | (refine ⟨vp_in_nI (by omega) (by omega), ?_⟩) | (refine ⟨fun zc => ?_, fun zc => ?_⟩ <;> try (exfalso; omega)) | fail)
      rw [show min t w.length = w.length by omega]; exact hQ
    | succ m ih =>
      intro t ht
      have ht8 : t < 8 := by omega
      have g := kWd_get hw t
      by_cases e : t < w.length
      · rw [if_pos e] at g
        have em : min (t + 1) w.length = min t w.length + 1 := by omega
        have e0 : (nI (w.getD t 0) = 0) = False := by rw [kz_0 (by omega)]; exact eq_false (by omega)
        repeat' (first | (refine kx135 (fun b hb => by have := hw.2.2 b hb; omega) ht8 ?_; simp only [ky_aft, ky_vl, Nat.reduceAdd]) | (refine (by have := ih (t + 1) (by omega); rw [em] at this; exact this)) | (refine ky_ok_stp rfl ?_; simp (disch := first | omega | assumption) only [ky_stp, ky_inv, ky_ldi, ky_ldl, ky_ldd, ky_lda, ky_cl2, ky_st1, ky_st2, ky_s1i, ky_s2i, ky_s1l, ky_s2l, ky_sli, ky_s1f, ky_s2f, ky_s1d, ky_s2d, ky_sr, ky_sai, ky_sasi, ky_sasl, ky_sasr, ky_svr, ky_sv, ky_sv2, ky_s1, ky_cs, ky_pop, ky_nth, ky_snt, ky_obj, ky_ari, ky_arl, ky_arr, ky_arn, ky_fv, ky_rcv, List.map_cons, List.map_nil, List.drop_succ_cons, List.drop_zero, Value.category, Nat.reduceAdd, Nat.reduceSub, true_and, and_true, true_or, or_true, reduceCtorEq, ite_true, ite_false, eq_self, Nat.reduceEqDiff, Nat.reduceLeDiff, nI_add, nI_1, nI_leI, nI_ltI, nI_eq, nI_clamp, kz_m1, kz_mn, kz_mn2, kz_n0, kz_0n, kz_0, kz_le0, kz_0lt, false_implies, true_implies, not_false_eq_true, not_true_eq_false, Nat.zero_le, kb_0, kz_10, kz_of, ky_sw, kz_mx, kz_mi, kz_8, e0]) | (refine ⟨vp_in_nI (by omega) (by omega), ?_⟩) | (refine ⟨fun zc => ?_, fun zc => ?_⟩ <;> try (exfalso; omega)) | fail)
      · rw [if_neg e] at g
        have em : min (t + 1) w.length = min t w.length := by omega
        have e0 : (nI (w.getD t 0) = 0) = True := by rw [g]; exact eq_true rfl
        repeat' (first | (refine kx135 (fun b hb => by have := hw.2.2 b hb; omega) ht8 ?_; simp only [ky_aft, ky_vl, Nat.reduceAdd]) | (refine (by have := ih (t + 1) (by omega); rw [em] at this; exact this)) | (refine ky_ok_stp rfl ?_; simp (disch := first | omega | assumption) only [ky_stp, ky_inv, ky_ldi, ky_ldl, ky_ldd, ky_lda, ky_cl2, ky_st1, ky_st2, ky_s1i, ky_s2i, ky_s1l, ky_s2l, ky_sli, ky_s1f, ky_s2f, ky_s1d, ky_s2d, ky_sr, ky_sai, ky_sasi, ky_sasl, ky_sasr, ky_svr, ky_sv, ky_sv2, ky_s1, ky_cs, ky_pop, ky_nth, ky_snt, ky_obj, ky_ari, ky_arl, ky_arr, ky_arn, ky_fv, ky_rcv, List.map_cons, List.map_nil, List.drop_succ_cons, List.drop_zero, Value.category, Nat.reduceAdd, Nat.reduceSub, true_and, and_true, true_or, or_true, reduceCtorEq, ite_true, ite_false, eq_self, Nat.reduceEqDiff, Nat.reduceLeDiff, nI_add, nI_1, nI_leI, nI_ltI, nI_eq, nI_clamp, kz_m1, kz_mn, kz_mn2, kz_n0, kz_0n, kz_0, kz_le0, kz_0lt, false_implies, true_implies, not_false_eq_true, not_true_eq_false, Nat.zero_le, kb_0, kz_10, kz_of, ky_sw, kz_mx, kz_mi, kz_8, e0]) | (refine ⟨vp_in_nI (by omega) (by omega), ?_⟩) | (refine ⟨fun zc => ?_, fun zc => ?_⟩ <;> try (exfalso; omega)) | fail)
  refine ⟨Nat.le_of_ble_eq_true rfl, fun z => absurd z (by decide), ?_⟩; show ky_ok adK 136 0 [some (.long (kNW w)), none, none, none] [] f 0 0 _
  repeat' (first | (exact (by have := loop 8 0 rfl; rw [Nat.zero_min] at this; exact this)) | (refine ky_ok_stp rfl ?_; simp (disch := first | omega | assumption) only [ky_stp, ky_inv, ky_ldi, ky_ldl, ky_ldd, ky_lda, ky_cl2, ky_st1, ky_st2, ky_s1i, ky_s2i, ky_s1l, ky_s2l, ky_sli, ky_s1f, ky_s2f, ky_s1d, ky_s2d, ky_sr, ky_sai, ky_sasi, ky_sasl, ky_sasr, ky_svr, ky_sv, ky_sv2, ky_s1, ky_cs, ky_pop, ky_nth, ky_snt, ky_obj, ky_ari, ky_arl, ky_arr, ky_arn, ky_fv, ky_rcv, List.map_cons, List.map_nil, List.drop_succ_cons, List.drop_zero, Value.category, Nat.reduceAdd, Nat.reduceSub, true_and, and_true, true_or, or_true, reduceCtorEq, ite_true, ite_false, eq_self, Nat.reduceEqDiff, Nat.reduceLeDiff, nI_add, nI_1, nI_leI, nI_ltI, nI_eq, nI_clamp, kz_m1, kz_mn, kz_mn2, kz_n0, kz_0n, kz_0, kz_le0, kz_0lt, false_implies, true_implies, not_false_eq_true, not_true_eq_false, Nat.zero_le, kb_0, kz_10, kz_of, ky_sw, kz_mx, kz_mi]) | (refine ⟨vp_in_nI (by omega) (by omega), ?_⟩) | (refine ⟨fun zc => ?_, fun zc => ?_⟩ <;> try (exfalso; omega)) | fail)
theorem kx137 (hb : b < 100000) (hQ : Q (.inl (some (.int (if 97 ≤ b ∧ b ≤ 122 then 1 else 0)))) f) : ky_cl adK 137 [.int (nI b)] f Q := by
  have e1 : (97 : Int32) = nI 97 := rfl
  have e2 : (122 : Int32) = nI 122 := rfl
  refine ⟨Nat.le_of_ble_eq_true rfl, fun z => absurd z (by decide), ?_⟩; show ky_ok adK 137 0 [some (.int (nI b))] [] f 0 0 _
  repeat' (first | (refine ky_ok_stp rfl ?_; simp (disch := first | omega | assumption) only [ky_stp, ky_inv, ky_ldi, ky_ldl, ky_ldd, ky_lda, ky_cl2, ky_st1, ky_st2, ky_s1i, ky_s2i, ky_s1l, ky_s2l, ky_sli, ky_s1f, ky_s2f, ky_s1d, ky_s2d, ky_sr, ky_sai, ky_sasi, ky_sasl, ky_sasr, ky_svr, ky_sv, ky_sv2, ky_s1, ky_cs, ky_pop, ky_nth, ky_snt, ky_obj, ky_ari, ky_arl, ky_arr, ky_arn, ky_fv, ky_rcv, List.map_cons, List.map_nil, List.drop_succ_cons, List.drop_zero, Value.category, Nat.reduceAdd, Nat.reduceSub, true_and, and_true, true_or, or_true, reduceCtorEq, ite_true, ite_false, eq_self, Nat.reduceEqDiff, Nat.reduceLeDiff, nI_add, nI_1, nI_leI, nI_ltI, nI_eq, nI_clamp, kz_m1, kz_mn, kz_mn2, kz_n0, kz_0n, kz_0, kz_le0, kz_0lt, false_implies, true_implies, not_false_eq_true, not_true_eq_false, Nat.zero_le, kb_0, kz_10, kz_of, ky_sw, kz_mx, kz_mi, e1, e2]) | (refine ⟨vp_in_nI (by omega) (by omega), ?_⟩) | (refine ⟨fun zc => ?_, fun zc => ?_⟩ <;> try (exfalso; omega)) | fail)
  · rw [if_neg (by omega)] at hQ; exact hQ
  · rw [if_neg (by omega)] at hQ; exact hQ
  · rw [if_pos (by omega)] at hQ; exact hQ
theorem kx137m (hQ : Q (.inl (some (.int 0))) f) : ky_cl adK 137 [.int (-1)] f Q := by
  refine ⟨Nat.le_of_ble_eq_true rfl, fun z => absurd z (by decide), ?_⟩; show ky_ok adK 137 0 [some (.int (-1))] [] f 0 0 _
  repeat' (first | (refine ky_ok_stp rfl ?_; simp (disch := first | omega | assumption) only [ky_stp, ky_inv, ky_ldi, ky_ldl, ky_ldd, ky_lda, ky_cl2, ky_st1, ky_st2, ky_s1i, ky_s2i, ky_s1l, ky_s2l, ky_sli, ky_s1f, ky_s2f, ky_s1d, ky_s2d, ky_sr, ky_sai, ky_sasi, ky_sasl, ky_sasr, ky_svr, ky_sv, ky_sv2, ky_s1, ky_cs, ky_pop, ky_nth, ky_snt, ky_obj, ky_ari, ky_arl, ky_arr, ky_arn, ky_fv, ky_rcv, List.map_cons, List.map_nil, List.drop_succ_cons, List.drop_zero, Value.category, Nat.reduceAdd, Nat.reduceSub, true_and, and_true, true_or, or_true, reduceCtorEq, ite_true, ite_false, eq_self, Nat.reduceEqDiff, Nat.reduceLeDiff, nI_add, nI_1, nI_leI, nI_ltI, nI_eq, nI_clamp, kz_m1, kz_mn, kz_mn2, kz_n0, kz_0n, kz_0, kz_le0, kz_0lt, false_implies, true_implies, not_false_eq_true, not_true_eq_false, Nat.zero_le, kb_0, kz_10, kz_of, ky_sw, kz_mx, kz_mi, show ((-1 : Int32) < 97) = True by decide]) | (refine ⟨vp_in_nI (by omega) (by omega), ?_⟩) | (refine ⟨fun zc => ?_, fun zc => ?_⟩ <;> try (exfalso; omega)) | fail)
  exact hQ
end KXN
