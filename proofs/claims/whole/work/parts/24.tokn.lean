-- deps: 23.word
/-! ## tokens -/
abbrev ksp (b : Nat) : Prop := b = 32 ∨ b = 10
abbrev klt (b : Nat) : Prop := 97 ≤ b ∧ b ≤ 122
abbrev kdg (b : Nat) : Prop := 48 ≤ b ∧ b ≤ 57
/-- the end of a run -/
def kRn (p : Nat → Prop) [DecidablePred p] (c : Nat → Nat) : Nat → Nat → Nat
  | i, 0 => i
  | i, m + 1 => if p (c i) then kRn p c (i + 1) m else i
theorem kRn_le (p : Nat → Prop) [DecidablePred p] (c : Nat → Nat) : ∀ m i, i ≤ kRn p c i m ∧ kRn p c i m ≤ i + m
  | 0, i => ⟨Nat.le_refl _, Nat.le_refl _⟩
  | m + 1, i => by
    have := kRn_le p c m (i + 1)
    rw [kRn]
    split <;> omega
theorem kRn_in (p : Nat → Prop) [DecidablePred p] (c : Nat → Nat) : ∀ m i j, i ≤ j → j < kRn p c i m → p (c j)
  | 0, i, j, h1, h2 => by rw [kRn] at h2; omega
  | m + 1, i, j, h1, h2 => by
    rw [kRn] at h2
    split at h2
    · by_cases e : i = j
      · subst e; assumption
      · exact kRn_in p c m (i + 1) j (by omega) h2
    · omega
def kTs (c : Nat → Nat) (L b : Nat) : Nat := kRn ksp c b (L - b)
def kTk (c : Nat → Nat) (L s : Nat) : Nat := if s < L then (if klt (c s) then 1 else if kdg (c s) then 2 else if c s = 42 then 3 else if c s = 59 then 4 else 5) else 0
def kTe (c : Nat → Nat) (L s : Nat) : Nat := if s < L then (if klt (c s) then kRn klt c s (L - s) else if kdg (c s) then kRn kdg c s (L - s) else s + 1) else L
def kTl (c : Nat → Nat) (s m : Nat) : List Nat := (List.range m).map fun t => c (s + t)
/-- the word of a token: empty, where it is none of at most 8 letters -/
def kTw (c : Nat → Nat) (L s : Nat) : List Nat := if kTk c L s = 1 ∧ kTe c L s - s ≤ 8 then kTl c s (kTe c L s - s) else []
def kVc (c : Nat → Nat) : Nat → Nat → Nat → Nat
  | _, 0, v => v
  | i, m + 1, v => kVc c (i + 1) m (min (10 * v + c i - 48) 1000)
def kTv (c : Nat → Nat) (L s : Nat) : Nat := if kTk c L s = 2 then kVc c s (kTe c L s - s) 0 else 0
def kTo (a : Nat → Nat) (f : ky_H) (c : Nat → Nat) (L s : Nat) : Prop := f (a 46) = some (.inr (7, [.int (nI (kTk c L s)), .int (nI s), .long (kNW (kTw c L s)), .int (nI (kTv c L s)), .int (nI (kTe c L s)), .ref (a 40)]))
theorem kTl_len (c : Nat → Nat) (s m : Nat) : (kTl c s m).length = m := by rw [kTl, List.length_map, List.length_range]
theorem kTl_s (c : Nat → Nat) (s m : Nat) : kTl c s (m + 1) = kTl c s m ++ [c (s + m)] := by rw [kTl, List.range_succ, List.map_append]; rfl
theorem kTs_le {c : Nat → Nat} {L b : Nat} (h : b ≤ L) : b ≤ kTs c L b ∧ kTs c L b ≤ L := by
  have := kRn_le ksp c (L - b) b
  unfold kTs; omega
theorem kTe_le {c : Nat → Nat} {L s : Nat} (h : s ≤ L) : s ≤ kTe c L s ∧ kTe c L s ≤ L := by
  have h1 := kRn_le klt c (L - s) s
  have h2 := kRn_le kdg c (L - s) s
  unfold kTe
  split
  · split
    · omega
    · split <;> omega
  · omega
theorem kTe_lt {c : Nat → Nat} {L s : Nat} (h : s < L) : s < kTe c L s := by
  have h1 := (kRn_le klt c (L - (s + 1)) (s + 1)).1
  have h2 := (kRn_le kdg c (L - (s + 1)) (s + 1)).1
  unfold kTe
  rw [if_pos h]
  split
  · rw [show L - s = (L - (s + 1)) + 1 by omega, kRn, if_pos (by assumption)]; omega
  · split
    · rw [show L - s = (L - (s + 1)) + 1 by omega, kRn, if_pos (by assumption)]; omega
    · omega
theorem kNW_0 : kNW [] = 0 := by decide
section KXT
variable {adK a : Nat → Nat} {b L s : Nat} {f : ky_H} {c : Nat → Nat} {Q : ky_Q} {x y : Int32}
theorem kx81 (hb : b < 100000) (hQ : Q (.inl (some (.int (if ksp b then 1 else 0)))) f) : ky_cl adK 81 [.int (nI b)] f Q := by
  have e1 : (32 : Int32) = nI 32 := rfl
  have e2 : (10 : Int32) = nI 10 := rfl
  refine ⟨Nat.le_of_ble_eq_true rfl, fun z => absurd z (by decide), ?_⟩; show ky_ok adK 81 0 [some (.int (nI b))] [] f 0 0 _
  repeat' (first | (refine ky_ok_stp rfl ?_; simp (disch := first | omega | assumption) only [ky_stp, ky_inv, ky_ldi, ky_ldl, ky_ldd, ky_lda, ky_cl2, ky_st1, ky_st2, ky_s1i, ky_s2i, ky_s1l, ky_s2l, ky_sli, ky_s1f, ky_s2f, ky_s1d, ky_s2d, ky_sr, ky_sai, ky_sasi, ky_sasl, ky_sasr, ky_svr, ky_sv, ky_sv2, ky_s1, ky_cs, ky_pop, ky_nth, ky_snt, ky_obj, ky_ari, ky_arl, ky_arr, ky_arn, ky_fv, ky_rcv, List.map_cons, List.map_nil, List.drop_succ_cons, List.drop_zero, Value.category, Nat.reduceAdd, Nat.reduceSub, true_and, and_true, true_or, or_true, reduceCtorEq, ite_true, ite_false, eq_self, Nat.reduceEqDiff, Nat.reduceLeDiff, nI_add, nI_1, nI_leI, nI_ltI, nI_eq, nI_clamp, kz_m1, kz_mn, kz_mn2, kz_n0, kz_0n, kz_0, kz_le0, kz_0lt, false_implies, true_implies, not_false_eq_true, not_true_eq_false, Nat.zero_le, kb_0, kz_10, kz_of, ky_sw, kz_mx, kz_mi, e1, e2]) | (refine ⟨vp_in_nI (by omega) (by omega), ?_⟩) | (refine ⟨fun zc => ?_, fun zc => ?_⟩ <;> try (exfalso; omega)) | fail)
  · rw [if_pos (by unfold ksp; omega)] at hQ; exact hQ
  · rw [if_neg (by unfold ksp; omega)] at hQ; exact hQ
  · rw [if_pos (by unfold ksp; omega)] at hQ; exact hQ
theorem kx82 (hb : b < 100000) (hQ : Q (.inl (some (.int (if kdg b then 1 else 0)))) f) : ky_cl adK 82 [.int (nI b)] f Q := by
  have e1 : (48 : Int32) = nI 48 := rfl
  have e2 : (57 : Int32) = nI 57 := rfl
  refine ⟨Nat.le_of_ble_eq_true rfl, fun z => absurd z (by decide), ?_⟩; show ky_ok adK 82 0 [some (.int (nI b))] [] f 0 0 _
  repeat' (first | (refine ky_ok_stp rfl ?_; simp (disch := first | omega | assumption) only [ky_stp, ky_inv, ky_ldi, ky_ldl, ky_ldd, ky_lda, ky_cl2, ky_st1, ky_st2, ky_s1i, ky_s2i, ky_s1l, ky_s2l, ky_sli, ky_s1f, ky_s2f, ky_s1d, ky_s2d, ky_sr, ky_sai, ky_sasi, ky_sasl, ky_sasr, ky_svr, ky_sv, ky_sv2, ky_s1, ky_cs, ky_pop, ky_nth, ky_snt, ky_obj, ky_ari, ky_arl, ky_arr, ky_arn, ky_fv, ky_rcv, List.map_cons, List.map_nil, List.drop_succ_cons, List.drop_zero, Value.category, Nat.reduceAdd, Nat.reduceSub, true_and, and_true, true_or, or_true, reduceCtorEq, ite_true, ite_false, eq_self, Nat.reduceEqDiff, Nat.reduceLeDiff, nI_add, nI_1, nI_leI, nI_ltI, nI_eq, nI_clamp, kz_m1, kz_mn, kz_mn2, kz_n0, kz_0n, kz_0, kz_le0, kz_0lt, false_implies, true_implies, not_false_eq_true, not_true_eq_false, Nat.zero_le, kb_0, kz_10, kz_of, ky_sw, kz_mx, kz_mi, e1, e2]) | (refine ⟨vp_in_nI (by omega) (by omega), ?_⟩) | (refine ⟨fun zc => ?_, fun zc => ?_⟩ <;> try (exfalso; omega)) | fail)
  · rw [if_neg (by unfold kdg; omega)] at hQ; exact hQ
  · rw [if_neg (by unfold kdg; omega)] at hQ; exact hQ
  · rw [if_pos (by unfold kdg; omega)] at hQ; exact hQ
theorem kx82m (hQ : Q (.inl (some (.int 0))) f) : ky_cl adK 82 [.int (-1)] f Q := by
  refine ⟨Nat.le_of_ble_eq_true rfl, fun z => absurd z (by decide), ?_⟩; show ky_ok adK 82 0 [some (.int (-1))] [] f 0 0 _
  repeat' (first | (refine ky_ok_stp rfl ?_; simp (disch := first | omega | assumption) only [ky_stp, ky_inv, ky_ldi, ky_ldl, ky_ldd, ky_lda, ky_cl2, ky_st1, ky_st2, ky_s1i, ky_s2i, ky_s1l, ky_s2l, ky_sli, ky_s1f, ky_s2f, ky_s1d, ky_s2d, ky_sr, ky_sai, ky_sasi, ky_sasl, ky_sasr, ky_svr, ky_sv, ky_sv2, ky_s1, ky_cs, ky_pop, ky_nth, ky_snt, ky_obj, ky_ari, ky_arl, ky_arr, ky_arn, ky_fv, ky_rcv, List.map_cons, List.map_nil, List.drop_succ_cons, List.drop_zero, Value.category, Nat.reduceAdd, Nat.reduceSub, true_and, and_true, true_or, or_true, reduceCtorEq, ite_true, ite_false, eq_self, Nat.reduceEqDiff, Nat.reduceLeDiff, nI_add, nI_1, nI_leI, nI_ltI, nI_eq, nI_clamp, kz_m1, kz_mn, kz_mn2, kz_n0, kz_0n, kz_0, kz_le0, kz_0lt, false_implies, true_implies, not_false_eq_true, not_true_eq_false, Nat.zero_le, kb_0, kz_10, kz_of, ky_sw, kz_mx, kz_mi, show ((-1 : Int32) < 48) = True by decide]) | (refine ⟨vp_in_nI (by omega) (by omega), ?_⟩) | (refine ⟨fun zc => ?_, fun zc => ?_⟩ <;> try (exfalso; omega)) | fail)
  exact hQ
theorem kx80 (hb : b < 100000) (hQ : Q (.inl (some (.int (nI (if b = 42 then 3 else if b = 59 then 4 else 5))))) f) : ky_cl adK 80 [.int (nI b)] f Q := by
  have e0 : (nI b = -1) = False := eq_false fun z => by have := nI_pos (n := b) (by omega); rw [z] at this; exact this (by decide)
  have e1 : (42 : Int32) = nI 42 := rfl
  have e2 : (59 : Int32) = nI 59 := rfl
  refine ⟨Nat.le_of_ble_eq_true rfl, fun z => absurd z (by decide), ?_⟩; show ky_ok adK 80 0 [some (.int (nI b))] [] f 0 0 _
  repeat' (first | (refine ky_ok_stp rfl ?_; simp (disch := first | omega | assumption) only [ky_stp, ky_inv, ky_ldi, ky_ldl, ky_ldd, ky_lda, ky_cl2, ky_st1, ky_st2, ky_s1i, ky_s2i, ky_s1l, ky_s2l, ky_sli, ky_s1f, ky_s2f, ky_s1d, ky_s2d, ky_sr, ky_sai, ky_sasi, ky_sasl, ky_sasr, ky_svr, ky_sv, ky_sv2, ky_s1, ky_cs, ky_pop, ky_nth, ky_snt, ky_obj, ky_ari, ky_arl, ky_arr, ky_arn, ky_fv, ky_rcv, List.map_cons, List.map_nil, List.drop_succ_cons, List.drop_zero, Value.category, Nat.reduceAdd, Nat.reduceSub, true_and, and_true, true_or, or_true, reduceCtorEq, ite_true, ite_false, eq_self, Nat.reduceEqDiff, Nat.reduceLeDiff, nI_add, nI_1, nI_leI, nI_ltI, nI_eq, nI_clamp, kz_m1, kz_mn, kz_mn2, kz_n0, kz_0n, kz_0, kz_le0, kz_0lt, false_implies, true_implies, not_false_eq_true, not_true_eq_false, Nat.zero_le, kb_0, kz_10, kz_of, ky_sw, kz_mx, kz_mi, e0, e1, e2]) | (refine ⟨vp_in_nI (by omega) (by omega), ?_⟩) | (refine ⟨fun zc => ?_, fun zc => ?_⟩ <;> try (exfalso; omega)) | fail)
  · rw [if_pos (by assumption)] at hQ; exact hQ
  · rw [if_neg (by assumption), if_pos (by assumption)] at hQ; exact hQ
  · rw [if_neg (by assumption), if_neg (by assumption)] at hQ; exact hQ
theorem kx80m (hQ : Q (.inl (some (.int 0))) f) : ky_cl adK 80 [.int (-1)] f Q := by
  refine ⟨Nat.le_of_ble_eq_true rfl, fun z => absurd z (by decide), ?_⟩; show ky_ok adK 80 0 [some (.int (-1))] [] f 0 0 _
  repeat' (first | (refine ky_ok_stp rfl ?_; simp (disch := first | omega | assumption) only [ky_stp, ky_inv, ky_ldi, ky_ldl, ky_ldd, ky_lda, ky_cl2, ky_st1, ky_st2, ky_s1i, ky_s2i, ky_s1l, ky_s2l, ky_sli, ky_s1f, ky_s2f, ky_s1d, ky_s2d, ky_sr, ky_sai, ky_sasi, ky_sasl, ky_sasr, ky_svr, ky_sv, ky_sv2, ky_s1, ky_cs, ky_pop, ky_nth, ky_snt, ky_obj, ky_ari, ky_arl, ky_arr, ky_arn, ky_fv, ky_rcv, List.map_cons, List.map_nil, List.drop_succ_cons, List.drop_zero, Value.category, Nat.reduceAdd, Nat.reduceSub, true_and, and_true, true_or, or_true, reduceCtorEq, ite_true, ite_false, eq_self, Nat.reduceEqDiff, Nat.reduceLeDiff, nI_add, nI_1, nI_leI, nI_ltI, nI_eq, nI_clamp, kz_m1, kz_mn, kz_mn2, kz_n0, kz_0n, kz_0, kz_le0, kz_0lt, false_implies, true_implies, not_false_eq_true, not_true_eq_false, Nat.zero_le, kb_0, kz_10, kz_of, ky_sw, kz_mx, kz_mi]) | (refine ⟨vp_in_nI (by omega) (by omega), ?_⟩) | (refine ⟨fun zc => ?_, fun zc => ?_⟩ <;> try (exfalso; omega)) | fail)
  exact hQ
theorem kx78 (ha : kI a) (hB : kB a 40 f 700 L c) (hs : s < L) (hl : klt (c s)) {k0 w0 v0 b0 : Value} {bb kk : Int32} (hk : k0 = .int kk) (hw : w0 = .long 0) (hv : v0 = .int 0) (hb : b0 = .int bb) (hT : f (a 46) = some (.inr (7, [k0, .int (nI s), w0, v0, b0, .ref (a 40)])))
    (hQ : ∀ f', kTo a f' c L s → kfr a f f' (fun j => j = 46) → Q (.inl none) f') : ky_cl adK 78 [.ref (a 46)] f Q := by
  subst hk hw hv hb
  obtain ⟨B, h0, h1, h2, h3, h4⟩ := id hB
  have hend : kRn klt c s (L - s) = kTe c L s := by rw [kTe, if_pos hs, if_pos hl]
  have hk1 : kTk c L s = 1 := by rw [kTk, if_pos hs, if_pos hl]
  have hee := kTe_le (c := c) (show s ≤ L by omega)
  have fin : ∀ f i, i = kTe c L s → f (a 46) = some (.inr (7, [.int 1, .int (nI s), .long (kNW (kTl c s (i - s))), .int 0, .int (nI i), .ref (a 40)])) → (∀ f', kTo a f' c L s → kfr a f f' (fun j => j = 46) → Q (.inl none) f') → ky_ok adK 78 88 [some (.ref (a 46))] [] f 0 0 Q := by
    intro f i hi hT hQ
    subst hi
    have e8 := nI_sub (a := kTe c L s) (b := s) (by omega)
    have ev : kTv c L s = 0 := by rw [kTv, if_neg (by omega)]
    repeat' (first | (refine ky_ok_stp rfl ?_; simp (disch := first | omega | assumption) only [ky_stp, ky_inv, ky_ldi, ky_ldl, ky_ldd, ky_lda, ky_cl2, ky_st1, ky_st2, ky_s1i, ky_s2i, ky_s1l, ky_s2l, ky_sli, ky_s1f, ky_s2f, ky_s1d, ky_s2d, ky_sr, ky_sai, ky_sasi, ky_sasl, ky_sasr, ky_svr, ky_sv, ky_sv2, ky_s1, ky_cs, ky_pop, ky_nth, ky_snt, ky_obj, ky_ari, ky_arl, ky_arr, ky_arn, ky_fv, ky_rcv, List.map_cons, List.map_nil, List.drop_succ_cons, List.drop_zero, Value.category, Nat.reduceAdd, Nat.reduceSub, true_and, and_true, true_or, or_true, reduceCtorEq, ite_true, ite_false, eq_self, Nat.reduceEqDiff, Nat.reduceLeDiff, nI_add, nI_1, nI_leI, nI_ltI, nI_eq, nI_clamp, kz_m1, kz_mn, kz_mn2, kz_n0, kz_0n, kz_0, kz_le0, kz_0lt, false_implies, true_implies, not_false_eq_true, not_true_eq_false, Nat.zero_le, kb_0, kz_10, kz_of, ky_sw, kz_mx, kz_mi, hT, e8, kz_8]) | (refine ⟨vp_in_nI (by omega) (by omega), ?_⟩) | (refine ⟨fun zc => ?_, fun zc => ?_⟩ <;> try (exfalso; omega)) | fail)
    · refine hQ f ?_ kfr_rf
      rw [kTo, hT, hk1, kTw, if_pos ⟨hk1, by assumption⟩, ev]; rfl
    · refine hQ _ ?_ (kfr_up ha kfr_rf rfl)
      rw [kTo, kz_same, hk1, kTw, if_neg (fun z => absurd z.2 (by assumption)), kNW_0, ev]; rfl
  have loop : ∀ m i f, i + m = L → s ≤ i → kRn klt c i m = kTe c L s → kB a 40 f 700 L c → f (a 46) = some (.inr (7, [.int 1, .int (nI s), .long (kNW (kTl c s (i - s))), .int 0, .int (nI i), .ref (a 40)])) → (∀ f', kTo a f' c L s → kfr a f f' (fun j => j = 46) → Q (.inl none) f') → ky_ok adK 78 13 [some (.ref (a 46))] [] f 0 0 Q := by
    intro m
    induction m with
    | zero =>
      intro i f hi hsi hr hB hT hQ
      obtain ⟨B, h0, h1, h2, h3, h4⟩ := id hB
      rw [kRn] at hr
      repeat' (first | (refine fin f i hr hT hQ) | (refine ky_ok_stp rfl ?_; simp (disch := first | omega | assumption) only [ky_stp, ky_inv, ky_ldi, ky_ldl, ky_ldd, ky_lda, ky_cl2, ky_st1, ky_st2, ky_s1i, ky_s2i, ky_s1l, ky_s2l, ky_sli, ky_s1f, ky_s2f, ky_s1d, ky_s2d, ky_sr, ky_sai, ky_sasi, ky_sasl, ky_sasr, ky_svr, ky_sv, ky_sv2, ky_s1, ky_cs, ky_pop, ky_nth, ky_snt, ky_obj, ky_ari, ky_arl, ky_arr, ky_arn, ky_fv, ky_rcv, List.map_cons, List.map_nil, List.drop_succ_cons, List.drop_zero, Value.category, Nat.reduceAdd, Nat.reduceSub, true_and, and_true, true_or, or_true, reduceCtorEq, ite_true, ite_false, eq_self, Nat.reduceEqDiff, Nat.reduceLeDiff, nI_add, nI_1, nI_leI, nI_ltI, nI_eq, nI_clamp, kz_m1, kz_mn, kz_mn2, kz_n0, kz_0n, kz_0, kz_le0, kz_0lt, false_implies, true_implies, not_false_eq_true, not_true_eq_false, Nat.zero_le, kb_0, kz_10, kz_of, ky_sw, kz_mx, kz_mi, hT, h0]) | (refine ⟨vp_in_nI (by omega) (by omega), ?_⟩) | (refine ⟨fun zc => ?_, fun zc => ?_⟩ <;> try (exfalso; omega)) | fail)
    | succ m ih =>
      intro i f hi hsi hr hB hT hQ
      obtain ⟨B, h0, h1, h2, h3, h4⟩ := id hB
      have h4i := h4 i (by omega)
      have e8 := nI_sub hsi
      rw [kRn] at hr
      by_cases hl : klt (c i)
      · rw [if_pos hl] at hr
        have el := kTl_len c s (i - s)
        have es := kTl_s c s (i - s)
        rw [show s + (i - s) = i by omega] at es
        (refine ky_ok_stp rfl ?_; simp (disch := first | omega | assumption) only [ky_stp, ky_inv, ky_ldi, ky_ldl, ky_ldd, ky_lda, ky_cl2, ky_st1, ky_st2, ky_s1i, ky_s2i, ky_s1l, ky_s2l, ky_sli, ky_s1f, ky_s2f, ky_s1d, ky_s2d, ky_sr, ky_sai, ky_sasi, ky_sasl, ky_sasr, ky_svr, ky_sv, ky_sv2, ky_s1, ky_cs, ky_pop, ky_nth, ky_snt, ky_obj, ky_ari, ky_arl, ky_arr, ky_arn, ky_fv, ky_rcv, List.map_cons, List.map_nil, List.drop_succ_cons, List.drop_zero, Value.category, Nat.reduceAdd, Nat.reduceSub, true_and, and_true, true_or, or_true, reduceCtorEq, ite_true, ite_false, eq_self, Nat.reduceEqDiff, Nat.reduceLeDiff, nI_add, nI_1, nI_leI, nI_ltI, nI_eq, nI_clamp, kz_m1, kz_mn, kz_mn2, kz_n0, kz_0n, kz_0, kz_le0, kz_0lt, false_implies, true_implies, not_false_eq_true, not_true_eq_false, Nat.zero_le, kb_0, kz_10, kz_of, ky_sw, kz_mx, kz_mi, hT, h0])
        repeat' (first | (refine kx3 hB (by decide) (show i < L by omega) ?_; simp only [ky_aft, ky_vl, Nat.reduceAdd]) | (refine kx137 (show c i < 100000 by omega) ?_; simp only [ky_aft, ky_vl, Nat.reduceAdd]) | (refine kx134l (kTl_len c s (i - s)) h4i (by omega) ?_; simp only [ky_aft, ky_vl, Nat.reduceAdd]) | (refine ih (i + 1) _ (by omega) (by omega) hr ?_ ?_ ?_) | (refine ky_ok_stp rfl ?_; simp (disch := first | omega | assumption) only [ky_stp, ky_inv, ky_ldi, ky_ldl, ky_ldd, ky_lda, ky_cl2, ky_st1, ky_st2, ky_s1i, ky_s2i, ky_s1l, ky_s2l, ky_sli, ky_s1f, ky_s2f, ky_s1d, ky_s2d, ky_sr, ky_sai, ky_sasi, ky_sasl, ky_sasr, ky_svr, ky_sv, ky_sv2, ky_s1, ky_cs, ky_pop, ky_nth, ky_snt, ky_obj, ky_ari, ky_arl, ky_arr, ky_arn, ky_fv, ky_rcv, List.map_cons, List.map_nil, List.drop_succ_cons, List.drop_zero, Value.category, Nat.reduceAdd, Nat.reduceSub, true_and, and_true, true_or, or_true, reduceCtorEq, ite_true, ite_false, eq_self, Nat.reduceEqDiff, Nat.reduceLeDiff, nI_add, nI_1, nI_leI, nI_ltI, nI_eq, nI_clamp, kz_m1, kz_mn, kz_mn2, kz_n0, kz_0n, kz_0, kz_le0, kz_0lt, false_implies, true_implies, not_false_eq_true, not_true_eq_false, Nat.zero_le, kb_0, kz_10, kz_of, ky_sw, kz_mx, kz_mi, hT, h0, if_pos hl, e8, kz_up, kI_ne ha, kz_uu]) | (refine ⟨vp_in_nI (by omega) (by omega), ?_⟩) | (refine ⟨fun zc => ?_, fun zc => ?_⟩ <;> try (exfalso; omega)) | fail)
        · exact kB_fr hB (kz_ne (fun z => absurd (ha _ _ z) (by decide))) (kz_ne (fun z => absurd (ha _ _ z) (by decide)))
        · rw [kz_same, show i + 1 - s = (i - s) + 1 by omega, kTl_s, show s + (i - s) = i by omega]
        · intro f' w1 w2
          exact hQ f' w1 fun j hj => (w2 j hj).trans (kz_ne fun z => hj (ha _ _ z))
      · rw [if_neg hl] at hr
        repeat' (first | (refine kx3 hB (by decide) (show i < L by omega) ?_; simp only [ky_aft, ky_vl, Nat.reduceAdd]) | (refine kx137 (show c i < 100000 by omega) ?_; simp only [ky_aft, ky_vl, Nat.reduceAdd]) | (refine fin f i hr hT hQ) | (refine ky_ok_stp rfl ?_; simp (disch := first | omega | assumption) only [ky_stp, ky_inv, ky_ldi, ky_ldl, ky_ldd, ky_lda, ky_cl2, ky_st1, ky_st2, ky_s1i, ky_s2i, ky_s1l, ky_s2l, ky_sli, ky_s1f, ky_s2f, ky_s1d, ky_s2d, ky_sr, ky_sai, ky_sasi, ky_sasl, ky_sasr, ky_svr, ky_sv, ky_sv2, ky_s1, ky_cs, ky_pop, ky_nth, ky_snt, ky_obj, ky_ari, ky_arl, ky_arr, ky_arn, ky_fv, ky_rcv, List.map_cons, List.map_nil, List.drop_succ_cons, List.drop_zero, Value.category, Nat.reduceAdd, Nat.reduceSub, true_and, and_true, true_or, or_true, reduceCtorEq, ite_true, ite_false, eq_self, Nat.reduceEqDiff, Nat.reduceLeDiff, nI_add, nI_1, nI_leI, nI_ltI, nI_eq, nI_clamp, kz_m1, kz_mn, kz_mn2, kz_n0, kz_0n, kz_0, kz_le0, kz_0lt, false_implies, true_implies, not_false_eq_true, not_true_eq_false, Nat.zero_le, kb_0, kz_10, kz_of, ky_sw, kz_mx, kz_mi, hT, h0, if_neg hl]) | (refine ⟨vp_in_nI (by omega) (by omega), ?_⟩) | (refine ⟨fun zc => ?_, fun zc => ?_⟩ <;> try (exfalso; omega)) | fail)
  have hB' : ∀ e, kB a 40 (ky_up f (a 46) e) 700 L c := fun e => kB_fr hB (kz_ne (fun z => absurd (ha _ _ z) (by decide))) (kz_ne (fun z => absurd (ha _ _ z) (by decide)))
  refine ⟨Nat.le_of_ble_eq_true rfl, fun z => absurd z (by decide), ?_⟩; show ky_ok adK 78 0 [some (.ref (a 46))] [] f 0 0 _
  repeat' (first | (refine loop (L - s) s _ (by omega) (Nat.le_refl _) hend (hB' _) ?_ ?_) | (refine ky_ok_stp rfl ?_; simp (disch := first | omega | assumption) only [ky_stp, ky_inv, ky_ldi, ky_ldl, ky_ldd, ky_lda, ky_cl2, ky_st1, ky_st2, ky_s1i, ky_s2i, ky_s1l, ky_s2l, ky_sli, ky_s1f, ky_s2f, ky_s1d, ky_s2d, ky_sr, ky_sai, ky_sasi, ky_sasl, ky_sasr, ky_svr, ky_sv, ky_sv2, ky_s1, ky_cs, ky_pop, ky_nth, ky_snt, ky_obj, ky_ari, ky_arl, ky_arr, ky_arn, ky_fv, ky_rcv, List.map_cons, List.map_nil, List.drop_succ_cons, List.drop_zero, Value.category, Nat.reduceAdd, Nat.reduceSub, true_and, and_true, true_or, or_true, reduceCtorEq, ite_true, ite_false, eq_self, Nat.reduceEqDiff, Nat.reduceLeDiff, nI_add, nI_1, nI_leI, nI_ltI, nI_eq, nI_clamp, kz_m1, kz_mn, kz_mn2, kz_n0, kz_0n, kz_0, kz_le0, kz_0lt, false_implies, true_implies, not_false_eq_true, not_true_eq_false, Nat.zero_le, kb_0, kz_10, kz_of, ky_sw, kz_mx, kz_mi, hT, kz_up, ite_true, kz_uu]) | (refine ⟨vp_in_nI (by omega) (by omega), ?_⟩) | (refine ⟨fun zc => ?_, fun zc => ?_⟩ <;> try (exfalso; omega)) | fail)
  · rw [kz_same, Nat.sub_self]; rfl
  · intro f' w1 w2
    exact hQ f' w1 fun j hj => (w2 j hj).trans (kz_ne fun z => hj (ha _ _ z))
theorem kVc_le (c : Nat → Nat) : ∀ m i v, v ≤ 1000 → kVc c i m v ≤ 1000
  | 0, i, v, h => h
  | m + 1, i, v, h => by rw [kVc]; exact kVc_le c m (i + 1) _ (by omega)
theorem kx79 (ha : kI a) (hB : kB a 40 f 700 L c) (hs : s < L) (hl : kdg (c s)) {k0 w0 v0 b0 : Value} {bb kk : Int32} (hk : k0 = .int kk) (hw : w0 = .long 0) (hv : v0 = .int 0) (hb : b0 = .int bb) (hT : f (a 46) = some (.inr (7, [k0, .int (nI s), w0, v0, b0, .ref (a 40)])))
    (hQ : ∀ f', kTo a f' c L s → kfr a f f' (fun j => j = 46) → Q (.inl none) f') : ky_cl adK 79 [.ref (a 46)] f Q := by
  subst hk hw hv hb
  obtain ⟨B, h0, h1, h2, h3, h4⟩ := id hB
  have hnl : ¬ klt (c s) := by unfold klt; unfold kdg at hl; omega
  have hend : kRn kdg c s (L - s) = kTe c L s := by rw [kTe, if_pos hs, if_neg hnl, if_pos hl]
  have hk1 : kTk c L s = 2 := by rw [kTk, if_pos hs, if_neg hnl, if_pos hl]
  have hee := kTe_le (c := c) (show s ≤ L by omega)
  have fin : ∀ f i v, i = kTe c L s → v = kTv c L s → f (a 46) = some (.inr (7, [.int 2, .int (nI s), .long 0, .int (nI v), .int (nI i), .ref (a 40)])) → (∀ f', kTo a f' c L s → kfr a f f' (fun j => j = 46) → Q (.inl none) f') → ky_ok adK 79 89 [some (.ref (a 46))] [] f 0 0 Q := by
    intro f i v hi hv hT hQ
    subst hi hv
    repeat' (first | (refine ky_ok_stp rfl ?_; simp (disch := first | omega | assumption) only [ky_stp, ky_inv, ky_ldi, ky_ldl, ky_ldd, ky_lda, ky_cl2, ky_st1, ky_st2, ky_s1i, ky_s2i, ky_s1l, ky_s2l, ky_sli, ky_s1f, ky_s2f, ky_s1d, ky_s2d, ky_sr, ky_sai, ky_sasi, ky_sasl, ky_sasr, ky_svr, ky_sv, ky_sv2, ky_s1, ky_cs, ky_pop, ky_nth, ky_snt, ky_obj, ky_ari, ky_arl, ky_arr, ky_arn, ky_fv, ky_rcv, List.map_cons, List.map_nil, List.drop_succ_cons, List.drop_zero, Value.category, Nat.reduceAdd, Nat.reduceSub, true_and, and_true, true_or, or_true, reduceCtorEq, ite_true, ite_false, eq_self, Nat.reduceEqDiff, Nat.reduceLeDiff, nI_add, nI_1, nI_leI, nI_ltI, nI_eq, nI_clamp, kz_m1, kz_mn, kz_mn2, kz_n0, kz_0n, kz_0, kz_le0, kz_0lt, false_implies, true_implies, not_false_eq_true, not_true_eq_false, Nat.zero_le, kb_0, kz_10, kz_of, ky_sw, kz_mx, kz_mi, hT]) | (refine ⟨vp_in_nI (by omega) (by omega), ?_⟩) | (refine ⟨fun zc => ?_, fun zc => ?_⟩ <;> try (exfalso; omega)) | fail)
    refine hQ f ?_ kfr_rf
    rw [kTo, hT, hk1, kTw, if_neg (fun z => by omega), kNW_0]; rfl
  have loop : ∀ m i v f, i + m = L → s ≤ i → v ≤ 1000 → kRn kdg c i m = kTe c L s → (kVc c i (kTe c L s - i) v = kTv c L s) → kB a 40 f 700 L c → f (a 46) = some (.inr (7, [.int 2, .int (nI s), .long 0, .int (nI v), .int (nI i), .ref (a 40)])) → (∀ f', kTo a f' c L s → kfr a f f' (fun j => j = 46) → Q (.inl none) f') → ky_ok adK 79 13 [some (.ref (a 46))] [] f 0 0 Q := by
    intro m
    induction m with
    | zero =>
      intro i v f hi hsi hv hr hvv hB hT hQ
      obtain ⟨B, h0, h1, h2, h3, h4⟩ := id hB
      rw [kRn] at hr
      rw [hr, Nat.sub_self, kVc] at hvv
      repeat' (first | (refine fin f i v hr hvv hT hQ) | (refine ky_ok_stp rfl ?_; simp (disch := first | omega | assumption) only [ky_stp, ky_inv, ky_ldi, ky_ldl, ky_ldd, ky_lda, ky_cl2, ky_st1, ky_st2, ky_s1i, ky_s2i, ky_s1l, ky_s2l, ky_sli, ky_s1f, ky_s2f, ky_s1d, ky_s2d, ky_sr, ky_sai, ky_sasi, ky_sasl, ky_sasr, ky_svr, ky_sv, ky_sv2, ky_s1, ky_cs, ky_pop, ky_nth, ky_snt, ky_obj, ky_ari, ky_arl, ky_arr, ky_arn, ky_fv, ky_rcv, List.map_cons, List.map_nil, List.drop_succ_cons, List.drop_zero, Value.category, Nat.reduceAdd, Nat.reduceSub, true_and, and_true, true_or, or_true, reduceCtorEq, ite_true, ite_false, eq_self, Nat.reduceEqDiff, Nat.reduceLeDiff, nI_add, nI_1, nI_leI, nI_ltI, nI_eq, nI_clamp, kz_m1, kz_mn, kz_mn2, kz_n0, kz_0n, kz_0, kz_le0, kz_0lt, false_implies, true_implies, not_false_eq_true, not_true_eq_false, Nat.zero_le, kb_0, kz_10, kz_of, ky_sw, kz_mx, kz_mi, hT, h0]) | (refine ⟨vp_in_nI (by omega) (by omega), ?_⟩) | (refine ⟨fun zc => ?_, fun zc => ?_⟩ <;> try (exfalso; omega)) | fail)
    | succ m ih =>
      intro i v f hi hsi hv hr hvv hB hT hQ
      obtain ⟨B, h0, h1, h2, h3, h4⟩ := id hB
      have h4i := h4 i (by omega)
      rw [kRn] at hr
      by_cases hl : kdg (c i)
      · rw [if_pos hl] at hr
        have hle := kRn_le kdg c m (i + 1)
        rw [show kTe c L s - i = (kTe c L s - (i + 1)) + 1 by omega, kVc] at hvv
        have hl' := hl
        unfold kdg at hl'
        have e10 : (10 : Int32) = nI 10 := rfl
        have e48 : (48 : Int32) = nI 48 := rfl
        have e1000 : (1000 : Int32) = nI 1000 := rfl
        have e9 := nI_sub (a := 10 * v + c i) (b := 48) (by omega)
        (refine ky_ok_stp rfl ?_; simp (disch := first | omega | assumption) only [ky_stp, ky_inv, ky_ldi, ky_ldl, ky_ldd, ky_lda, ky_cl2, ky_st1, ky_st2, ky_s1i, ky_s2i, ky_s1l, ky_s2l, ky_sli, ky_s1f, ky_s2f, ky_s1d, ky_s2d, ky_sr, ky_sai, ky_sasi, ky_sasl, ky_sasr, ky_svr, ky_sv, ky_sv2, ky_s1, ky_cs, ky_pop, ky_nth, ky_snt, ky_obj, ky_ari, ky_arl, ky_arr, ky_arn, ky_fv, ky_rcv, List.map_cons, List.map_nil, List.drop_succ_cons, List.drop_zero, Value.category, Nat.reduceAdd, Nat.reduceSub, true_and, and_true, true_or, or_true, reduceCtorEq, ite_true, ite_false, eq_self, Nat.reduceEqDiff, Nat.reduceLeDiff, nI_add, nI_1, nI_leI, nI_ltI, nI_eq, nI_clamp, kz_m1, kz_mn, kz_mn2, kz_n0, kz_0n, kz_0, kz_le0, kz_0lt, false_implies, true_implies, not_false_eq_true, not_true_eq_false, Nat.zero_le, kb_0, kz_10, kz_of, ky_sw, kz_mx, kz_mi, hT, h0])
        repeat' (first | (refine kx3 hB (by decide) (show i < L by omega) ?_; simp only [ky_aft, ky_vl, Nat.reduceAdd]) | (refine kx82 (show c i < 100000 by omega) ?_; simp only [ky_aft, ky_vl, Nat.reduceAdd]) | (refine ih (i + 1) _ _ (by omega) (by omega) (Nat.min_le_right _ 1000) hr hvv ?_ ?_ ?_) | (refine ky_ok_stp rfl ?_; simp (disch := first | omega | assumption) only [ky_stp, ky_inv, ky_ldi, ky_ldl, ky_ldd, ky_lda, ky_cl2, ky_st1, ky_st2, ky_s1i, ky_s2i, ky_s1l, ky_s2l, ky_sli, ky_s1f, ky_s2f, ky_s1d, ky_s2d, ky_sr, ky_sai, ky_sasi, ky_sasl, ky_sasr, ky_svr, ky_sv, ky_sv2, ky_s1, ky_cs, ky_pop, ky_nth, ky_snt, ky_obj, ky_ari, ky_arl, ky_arr, ky_arn, ky_fv, ky_rcv, List.map_cons, List.map_nil, List.drop_succ_cons, List.drop_zero, Value.category, Nat.reduceAdd, Nat.reduceSub, true_and, and_true, true_or, or_true, reduceCtorEq, ite_true, ite_false, eq_self, Nat.reduceEqDiff, Nat.reduceLeDiff, nI_add, nI_1, nI_leI, nI_ltI, nI_eq, nI_clamp, kz_m1, kz_mn, kz_mn2, kz_n0, kz_0n, kz_0, kz_le0, kz_0lt, false_implies, true_implies, not_false_eq_true, not_true_eq_false, Nat.zero_le, kb_0, kz_10, kz_of, ky_sw, kz_mx, kz_mi, hT, h0, if_pos hl, e9, e10, e48, e1000, nI_mul, kz_up, kI_ne ha, kz_uu]) | (refine ⟨vp_in_nI (by omega) (by omega), ?_⟩) | (refine ⟨fun zc => ?_, fun zc => ?_⟩ <;> try (exfalso; omega)) | fail)
        · exact kB_fr hB (kz_ne (fun z => absurd (ha _ _ z) (by decide))) (kz_ne (fun z => absurd (ha _ _ z) (by decide)))
        · rw [kz_same, Nat.min_comm]
        · intro f' w1 w2
          exact hQ f' w1 fun j hj => (w2 j hj).trans (kz_ne fun z => hj (ha _ _ z))
      · rw [if_neg hl] at hr
        rw [hr, Nat.sub_self, kVc] at hvv
        repeat' (first | (refine kx3 hB (by decide) (show i < L by omega) ?_; simp only [ky_aft, ky_vl, Nat.reduceAdd]) | (refine kx82 (show c i < 100000 by omega) ?_; simp only [ky_aft, ky_vl, Nat.reduceAdd]) | (refine fin f i v hr hvv hT hQ) | (refine ky_ok_stp rfl ?_; simp (disch := first | omega | assumption) only [ky_stp, ky_inv, ky_ldi, ky_ldl, ky_ldd, ky_lda, ky_cl2, ky_st1, ky_st2, ky_s1i, ky_s2i, ky_s1l, ky_s2l, ky_sli, ky_s1f, ky_s2f, ky_s1d, ky_s2d, ky_sr, ky_sai, ky_sasi, ky_sasl, ky_sasr, ky_svr, ky_sv, ky_sv2, ky_s1, ky_cs, ky_pop, ky_nth, ky_snt, ky_obj, ky_ari, ky_arl, ky_arr, ky_arn, ky_fv, ky_rcv, List.map_cons, List.map_nil, List.drop_succ_cons, List.drop_zero, Value.category, Nat.reduceAdd, Nat.reduceSub, true_and, and_true, true_or, or_true, reduceCtorEq, ite_true, ite_false, eq_self, Nat.reduceEqDiff, Nat.reduceLeDiff, nI_add, nI_1, nI_leI, nI_ltI, nI_eq, nI_clamp, kz_m1, kz_mn, kz_mn2, kz_n0, kz_0n, kz_0, kz_le0, kz_0lt, false_implies, true_implies, not_false_eq_true, not_true_eq_false, Nat.zero_le, kb_0, kz_10, kz_of, ky_sw, kz_mx, kz_mi, hT, h0, if_neg hl]) | (refine ⟨vp_in_nI (by omega) (by omega), ?_⟩) | (refine ⟨fun zc => ?_, fun zc => ?_⟩ <;> try (exfalso; omega)) | fail)
  have hB' : ∀ e, kB a 40 (ky_up f (a 46) e) 700 L c := fun e => kB_fr hB (kz_ne (fun z => absurd (ha _ _ z) (by decide))) (kz_ne (fun z => absurd (ha _ _ z) (by decide)))
  have hvv : kVc c s (kTe c L s - s) 0 = kTv c L s := by rw [kTv, if_pos hk1]
  refine ⟨Nat.le_of_ble_eq_true rfl, fun z => absurd z (by decide), ?_⟩; show ky_ok adK 79 0 [some (.ref (a 46))] [] f 0 0 _
  repeat' (first | (refine loop (L - s) s 0 _ (by omega) (Nat.le_refl _) (by decide) hend hvv (hB' _) ?_ ?_) | (refine ky_ok_stp rfl ?_; simp (disch := first | omega | assumption) only [ky_stp, ky_inv, ky_ldi, ky_ldl, ky_ldd, ky_lda, ky_cl2, ky_st1, ky_st2, ky_s1i, ky_s2i, ky_s1l, ky_s2l, ky_sli, ky_s1f, ky_s2f, ky_s1d, ky_s2d, ky_sr, ky_sai, ky_sasi, ky_sasl, ky_sasr, ky_svr, ky_sv, ky_sv2, ky_s1, ky_cs, ky_pop, ky_nth, ky_snt, ky_obj, ky_ari, ky_arl, ky_arr, ky_arn, ky_fv, ky_rcv, List.map_cons, List.map_nil, List.drop_succ_cons, List.drop_zero, Value.category, Nat.reduceAdd, Nat.reduceSub, true_and, and_true, true_or, or_true, reduceCtorEq, ite_true, ite_false, eq_self, Nat.reduceEqDiff, Nat.reduceLeDiff, nI_add, nI_1, nI_leI, nI_ltI, nI_eq, nI_clamp, kz_m1, kz_mn, kz_mn2, kz_n0, kz_0n, kz_0, kz_le0, kz_0lt, false_implies, true_implies, not_false_eq_true, not_true_eq_false, Nat.zero_le, kb_0, kz_10, kz_of, ky_sw, kz_mx, kz_mi, hT, kz_up, ite_true, kz_uu]) | (refine ⟨vp_in_nI (by omega) (by omega), ?_⟩) | (refine ⟨fun zc => ?_, fun zc => ?_⟩ <;> try (exfalso; omega)) | fail)
  · rw [kz_same]; rfl
  · intro f' w1 w2
    exact hQ f' w1 fun j hj => (w2 j hj).trans (kz_ne fun z => hj (ha _ _ z))
/-- a token, whatever it tells, that ends at b -/
def kTb (a : Nat → Nat) (f : ky_H) (b : Nat) : Prop := ∃ k s v : Int32, ∃ w : Int64, f (a 46) = some (.inr (7, [.int k, .int s, .long w, .int v, .int (nI b), .ref (a 40)]))
theorem kTo_b {c : Nat → Nat} {L s : Nat} (h : kTo a f c L s) : kTb a f (kTe c L s) := ⟨_, _, _, _, h⟩
theorem kTs_s {c : Nat → Nat} {L b : Nat} (hb : b < L) (h : ksp (c b)) : kTs c L b = kTs c L (b + 1) := by
  rw [kTs, kTs, show L - b = (L - (b + 1)) + 1 by omega, kRn, if_pos h]
theorem kTs_n {c : Nat → Nat} {L b : Nat} (h : b < L → ¬ ksp (c b)) (hb : b ≤ L) : kTs c L b = b := by
  unfold kTs
  cases hm : L - b with
  | zero => rfl
  | succ m => rw [kRn, if_neg (h (by omega))]
theorem kx77 (ha : kI a) (hB : kB a 40 f 700 L c) (hb : b ≤ L) (hT : kTb a f b) (hQ : ∀ f', kTo a f' c L (kTs c L b) → kfr a f f' (fun j => j = 46) → Q (.inl none) f') : ky_cl adK 77 [.ref (a 46)] f Q := by
  obtain ⟨kd, sd, vd, wd, hT⟩ := hT
  have hBu : ∀ f e, kB a 40 f 700 L c → kB a 40 (ky_up f (a 46) e) 700 L c := fun f e hB => kB_fr hB (kz_ne (fun z => absurd (ha _ _ z) (by decide))) (kz_ne (fun z => absurd (ha _ _ z) (by decide)))
  have tail : ∀ f i, i = kTs c L b → i ≤ L → kB a 40 f 700 L c → (∃ kd wd vd bd, f (a 46) = some (.inr (7, [.int kd, .int (nI i), .long wd, .int vd, .int bd, .ref (a 40)]))) → (∀ f', kTo a f' c L (kTs c L b) → kfr a f f' (fun j => j = 46) → Q (.inl none) f') → ky_ok adK 77 52 [some (.ref (a 46)), none] [] f 0 0 Q := by
    intro f i hi hiL hB ⟨kd, wd, vd, bd, hT⟩ hQ
    obtain ⟨B, h0, h1, h2, h3, h4⟩ := id hB
    rw [← hi] at hQ
    by_cases hlt : i < L
    · have h4i := h4 i hlt
      by_cases hl : klt (c i)
      · repeat' (first | (refine kx3 (hBu _ _ hB) (by decide) hlt ?_; simp only [ky_aft, ky_vl, Nat.reduceAdd]) | (refine kx137 (show c i < 100000 by omega) ?_; simp only [ky_aft, ky_vl, Nat.reduceAdd]) | (refine ky_ok_stp rfl ?_; simp (disch := first | omega | assumption) only [ky_stp, ky_inv, ky_ldi, ky_ldl, ky_ldd, ky_lda, ky_cl2, ky_st1, ky_st2, ky_s1i, ky_s2i, ky_s1l, ky_s2l, ky_sli, ky_s1f, ky_s2f, ky_s1d, ky_s2d, ky_sr, ky_sai, ky_sasi, ky_sasl, ky_sasr, ky_svr, ky_sv, ky_sv2, ky_s1, ky_cs, ky_pop, ky_nth, ky_snt, ky_obj, ky_ari, ky_arl, ky_arr, ky_arn, ky_fv, ky_rcv, List.map_cons, List.map_nil, List.drop_succ_cons, List.drop_zero, Value.category, Nat.reduceAdd, Nat.reduceSub, true_and, and_true, true_or, or_true, reduceCtorEq, ite_true, ite_false, eq_self, Nat.reduceEqDiff, Nat.reduceLeDiff, nI_add, nI_1, nI_leI, nI_ltI, nI_eq, nI_clamp, kz_m1, kz_mn, kz_mn2, kz_n0, kz_0n, kz_0, kz_le0, kz_0lt, false_implies, true_implies, not_false_eq_true, not_true_eq_false, Nat.zero_le, kb_0, kz_10, kz_of, ky_sw, kz_mx, kz_mi, hT, h0, kz_up, kI_ne ha, kz_uu, if_pos hl]) | (refine ⟨vp_in_nI (by omega) (by omega), ?_⟩) | (refine ⟨fun zc => ?_, fun zc => ?_⟩ <;> try (exfalso; omega)) | fail)
        refine kx78 (f := ky_up f (a 46) _) ha (hBu _ _ hB) hlt hl rfl rfl rfl rfl kz_same (fun f' w1 w2 => ?_)
        simp only [ky_aft, ky_vl, Nat.reduceAdd]
        repeat' (first | (refine ky_ok_stp rfl ?_; simp (disch := first | omega | assumption) only [ky_stp, ky_inv, ky_ldi, ky_ldl, ky_ldd, ky_lda, ky_cl2, ky_st1, ky_st2, ky_s1i, ky_s2i, ky_s1l, ky_s2l, ky_sli, ky_s1f, ky_s2f, ky_s1d, ky_s2d, ky_sr, ky_sai, ky_sasi, ky_sasl, ky_sasr, ky_svr, ky_sv, ky_sv2, ky_s1, ky_cs, ky_pop, ky_nth, ky_snt, ky_obj, ky_ari, ky_arl, ky_arr, ky_arn, ky_fv, ky_rcv, List.map_cons, List.map_nil, List.drop_succ_cons, List.drop_zero, Value.category, Nat.reduceAdd, Nat.reduceSub, true_and, and_true, true_or, or_true, reduceCtorEq, ite_true, ite_false, eq_self, Nat.reduceEqDiff, Nat.reduceLeDiff, nI_add, nI_1, nI_leI, nI_ltI, nI_eq, nI_clamp, kz_m1, kz_mn, kz_mn2, kz_n0, kz_0n, kz_0, kz_le0, kz_0lt, false_implies, true_implies, not_false_eq_true, not_true_eq_false, Nat.zero_le, kb_0, kz_10, kz_of, ky_sw, kz_mx, kz_mi]) | (refine ⟨vp_in_nI (by omega) (by omega), ?_⟩) | (refine ⟨fun zc => ?_, fun zc => ?_⟩ <;> try (exfalso; omega)) | fail)
        exact hQ _ w1 fun j hj => (w2 j hj).trans (kz_ne fun z => hj (ha _ _ z))
      · by_cases hd : kdg (c i)
        · repeat' (first | (refine kx3 (hBu _ _ hB) (by decide) hlt ?_; simp only [ky_aft, ky_vl, Nat.reduceAdd]) | (refine kx137 (show c i < 100000 by omega) ?_; simp only [ky_aft, ky_vl, Nat.reduceAdd]) | (refine kx82 (show c i < 100000 by omega) ?_; simp only [ky_aft, ky_vl, Nat.reduceAdd]) | (refine ky_ok_stp rfl ?_; simp (disch := first | omega | assumption) only [ky_stp, ky_inv, ky_ldi, ky_ldl, ky_ldd, ky_lda, ky_cl2, ky_st1, ky_st2, ky_s1i, ky_s2i, ky_s1l, ky_s2l, ky_sli, ky_s1f, ky_s2f, ky_s1d, ky_s2d, ky_sr, ky_sai, ky_sasi, ky_sasl, ky_sasr, ky_svr, ky_sv, ky_sv2, ky_s1, ky_cs, ky_pop, ky_nth, ky_snt, ky_obj, ky_ari, ky_arl, ky_arr, ky_arn, ky_fv, ky_rcv, List.map_cons, List.map_nil, List.drop_succ_cons, List.drop_zero, Value.category, Nat.reduceAdd, Nat.reduceSub, true_and, and_true, true_or, or_true, reduceCtorEq, ite_true, ite_false, eq_self, Nat.reduceEqDiff, Nat.reduceLeDiff, nI_add, nI_1, nI_leI, nI_ltI, nI_eq, nI_clamp, kz_m1, kz_mn, kz_mn2, kz_n0, kz_0n, kz_0, kz_le0, kz_0lt, false_implies, true_implies, not_false_eq_true, not_true_eq_false, Nat.zero_le, kb_0, kz_10, kz_of, ky_sw, kz_mx, kz_mi, hT, h0, kz_up, kI_ne ha, kz_uu, if_neg hl, if_pos hd]) | (refine ⟨vp_in_nI (by omega) (by omega), ?_⟩) | (refine ⟨fun zc => ?_, fun zc => ?_⟩ <;> try (exfalso; omega)) | fail)
          refine kx79 (f := ky_up f (a 46) _) ha (hBu _ _ hB) hlt hd rfl rfl rfl rfl kz_same (fun f' w1 w2 => ?_)
          simp only [ky_aft, ky_vl, Nat.reduceAdd]
          repeat' (first | (refine ky_ok_stp rfl ?_; simp (disch := first | omega | assumption) only [ky_stp, ky_inv, ky_ldi, ky_ldl, ky_ldd, ky_lda, ky_cl2, ky_st1, ky_st2, ky_s1i, ky_s2i, ky_s1l, ky_s2l, ky_sli, ky_s1f, ky_s2f, ky_s1d, ky_s2d, ky_sr, ky_sai, ky_sasi, ky_sasl, ky_sasr, ky_svr, ky_sv, ky_sv2, ky_s1, ky_cs, ky_pop, ky_nth, ky_snt, ky_obj, ky_ari, ky_arl, ky_arr, ky_arn, ky_fv, ky_rcv, List.map_cons, List.map_nil, List.drop_succ_cons, List.drop_zero, Value.category, Nat.reduceAdd, Nat.reduceSub, true_and, and_true, true_or, or_true, reduceCtorEq, ite_true, ite_false, eq_self, Nat.reduceEqDiff, Nat.reduceLeDiff, nI_add, nI_1, nI_leI, nI_ltI, nI_eq, nI_clamp, kz_m1, kz_mn, kz_mn2, kz_n0, kz_0n, kz_0, kz_le0, kz_0lt, false_implies, true_implies, not_false_eq_true, not_true_eq_false, Nat.zero_le, kb_0, kz_10, kz_of, ky_sw, kz_mx, kz_mi]) | (refine ⟨vp_in_nI (by omega) (by omega), ?_⟩) | (refine ⟨fun zc => ?_, fun zc => ?_⟩ <;> try (exfalso; omega)) | fail)
          exact hQ _ w1 fun j hj => (w2 j hj).trans (kz_ne fun z => hj (ha _ _ z))
        · repeat' (first | (refine kx3 (hBu _ _ hB) (by decide) hlt ?_; simp only [ky_aft, ky_vl, Nat.reduceAdd]) | (refine kx137 (show c i < 100000 by omega) ?_; simp only [ky_aft, ky_vl, Nat.reduceAdd]) | (refine kx82 (show c i < 100000 by omega) ?_; simp only [ky_aft, ky_vl, Nat.reduceAdd]) | (refine kx80 (show c i < 100000 by omega) ?_; simp only [ky_aft, ky_vl, Nat.reduceAdd]) | (refine ky_ok_stp rfl ?_; simp (disch := first | omega | assumption) only [ky_stp, ky_inv, ky_ldi, ky_ldl, ky_ldd, ky_lda, ky_cl2, ky_st1, ky_st2, ky_s1i, ky_s2i, ky_s1l, ky_s2l, ky_sli, ky_s1f, ky_s2f, ky_s1d, ky_s2d, ky_sr, ky_sai, ky_sasi, ky_sasl, ky_sasr, ky_svr, ky_sv, ky_sv2, ky_s1, ky_cs, ky_pop, ky_nth, ky_snt, ky_obj, ky_ari, ky_arl, ky_arr, ky_arn, ky_fv, ky_rcv, List.map_cons, List.map_nil, List.drop_succ_cons, List.drop_zero, Value.category, Nat.reduceAdd, Nat.reduceSub, true_and, and_true, true_or, or_true, reduceCtorEq, ite_true, ite_false, eq_self, Nat.reduceEqDiff, Nat.reduceLeDiff, nI_add, nI_1, nI_leI, nI_ltI, nI_eq, nI_clamp, kz_m1, kz_mn, kz_mn2, kz_n0, kz_0n, kz_0, kz_le0, kz_0lt, false_implies, true_implies, not_false_eq_true, not_true_eq_false, Nat.zero_le, kb_0, kz_10, kz_of, ky_sw, kz_mx, kz_mi, hT, h0, kz_up, kI_ne ha, kz_uu, if_neg hl, if_neg hd]) | (refine ⟨vp_in_nI (by omega) (by omega), ?_⟩) | (refine ⟨fun zc => ?_, fun zc => ?_⟩ <;> try (exfalso; omega)) | fail)
          refine hQ _ ?_ (kfr_up ha kfr_rf rfl)
          have ek : kTk c L i = if c i = 42 then 3 else if c i = 59 then 4 else 5 := by rw [kTk, if_pos hlt, if_neg hl, if_neg hd]
          have ek2 : ¬ kTk c L i = 1 ∧ ¬ kTk c L i = 2 := by
            rw [ek]
            by_cases g1 : c i = 42
            · rw [if_pos g1]; decide
            · rw [if_neg g1]
              by_cases g2 : c i = 59
              · rw [if_pos g2]; decide
              · rw [if_neg g2]; decide
          have q1 : kTw c L i = [] := by rw [kTw, if_neg (fun z => ek2.1 z.1)]
          have q2 : kTv c L i = 0 := by rw [kTv, if_neg ek2.2]
          have q3 : kTe c L i = i + 1 := by rw [kTe, if_pos hlt, if_neg hl, if_neg hd]
          rw [kTo, kz_same, q1, q2, q3, kNW_0, show min (i + 1) L = i + 1 by omega, ek]
          rfl
    · have hiL : i = L := by omega
      have hx3 := fun Q' f hB hq => @kx3e adK a 40 700 L i f c Q' hB (by decide) (show L ≤ i by omega) (by have := h2; omega) hq
      repeat' (first | ((refine hx3 _ _ (hBu _ _ hB) ?_; simp only [ky_aft, ky_vl, Nat.reduceAdd])) | (refine kx137m ?_; simp only [ky_aft, ky_vl, Nat.reduceAdd]) | (refine kx82m ?_; simp only [ky_aft, ky_vl, Nat.reduceAdd]) | (refine kx80m ?_; simp only [ky_aft, ky_vl, Nat.reduceAdd]) | (refine ky_ok_stp rfl ?_; simp (disch := first | omega | assumption) only [ky_stp, ky_inv, ky_ldi, ky_ldl, ky_ldd, ky_lda, ky_cl2, ky_st1, ky_st2, ky_s1i, ky_s2i, ky_s1l, ky_s2l, ky_sli, ky_s1f, ky_s2f, ky_s1d, ky_s2d, ky_sr, ky_sai, ky_sasi, ky_sasl, ky_sasr, ky_svr, ky_sv, ky_sv2, ky_s1, ky_cs, ky_pop, ky_nth, ky_snt, ky_obj, ky_ari, ky_arl, ky_arr, ky_arn, ky_fv, ky_rcv, List.map_cons, List.map_nil, List.drop_succ_cons, List.drop_zero, Value.category, Nat.reduceAdd, Nat.reduceSub, true_and, and_true, true_or, or_true, reduceCtorEq, ite_true, ite_false, eq_self, Nat.reduceEqDiff, Nat.reduceLeDiff, nI_add, nI_1, nI_leI, nI_ltI, nI_eq, nI_clamp, kz_m1, kz_mn, kz_mn2, kz_n0, kz_0n, kz_0, kz_le0, kz_0lt, false_implies, true_implies, not_false_eq_true, not_true_eq_false, Nat.zero_le, kb_0, kz_10, kz_of, ky_sw, kz_mx, kz_mi, hT, h0, kz_up, kI_ne ha, kz_uu]) | (refine ⟨vp_in_nI (by omega) (by omega), ?_⟩) | (refine ⟨fun zc => ?_, fun zc => ?_⟩ <;> try (exfalso; omega)) | fail)
      refine hQ _ ?_ (kfr_up ha kfr_rf rfl)
      have ek : kTk c L i = 0 := by rw [kTk, if_neg (by omega)]
      have q1 : kTw c L i = [] := by rw [kTw, if_neg (fun z => by omega)]
      have q2 : kTv c L i = 0 := by rw [kTv, if_neg (by omega)]
      have q3 : kTe c L i = L := by rw [kTe, if_neg (by omega)]
      rw [kTo, kz_same, q1, q2, q3, kNW_0, show min (i + 1) L = L by omega, ek]
      rfl
  have loop : ∀ m i f, i + m = L → kTs c L i = kTs c L b → kB a 40 f 700 L c → (∃ kd wd vd bd, f (a 46) = some (.inr (7, [.int kd, .int (nI i), .long wd, .int vd, .int bd, .ref (a 40)]))) → (∀ f', kTo a f' c L (kTs c L b) → kfr a f f' (fun j => j = 46) → Q (.inl none) f') → ky_ok adK 77 8 [some (.ref (a 46)), none] [] f 0 0 Q := by
    intro m
    induction m with
    | zero =>
      intro i f hi he hB hTT hQ
      obtain ⟨kd, wd, vd, bd, hT⟩ := id hTT
      obtain ⟨B, h0, h1, h2, h3, h4⟩ := id hB
      rw [kTs_n (fun z => by omega) (by omega)] at he
      repeat' (first | (refine tail f i he (by omega) hB hTT hQ) | (refine ky_ok_stp rfl ?_; simp (disch := first | omega | assumption) only [ky_stp, ky_inv, ky_ldi, ky_ldl, ky_ldd, ky_lda, ky_cl2, ky_st1, ky_st2, ky_s1i, ky_s2i, ky_s1l, ky_s2l, ky_sli, ky_s1f, ky_s2f, ky_s1d, ky_s2d, ky_sr, ky_sai, ky_sasi, ky_sasl, ky_sasr, ky_svr, ky_sv, ky_sv2, ky_s1, ky_cs, ky_pop, ky_nth, ky_snt, ky_obj, ky_ari, ky_arl, ky_arr, ky_arn, ky_fv, ky_rcv, List.map_cons, List.map_nil, List.drop_succ_cons, List.drop_zero, Value.category, Nat.reduceAdd, Nat.reduceSub, true_and, and_true, true_or, or_true, reduceCtorEq, ite_true, ite_false, eq_self, Nat.reduceEqDiff, Nat.reduceLeDiff, nI_add, nI_1, nI_leI, nI_ltI, nI_eq, nI_clamp, kz_m1, kz_mn, kz_mn2, kz_n0, kz_0n, kz_0, kz_le0, kz_0lt, false_implies, true_implies, not_false_eq_true, not_true_eq_false, Nat.zero_le, kb_0, kz_10, kz_of, ky_sw, kz_mx, kz_mi, hT, h0]) | (refine ⟨vp_in_nI (by omega) (by omega), ?_⟩) | (refine ⟨fun zc => ?_, fun zc => ?_⟩ <;> try (exfalso; omega)) | fail)
    | succ m ih =>
      intro i f hi he hB hTT hQ
      obtain ⟨kd, wd, vd, bd, hT⟩ := id hTT
      obtain ⟨B, h0, h1, h2, h3, h4⟩ := id hB
      have h4i := h4 i (by omega)
      by_cases hl : ksp (c i)
      · rw [kTs_s (by omega) hl] at he
        (refine ky_ok_stp rfl ?_; simp (disch := first | omega | assumption) only [ky_stp, ky_inv, ky_ldi, ky_ldl, ky_ldd, ky_lda, ky_cl2, ky_st1, ky_st2, ky_s1i, ky_s2i, ky_s1l, ky_s2l, ky_sli, ky_s1f, ky_s2f, ky_s1d, ky_s2d, ky_sr, ky_sai, ky_sasi, ky_sasl, ky_sasr, ky_svr, ky_sv, ky_sv2, ky_s1, ky_cs, ky_pop, ky_nth, ky_snt, ky_obj, ky_ari, ky_arl, ky_arr, ky_arn, ky_fv, ky_rcv, List.map_cons, List.map_nil, List.drop_succ_cons, List.drop_zero, Value.category, Nat.reduceAdd, Nat.reduceSub, true_and, and_true, true_or, or_true, reduceCtorEq, ite_true, ite_false, eq_self, Nat.reduceEqDiff, Nat.reduceLeDiff, nI_add, nI_1, nI_leI, nI_ltI, nI_eq, nI_clamp, kz_m1, kz_mn, kz_mn2, kz_n0, kz_0n, kz_0, kz_le0, kz_0lt, false_implies, true_implies, not_false_eq_true, not_true_eq_false, Nat.zero_le, kb_0, kz_10, kz_of, ky_sw, kz_mx, kz_mi, hT, h0])
        repeat' (first | (refine kx3 hB (by decide) (show i < L by omega) ?_; simp only [ky_aft, ky_vl, Nat.reduceAdd]) | (refine kx81 (show c i < 100000 by omega) ?_; simp only [ky_aft, ky_vl, Nat.reduceAdd]) | (refine ih (i + 1) _ (by omega) he (hBu _ _ hB) ⟨_, _, _, _, kz_same⟩ ?_) | (refine ky_ok_stp rfl ?_; simp (disch := first | omega | assumption) only [ky_stp, ky_inv, ky_ldi, ky_ldl, ky_ldd, ky_lda, ky_cl2, ky_st1, ky_st2, ky_s1i, ky_s2i, ky_s1l, ky_s2l, ky_sli, ky_s1f, ky_s2f, ky_s1d, ky_s2d, ky_sr, ky_sai, ky_sasi, ky_sasl, ky_sasr, ky_svr, ky_sv, ky_sv2, ky_s1, ky_cs, ky_pop, ky_nth, ky_snt, ky_obj, ky_ari, ky_arl, ky_arr, ky_arn, ky_fv, ky_rcv, List.map_cons, List.map_nil, List.drop_succ_cons, List.drop_zero, Value.category, Nat.reduceAdd, Nat.reduceSub, true_and, and_true, true_or, or_true, reduceCtorEq, ite_true, ite_false, eq_self, Nat.reduceEqDiff, Nat.reduceLeDiff, nI_add, nI_1, nI_leI, nI_ltI, nI_eq, nI_clamp, kz_m1, kz_mn, kz_mn2, kz_n0, kz_0n, kz_0, kz_le0, kz_0lt, false_implies, true_implies, not_false_eq_true, not_true_eq_false, Nat.zero_le, kb_0, kz_10, kz_of, ky_sw, kz_mx, kz_mi, hT, h0, if_pos hl, kz_up, kI_ne ha, kz_uu]) | (refine ⟨vp_in_nI (by omega) (by omega), ?_⟩) | (refine ⟨fun zc => ?_, fun zc => ?_⟩ <;> try (exfalso; omega)) | fail)
        intro f' w1 w2
        exact hQ f' w1 fun j hj => (w2 j hj).trans (kz_ne fun z => hj (ha _ _ z))
      · rw [kTs_n (fun _ => hl) (by omega)] at he
        repeat' (first | (refine kx3 hB (by decide) (show i < L by omega) ?_; simp only [ky_aft, ky_vl, Nat.reduceAdd]) | (refine kx81 (show c i < 100000 by omega) ?_; simp only [ky_aft, ky_vl, Nat.reduceAdd]) | (refine tail f i he (by omega) hB hTT hQ) | (refine ky_ok_stp rfl ?_; simp (disch := first | omega | assumption) only [ky_stp, ky_inv, ky_ldi, ky_ldl, ky_ldd, ky_lda, ky_cl2, ky_st1, ky_st2, ky_s1i, ky_s2i, ky_s1l, ky_s2l, ky_sli, ky_s1f, ky_s2f, ky_s1d, ky_s2d, ky_sr, ky_sai, ky_sasi, ky_sasl, ky_sasr, ky_svr, ky_sv, ky_sv2, ky_s1, ky_cs, ky_pop, ky_nth, ky_snt, ky_obj, ky_ari, ky_arl, ky_arr, ky_arn, ky_fv, ky_rcv, List.map_cons, List.map_nil, List.drop_succ_cons, List.drop_zero, Value.category, Nat.reduceAdd, Nat.reduceSub, true_and, and_true, true_or, or_true, reduceCtorEq, ite_true, ite_false, eq_self, Nat.reduceEqDiff, Nat.reduceLeDiff, nI_add, nI_1, nI_leI, nI_ltI, nI_eq, nI_clamp, kz_m1, kz_mn, kz_mn2, kz_n0, kz_0n, kz_0, kz_le0, kz_0lt, false_implies, true_implies, not_false_eq_true, not_true_eq_false, Nat.zero_le, kb_0, kz_10, kz_of, ky_sw, kz_mx, kz_mi, hT, h0, if_neg hl]) | (refine ⟨vp_in_nI (by omega) (by omega), ?_⟩) | (refine ⟨fun zc => ?_, fun zc => ?_⟩ <;> try (exfalso; omega)) | fail)
  refine ⟨Nat.le_of_ble_eq_true rfl, fun z => absurd z (by decide), ?_⟩; show ky_ok adK 77 0 [some (.ref (a 46)), none] [] f 0 0 _
  repeat' (first | (refine loop (L - b) b _ (by omega) rfl (hBu _ _ hB) ⟨_, _, _, _, kz_same⟩ ?_) | (refine ky_ok_stp rfl ?_; simp (disch := first | omega | assumption) only [ky_stp, ky_inv, ky_ldi, ky_ldl, ky_ldd, ky_lda, ky_cl2, ky_st1, ky_st2, ky_s1i, ky_s2i, ky_s1l, ky_s2l, ky_sli, ky_s1f, ky_s2f, ky_s1d, ky_s2d, ky_sr, ky_sai, ky_sasi, ky_sasl, ky_sasr, ky_svr, ky_sv, ky_sv2, ky_s1, ky_cs, ky_pop, ky_nth, ky_snt, ky_obj, ky_ari, ky_arl, ky_arr, ky_arn, ky_fv, ky_rcv, List.map_cons, List.map_nil, List.drop_succ_cons, List.drop_zero, Value.category, Nat.reduceAdd, Nat.reduceSub, true_and, and_true, true_or, or_true, reduceCtorEq, ite_true, ite_false, eq_self, Nat.reduceEqDiff, Nat.reduceLeDiff, nI_add, nI_1, nI_leI, nI_ltI, nI_eq, nI_clamp, kz_m1, kz_mn, kz_mn2, kz_n0, kz_0n, kz_0, kz_le0, kz_0lt, false_implies, true_implies, not_false_eq_true, not_true_eq_false, Nat.zero_le, kb_0, kz_10, kz_of, ky_sw, kz_mx, kz_mi, hT, kz_up, kI_ne ha, kz_uu]) | (refine ⟨vp_in_nI (by omega) (by omega), ?_⟩) | (refine ⟨fun zc => ?_, fun zc => ?_⟩ <;> try (exfalso; omega)) | fail)
  intro f' w1 w2
  exact hQ f' w1 fun j hj => (w2 j hj).trans (kz_ne fun z => hj (ha _ _ z))
end KXT
