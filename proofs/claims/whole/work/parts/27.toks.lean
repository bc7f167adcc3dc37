-- deps: 24.tokn 25.keep
/-! ## words of tokens -/
def kIx (wd : Int64) : List Nat → Nat → List Nat → Int32
  | [], idx, cur => if kNW cur = wd then nI idx else -1
  | b :: T, idx, cur => if b = 32 then (if kNW cur = wd then nI idx else kIx wd T (idx + 1) []) else kIx wd T idx (cur ++ [b])
def kIw : List (List Nat) → List Nat → Nat → Int32
  | [], _, _ => -1
  | W :: r, w, i => if w = W then nI i else kIw r w (i + 1)
def kJn : List (List Nat) → List Nat
  | [] => []
  | [W] => W
  | W :: V :: r => W ++ 32 :: kJn (V :: r)
def kWb (w : List Nat) : Prop := w.length ≤ 8 ∧ ∀ b ∈ w, 0 < b ∧ b < 256 ∧ b ≠ 32
theorem kNW_inj {w w' : List Nat} (h : w.length ≤ 8) (hb : ∀ b ∈ w, 0 < b ∧ b < 256) (h' : w'.length ≤ 8) (hb' : ∀ b ∈ w', 0 < b ∧ b < 256) (e : kNW w = kNW w') : w = w' := by
  have h1 := kpS_inj (kpad_b fun b z => (hb b z).2) (by rw [kpad_len]; omega) (kpad_b fun b z => (hb' b z).2) (by rw [kpad_len]; omega) e
  have hd : ∀ j, j < 8 → w.getD j 0 = w'.getD j 0 := by
    intro j hj
    have g1 := kpN_dig (kpad w) (7 - j) (kpad_b fun b z => (hb b z).2) (by rw [kpad_len]; omega)
    have g2 := kpN_dig (kpad w') (7 - j) (kpad_b fun b z => (hb' b z).2) (by rw [kpad_len]; omega)
    rw [h1, g2, kpad_len, kpad_len, show 8 - 1 - (7 - j) = j by omega, kpad_get _ hj, kpad_get _ hj] at g1
    exact g1.symm
  have pos : ∀ (w : List Nat), (∀ b ∈ w, 0 < b ∧ b < 256) → ∀ j, j < w.length → 0 < w.getD j 0 := by
    intro w hb j hj
    rw [List.getD_eq_getElem?_getD, List.getElem?_eq_getElem hj]
    exact (hb _ (List.getElem_mem hj)).1
  have zer : ∀ (w : List Nat) j, w.length ≤ j → w.getD j 0 = 0 := by
    intro w j hj
    rw [List.getD_eq_getElem?_getD, List.getElem?_eq_none hj]; rfl
  have hl : w.length = w'.length := by
    rcases Nat.lt_trichotomy w.length w'.length with g | g | g
    · have a1 := pos w' hb' w.length g
      rw [← hd _ (by omega), zer w _ (Nat.le_refl _)] at a1
      exact absurd a1 (Nat.lt_irrefl 0)
    · exact g
    · have a1 := pos w hb w'.length g
      rw [hd _ (by omega), zer w' _ (Nat.le_refl _)] at a1
      exact absurd a1 (Nat.lt_irrefl 0)
  refine List.ext_getElem hl fun i h1 h2 => ?_
  have := hd i (by omega)
  rw [List.getD_eq_getElem?_getD, List.getD_eq_getElem?_getD, List.getElem?_eq_getElem h1, List.getElem?_eq_getElem h2] at this
  exact this
theorem kIx_app {wd : Int64} : ∀ (W r : List Nat) idx cur, (∀ b ∈ W, b ≠ 32) → kIx wd (W ++ r) idx cur = kIx wd r idx (cur ++ W)
  | [], r, idx, cur, _ => by rw [List.nil_append, List.append_nil]
  | b :: W, r, idx, cur, h => by
    rw [List.cons_append, kIx, if_neg (h b List.mem_cons_self), kIx_app W r idx _ fun x hx => h x (List.mem_cons_of_mem _ hx), List.append_assoc]; rfl
theorem kIx_ok {w : List Nat} (hw : kWb w) : ∀ (Ws : List (List Nat)) idx, Ws ≠ [] → (∀ W ∈ Ws, kWb W) → kIx (kNW w) (kJn Ws) idx [] = kIw Ws w idx
  | [], _, h, _ => absurd rfl h
  | [W], idx, _, hW => by
    have hW0 := hW W List.mem_cons_self
    have := kIx_app (wd := kNW w) W [] idx [] fun b hb => (hW0.2 b hb).2.2
    rw [List.append_nil, List.nil_append] at this
    rw [kJn, this, kIx, kIw, kIw]
    by_cases e : w = W
    · rw [if_pos e, if_pos (by rw [e])]
    · rw [if_neg e, if_neg fun z => e (kNW_inj hw.1 (fun b hb => ⟨(hw.2 b hb).1, (hw.2 b hb).2.1⟩) hW0.1 (fun b hb => ⟨(hW0.2 b hb).1, (hW0.2 b hb).2.1⟩) z.symm)]
  | W :: V :: r, idx, _, hW => by
    have hW0 := hW W List.mem_cons_self
    have := kIx_app (wd := kNW w) W (32 :: kJn (V :: r)) idx [] fun b hb => (hW0.2 b hb).2.2
    rw [List.nil_append] at this
    rw [kJn, this, kIx, if_pos rfl, kIw, kIx_ok hw (V :: r) (idx + 1) (by simp) fun X hX => hW X (List.mem_cons_of_mem _ hX)]
    by_cases e : w = W
    · rw [if_pos e, if_pos (by rw [e])]
    · rw [if_neg e, if_neg fun z => e (kNW_inj hw.1 (fun b hb => ⟨(hw.2 b hb).1, (hw.2 b hb).2.1⟩) hW0.1 (fun b hb => ⟨(hW0.2 b hb).1, (hW0.2 b hb).2.1⟩) z.symm)]
theorem kTw_ok (c : Nat → Nat) (L s : Nat) : (kTw c L s).length ≤ 8 ∧ ∀ b ∈ kTw c L s, 97 ≤ b ∧ b ≤ 122 := by
  unfold kTw
  by_cases h : kTk c L s = 1 ∧ kTe c L s - s ≤ 8
  · rw [if_pos h]
    refine ⟨by rw [kTl_len]; exact h.2, fun b hb => ?_⟩
    obtain ⟨h1, h2⟩ := h
    unfold kTk at h1
    by_cases g : s < L
    · rw [if_pos g] at h1
      by_cases g2 : klt (c s)
      · unfold kTl at hb
        obtain ⟨t, ht, rfl⟩ := List.mem_map.mp hb
        rw [List.mem_range, kTe, if_pos g, if_pos g2] at ht
        exact kRn_in klt c (L - s) s (s + t) (by omega) (by omega)
      · rw [if_neg g2] at h1
        split at h1
        · omega
        · split at h1
          · omega
          · split at h1 <;> omega
    · rw [if_neg g] at h1; omega
  · rw [if_neg h]; exact ⟨by simp, fun b hb => by cases hb⟩
theorem kTw_b (c : Nat → Nat) (L s : Nat) : kWb (kTw c L s) := ⟨(kTw_ok c L s).1, fun b hb => by have := (kTw_ok c L s).2 b hb; omega⟩
section KXI
variable {adK a : Nat → Nat} {L s t b : Nat} {f : ky_H} {c : Nat → Nat} {Q : ky_Q} {W : List Nat} {lo hi : Nat}
theorem kx84 {k0 s0 v0 b0 : Value} {wd : Int64} (ht : t < ky_tx.length) (hl : ∀ b ∈ ky_tx.getD t [], b < 256) (hln : (ky_tx.getD t []).length < 1000) (hT : f (a 46) = some (.inr (7, [k0, s0, .long wd, v0, b0, .ref (a 40)]))) (hQ : Q (.inl (some (.int (kIx wd (ky_tx.getD t []) 0 [])))) f) : ky_cl adK 84 [.ref (a 46), .ref (adK t)] f Q := by
  generalize hTT : ky_tx.getD t [] = T at hl hln hQ
  have el : ky_sl (ky_GG adK).2.1 t = T.length := by rw [← hTT]; rfl
  have ec : ∀ j, ky_sc (ky_GG adK).2.1 t j = nI (T.getD j 0) := fun j => by rw [← hTT]; rfl
  have e32 : (32 : Int32) = nI 32 := rfl
  have loop : ∀ m i idx cur, i + m = T.length → idx ≤ i → cur.length ≤ i → Q (.inl (some (.int (kIx wd (T.drop i) idx cur)))) f → ky_ok adK 84 10 [some (.ref (a 46)), some (.ref (adK t)), some (.int (nI idx)), some (.int (nI cur.length)), some (.long (kNW cur)), none, some (.int (nI i))] [] f 0 0 Q := by
    intro m
    induction m with
    | zero =>
      intro i idx cur hi h1 h2 hq
      rw [List.drop_of_length_le (by omega), kIx] at hq
      by_cases e : kNW cur = wd
      · rw [if_pos e] at hq
        repeat' (first | (refine ⟨t, ht, rfl, ?_⟩) | (refine ky_ok_stp rfl ?_; simp (disch := first | omega | assumption) only [ky_stp, ky_inv, ky_ldi, ky_ldl, ky_ldd, ky_lda, ky_cl2, ky_st1, ky_st2, ky_s1i, ky_s2i, ky_s1l, ky_s2l, ky_sli, ky_s1f, ky_s2f, ky_s1d, ky_s2d, ky_sr, ky_sai, ky_sasi, ky_sasl, ky_sasr, ky_svr, ky_sv, ky_sv2, ky_s1, ky_cs, ky_pop, ky_nth, ky_snt, ky_obj, ky_ari, ky_arl, ky_arr, ky_arn, ky_fv, ky_rcv, List.map_cons, List.map_nil, List.drop_succ_cons, List.drop_zero, Value.category, Nat.reduceAdd, Nat.reduceSub, true_and, and_true, true_or, or_true, reduceCtorEq, ite_true, ite_false, eq_self, Nat.reduceEqDiff, Nat.reduceLeDiff, nI_add, nI_1, nI_leI, nI_ltI, nI_eq, nI_clamp, kz_m1, kz_mn, kz_mn2, kz_n0, kz_0n, kz_0, kz_le0, kz_0lt, false_implies, true_implies, not_false_eq_true, not_true_eq_false, Nat.zero_le, kb_0, kz_10, kz_of, ky_sw, kz_mx, kz_mi, hT, el, ec, kz_cmp0, eq_true e]) | (refine ⟨vp_in_nI (by omega) (by omega), ?_⟩) | (refine ⟨fun zc => ?_, fun zc => ?_⟩ <;> try (exfalso; omega)) | fail)
        exact hq
      · rw [if_neg e] at hq
        repeat' (first | (refine ⟨t, ht, rfl, ?_⟩) | (refine ky_ok_stp rfl ?_; simp (disch := first | omega | assumption) only [ky_stp, ky_inv, ky_ldi, ky_ldl, ky_ldd, ky_lda, ky_cl2, ky_st1, ky_st2, ky_s1i, ky_s2i, ky_s1l, ky_s2l, ky_sli, ky_s1f, ky_s2f, ky_s1d, ky_s2d, ky_sr, ky_sai, ky_sasi, ky_sasl, ky_sasr, ky_svr, ky_sv, ky_sv2, ky_s1, ky_cs, ky_pop, ky_nth, ky_snt, ky_obj, ky_ari, ky_arl, ky_arr, ky_arn, ky_fv, ky_rcv, List.map_cons, List.map_nil, List.drop_succ_cons, List.drop_zero, Value.category, Nat.reduceAdd, Nat.reduceSub, true_and, and_true, true_or, or_true, reduceCtorEq, ite_true, ite_false, eq_self, Nat.reduceEqDiff, Nat.reduceLeDiff, nI_add, nI_1, nI_leI, nI_ltI, nI_eq, nI_clamp, kz_m1, kz_mn, kz_mn2, kz_n0, kz_0n, kz_0, kz_le0, kz_0lt, false_implies, true_implies, not_false_eq_true, not_true_eq_false, Nat.zero_le, kb_0, kz_10, kz_of, ky_sw, kz_mx, kz_mi, hT, el, ec, kz_cmp0, eq_false e]) | (refine ⟨vp_in_nI (by omega) (by omega), ?_⟩) | (refine ⟨fun zc => ?_, fun zc => ?_⟩ <;> try (exfalso; omega)) | fail)
        exact hq
    | succ m ih =>
      intro i idx cur hi h1 h2 hq
      have hiT : i < T.length := by omega
      have eg : T.getD i 0 = T[i] := by rw [List.getD_eq_getElem?_getD, List.getElem?_eq_getElem hiT]; rfl
      have hb := hl T[i] (List.getElem_mem hiT)
      rw [← eg] at hb
      rw [List.drop_eq_getElem_cons hiT, ← eg, kIx] at hq
      (refine ky_ok_stp rfl ?_; simp (disch := first | omega | assumption) only [ky_stp, ky_inv, ky_ldi, ky_ldl, ky_ldd, ky_lda, ky_cl2, ky_st1, ky_st2, ky_s1i, ky_s2i, ky_s1l, ky_s2l, ky_sli, ky_s1f, ky_s2f, ky_s1d, ky_s2d, ky_sr, ky_sai, ky_sasi, ky_sasl, ky_sasr, ky_svr, ky_sv, ky_sv2, ky_s1, ky_cs, ky_pop, ky_nth, ky_snt, ky_obj, ky_ari, ky_arl, ky_arr, ky_arn, ky_fv, ky_rcv, List.map_cons, List.map_nil, List.drop_succ_cons, List.drop_zero, Value.category, Nat.reduceAdd, Nat.reduceSub, true_and, and_true, true_or, or_true, reduceCtorEq, ite_true, ite_false, eq_self, Nat.reduceEqDiff, Nat.reduceLeDiff, nI_add, nI_1, nI_leI, nI_ltI, nI_eq, nI_clamp, kz_m1, kz_mn, kz_mn2, kz_n0, kz_0n, kz_0, kz_le0, kz_0lt, false_implies, true_implies, not_false_eq_true, not_true_eq_false, Nat.zero_le, kb_0, kz_10, kz_of, ky_sw, kz_mx, kz_mi, hT])
      by_cases e : T.getD i 0 = 32
      · rw [if_pos e] at hq
        by_cases e2 : kNW cur = wd
        · rw [if_pos e2] at hq
          repeat' (first | (refine ⟨t, ht, rfl, ?_⟩) | (refine ⟨t, i, ht, rfl, rfl, by rw [el]; omega, ?_⟩) | (refine ky_ok_stp rfl ?_; simp (disch := first | omega | assumption) only [ky_stp, ky_inv, ky_ldi, ky_ldl, ky_ldd, ky_lda, ky_cl2, ky_st1, ky_st2, ky_s1i, ky_s2i, ky_s1l, ky_s2l, ky_sli, ky_s1f, ky_s2f, ky_s1d, ky_s2d, ky_sr, ky_sai, ky_sasi, ky_sasl, ky_sasr, ky_svr, ky_sv, ky_sv2, ky_s1, ky_cs, ky_pop, ky_nth, ky_snt, ky_obj, ky_ari, ky_arl, ky_arr, ky_arn, ky_fv, ky_rcv, List.map_cons, List.map_nil, List.drop_succ_cons, List.drop_zero, Value.category, Nat.reduceAdd, Nat.reduceSub, true_and, and_true, true_or, or_true, reduceCtorEq, ite_true, ite_false, eq_self, Nat.reduceEqDiff, Nat.reduceLeDiff, nI_add, nI_1, nI_leI, nI_ltI, nI_eq, nI_clamp, kz_m1, kz_mn, kz_mn2, kz_n0, kz_0n, kz_0, kz_le0, kz_0lt, false_implies, true_implies, not_false_eq_true, not_true_eq_false, Nat.zero_le, kb_0, kz_10, kz_of, ky_sw, kz_mx, kz_mi, hT, el, ec, kz_cmp0, e, e32, eq_true e2]) | (refine ⟨vp_in_nI (by omega) (by omega), ?_⟩) | (refine ⟨fun zc => ?_, fun zc => ?_⟩ <;> try (exfalso; omega)) | fail)
          exact hq
        · rw [if_neg e2] at hq
          repeat' (first | (refine ⟨t, ht, rfl, ?_⟩) | (refine ⟨t, i, ht, rfl, rfl, by rw [el]; omega, ?_⟩) | (exact ih (i + 1) (idx + 1) [] (by omega) (by omega) (Nat.zero_le _) hq) | (refine ky_ok_stp rfl ?_; simp (disch := first | omega | assumption) only [ky_stp, ky_inv, ky_ldi, ky_ldl, ky_ldd, ky_lda, ky_cl2, ky_st1, ky_st2, ky_s1i, ky_s2i, ky_s1l, ky_s2l, ky_sli, ky_s1f, ky_s2f, ky_s1d, ky_s2d, ky_sr, ky_sai, ky_sasi, ky_sasl, ky_sasr, ky_svr, ky_sv, ky_sv2, ky_s1, ky_cs, ky_pop, ky_nth, ky_snt, ky_obj, ky_ari, ky_arl, ky_arr, ky_arn, ky_fv, ky_rcv, List.map_cons, List.map_nil, List.drop_succ_cons, List.drop_zero, Value.category, Nat.reduceAdd, Nat.reduceSub, true_and, and_true, true_or, or_true, reduceCtorEq, ite_true, ite_false, eq_self, Nat.reduceEqDiff, Nat.reduceLeDiff, nI_add, nI_1, nI_leI, nI_ltI, nI_eq, nI_clamp, kz_m1, kz_mn, kz_mn2, kz_n0, kz_0n, kz_0, kz_le0, kz_0lt, false_implies, true_implies, not_false_eq_true, not_true_eq_false, Nat.zero_le, kb_0, kz_10, kz_of, ky_sw, kz_mx, kz_mi, hT, el, ec, kz_cmp0, e, e32, eq_false e2]) | (refine ⟨vp_in_nI (by omega) (by omega), ?_⟩) | (refine ⟨fun zc => ?_, fun zc => ?_⟩ <;> try (exfalso; omega)) | fail)
      · rw [if_neg e] at hq
        have e3 : (nI (T.getD i 0) = nI 32) = False := by rw [nI_eq (by omega) (by decide)]; exact eq_false e
        have el2 := ksn_len (l := cur) rfl (T.getD i 0)
        repeat' (first | (refine ⟨t, ht, rfl, ?_⟩) | (refine ⟨t, i, ht, rfl, rfl, by rw [el]; omega, ?_⟩) | (refine kx134 hb (by omega) ?_; simp only [ky_aft, ky_vl, Nat.reduceAdd]) | (exact (by have := ih (i + 1) idx (cur ++ [T.getD i 0]) (by omega) (by omega) (by rw [List.length_append, List.length_singleton]; omega) hq; rw [List.length_append, List.length_singleton] at this; exact this)) | (refine ky_ok_stp rfl ?_; simp (disch := first | omega | assumption) only [ky_stp, ky_inv, ky_ldi, ky_ldl, ky_ldd, ky_lda, ky_cl2, ky_st1, ky_st2, ky_s1i, ky_s2i, ky_s1l, ky_s2l, ky_sli, ky_s1f, ky_s2f, ky_s1d, ky_s2d, ky_sr, ky_sai, ky_sasi, ky_sasl, ky_sasr, ky_svr, ky_sv, ky_sv2, ky_s1, ky_cs, ky_pop, ky_nth, ky_snt, ky_obj, ky_ari, ky_arl, ky_arr, ky_arn, ky_fv, ky_rcv, List.map_cons, List.map_nil, List.drop_succ_cons, List.drop_zero, Value.category, Nat.reduceAdd, Nat.reduceSub, true_and, and_true, true_or, or_true, reduceCtorEq, ite_true, ite_false, eq_self, Nat.reduceEqDiff, Nat.reduceLeDiff, nI_add, nI_1, nI_leI, nI_ltI, nI_eq, nI_clamp, kz_m1, kz_mn, kz_mn2, kz_n0, kz_0n, kz_0, kz_le0, kz_0lt, false_implies, true_implies, not_false_eq_true, not_true_eq_false, Nat.zero_le, kb_0, kz_10, kz_of, ky_sw, kz_mx, kz_mi, hT, el, ec, kz_cmp0, e3, e32]) | (refine ⟨vp_in_nI (by omega) (by omega), ?_⟩) | (refine ⟨fun zc => ?_, fun zc => ?_⟩ <;> try (exfalso; omega)) | fail)
  refine ⟨Nat.le_of_ble_eq_true rfl, fun z => absurd z (by decide), ?_⟩; show ky_ok adK 84 0 [some (.ref (a 46)), some (.ref (adK t)), none, none, none, none, none] [] f 0 0 _
  have e0 : (0 : Int64) = kNW [] := kNW_0.symm
  repeat' (first | (exact loop T.length 0 0 [] (by omega) (Nat.le_refl _) (Nat.le_refl _) hQ) | (refine ky_ok_stp rfl ?_; simp (disch := first | omega | assumption) only [ky_stp, ky_inv, ky_ldi, ky_ldl, ky_ldd, ky_lda, ky_cl2, ky_st1, ky_st2, ky_s1i, ky_s2i, ky_s1l, ky_s2l, ky_sli, ky_s1f, ky_s2f, ky_s1d, ky_s2d, ky_sr, ky_sai, ky_sasi, ky_sasl, ky_sasr, ky_svr, ky_sv, ky_sv2, ky_s1, ky_cs, ky_pop, ky_nth, ky_snt, ky_obj, ky_ari, ky_arl, ky_arr, ky_arn, ky_fv, ky_rcv, List.map_cons, List.map_nil, List.drop_succ_cons, List.drop_zero, Value.category, Nat.reduceAdd, Nat.reduceSub, true_and, and_true, true_or, or_true, reduceCtorEq, ite_true, ite_false, eq_self, Nat.reduceEqDiff, Nat.reduceLeDiff, nI_add, nI_1, nI_leI, nI_ltI, nI_eq, nI_clamp, kz_m1, kz_mn, kz_mn2, kz_n0, kz_0n, kz_0, kz_le0, kz_0lt, false_implies, true_implies, not_false_eq_true, not_true_eq_false, Nat.zero_le, kb_0, kz_10, kz_of, ky_sw, kz_mx, kz_mi, hT, e0]) | (refine ⟨vp_in_nI (by omega) (by omega), ?_⟩) | (refine ⟨fun zc => ?_, fun zc => ?_⟩ <;> try (exfalso; omega)) | fail)
def kWst : List (List Nat) := [[100, 101, 99, 105, 109, 97, 108], [117, 112, 112, 101, 114], [108, 111, 119, 101, 114], [114, 111, 109, 97, 110], [115, 109, 97, 108, 108], [110, 111, 110, 101]]
def kWwy : List (List Nat) := [[97, 104, 101, 97, 100], [98, 101, 104, 105, 110, 100], [102, 105, 114, 115, 116], [108, 97, 115, 116]]
def kWcm : List (List Nat) := [[109, 111, 118, 101], [112, 114, 111, 109, 111, 116, 101], [100, 101, 109, 111, 116, 101], [114, 101, 109, 111, 118, 101], [100, 105, 115, 115, 111, 108, 118, 101], [102, 111, 108, 100], [117, 110, 102, 111, 108, 100], [115, 111, 114, 116]]
theorem kWb_d {Ws : List (List Nat)} (h : (Ws.all fun w => decide (w.length ≤ 8) && w.all fun b => decide (0 < b ∧ b < 256 ∧ b ≠ 32)) = true) : ∀ W ∈ Ws, kWb W := by
  intro W hW
  have := List.all_eq_true.mp h W hW
  simp only [Bool.and_eq_true, decide_eq_true_eq, List.all_eq_true] at this
  exact this
theorem kx84w {Ws : List (List Nat)} (ht : t < ky_tx.length) (he : ky_tx.getD t [] = kJn Ws) (hn : Ws ≠ []) (hW : (Ws.all fun w => decide (w.length ≤ 8) && w.all fun b => decide (0 < b ∧ b < 256 ∧ b ≠ 32)) = true) (hl : ((ky_tx.getD t []).all fun b => decide (b < 256)) = true) (hln : (ky_tx.getD t []).length < 1000) (hT : kTo a f c L s) (hQ : Q (.inl (some (.int (kIw Ws (kTw c L s) 0)))) f) : ky_cl adK 84 [.ref (a 46), .ref (adK t)] f Q := by
  have hl' : ∀ b ∈ ky_tx.getD t [], b < 256 := fun b hb => by have := List.all_eq_true.mp hl b hb; simpa using this
  refine kx84 ht hl' hln hT ?_
  rw [he, kIx_ok (kTw_b c L s) Ws 0 hn (kWb_d hW)]
  exact hQ
theorem kx83 (ht : t < ky_tx.length) (he : ky_tx.getD t [] = W) (hW : ([W].all fun w => decide (w.length ≤ 8) && w.all fun b => decide (0 < b ∧ b < 256 ∧ b ≠ 32)) = true) (hl : ((ky_tx.getD t []).all fun b => decide (b < 256)) = true) (hln : (ky_tx.getD t []).length < 1000) (hT : kTo a f c L s) (hQ : Q (.inl (some (.int (if kTw c L s = W then 1 else 0)))) f) : ky_cl adK 83 [.ref (a 46), .ref (adK t)] f Q := by
  have hT' := hT
  unfold kTo at hT'
  refine ⟨Nat.le_of_ble_eq_true rfl, fun z => absurd z (by decide), ?_⟩; show ky_ok adK 83 0 [some (.ref (a 46)), some (.ref (adK t))] [] f 0 0 _
  by_cases e : kTw c L s = W
  · rw [if_pos e] at hQ
    repeat' (first | (refine kx84w (Ws := [W]) ht he (by simp) hW hl hln hT ?_; simp only [ky_aft, ky_vl, Nat.reduceAdd]) | (refine ky_ok_stp rfl ?_; simp (disch := first | omega | assumption) only [ky_stp, ky_inv, ky_ldi, ky_ldl, ky_ldd, ky_lda, ky_cl2, ky_st1, ky_st2, ky_s1i, ky_s2i, ky_s1l, ky_s2l, ky_sli, ky_s1f, ky_s2f, ky_s1d, ky_s2d, ky_sr, ky_sai, ky_sasi, ky_sasl, ky_sasr, ky_svr, ky_sv, ky_sv2, ky_s1, ky_cs, ky_pop, ky_nth, ky_snt, ky_obj, ky_ari, ky_arl, ky_arr, ky_arn, ky_fv, ky_rcv, List.map_cons, List.map_nil, List.drop_succ_cons, List.drop_zero, Value.category, Nat.reduceAdd, Nat.reduceSub, true_and, and_true, true_or, or_true, reduceCtorEq, ite_true, ite_false, eq_self, Nat.reduceEqDiff, Nat.reduceLeDiff, nI_add, nI_1, nI_leI, nI_ltI, nI_eq, nI_clamp, kz_m1, kz_mn, kz_mn2, kz_n0, kz_0n, kz_0, kz_le0, kz_0lt, false_implies, true_implies, not_false_eq_true, not_true_eq_false, Nat.zero_le, kb_0, kz_10, kz_of, ky_sw, kz_mx, kz_mi, hT', kIw, if_pos e]) | (refine ⟨vp_in_nI (by omega) (by omega), ?_⟩) | (refine ⟨fun zc => ?_, fun zc => ?_⟩ <;> try (exfalso; omega)) | fail)
    exact hQ
  · rw [if_neg e] at hQ
    repeat' (first | (refine kx84w (Ws := [W]) ht he (by simp) hW hl hln hT ?_; simp only [ky_aft, ky_vl, Nat.reduceAdd]) | (refine ky_ok_stp rfl ?_; simp (disch := first | omega | assumption) only [ky_stp, ky_inv, ky_ldi, ky_ldl, ky_ldd, ky_lda, ky_cl2, ky_st1, ky_st2, ky_s1i, ky_s2i, ky_s1l, ky_s2l, ky_sli, ky_s1f, ky_s2f, ky_s1d, ky_s2d, ky_sr, ky_sai, ky_sasi, ky_sasl, ky_sasr, ky_svr, ky_sv, ky_sv2, ky_s1, ky_cs, ky_pop, ky_nth, ky_snt, ky_obj, ky_ari, ky_arl, ky_arr, ky_arn, ky_fv, ky_rcv, List.map_cons, List.map_nil, List.drop_succ_cons, List.drop_zero, Value.category, Nat.reduceAdd, Nat.reduceSub, true_and, and_true, true_or, or_true, reduceCtorEq, ite_true, ite_false, eq_self, Nat.reduceEqDiff, Nat.reduceLeDiff, nI_add, nI_1, nI_leI, nI_ltI, nI_eq, nI_clamp, kz_m1, kz_mn, kz_mn2, kz_n0, kz_0n, kz_0, kz_le0, kz_0lt, false_implies, true_implies, not_false_eq_true, not_true_eq_false, Nat.zero_le, kb_0, kz_10, kz_of, ky_sw, kz_mx, kz_mi, hT', kIw, if_neg e, show ((-1 : Int32) = 0) = False by decide]) | (refine ⟨vp_in_nI (by omega) (by omega), ?_⟩) | (refine ⟨fun zc => ?_, fun zc => ?_⟩ <;> try (exfalso; omega)) | fail)
    exact hQ
theorem kx87 (ha : kI a) (hB : kB a 40 f 700 L c) (hs : s ≤ L) (ht : t < ky_tx.length) (he : ky_tx.getD t [] = W) (hW : ([W].all fun w => decide (w.length ≤ 8) && w.all fun b => decide (0 < b ∧ b < 256 ∧ b ≠ 32)) = true) (hl : ((ky_tx.getD t []).all fun b => decide (b < 256)) = true) (hln : (ky_tx.getD t []).length < 1000) (hT : kTo a f c L s)
    (hQ1 : kTw c L s = W → ∀ f', kTo a f' c L (kTs c L (kTe c L s)) → kfr a f f' (fun j => j = 46) → Q (.inl (some (.int 1))) f') (hQ0 : ¬ kTw c L s = W → Q (.inl (some (.int 0))) f) : ky_cl adK 87 [.ref (a 46), .ref (adK t)] f Q := by
  have hT' := hT
  unfold kTo at hT'
  have hte := kTe_le (c := c) hs
  refine ⟨Nat.le_of_ble_eq_true rfl, fun z => absurd z (by decide), ?_⟩; show ky_ok adK 87 0 [some (.ref (a 46)), some (.ref (adK t))] [] f 0 0 _
  by_cases e : kTw c L s = W
  · repeat' (first | (refine kx83 ht he hW hl hln hT ?_; simp only [ky_aft, ky_vl, Nat.reduceAdd]) | ((refine kx77 ha hB hte.2 (kTo_b hT) fun f' w1 w2 => ?_; simp only [ky_aft, ky_vl, Nat.reduceAdd]; have hQ := hQ1 e f' w1 w2)) | (refine ky_ok_stp rfl ?_; simp (disch := first | omega | assumption) only [ky_stp, ky_inv, ky_ldi, ky_ldl, ky_ldd, ky_lda, ky_cl2, ky_st1, ky_st2, ky_s1i, ky_s2i, ky_s1l, ky_s2l, ky_sli, ky_s1f, ky_s2f, ky_s1d, ky_s2d, ky_sr, ky_sai, ky_sasi, ky_sasl, ky_sasr, ky_svr, ky_sv, ky_sv2, ky_s1, ky_cs, ky_pop, ky_nth, ky_snt, ky_obj, ky_ari, ky_arl, ky_arr, ky_arn, ky_fv, ky_rcv, List.map_cons, List.map_nil, List.drop_succ_cons, List.drop_zero, Value.category, Nat.reduceAdd, Nat.reduceSub, true_and, and_true, true_or, or_true, reduceCtorEq, ite_true, ite_false, eq_self, Nat.reduceEqDiff, Nat.reduceLeDiff, nI_add, nI_1, nI_leI, nI_ltI, nI_eq, nI_clamp, kz_m1, kz_mn, kz_mn2, kz_n0, kz_0n, kz_0, kz_le0, kz_0lt, false_implies, true_implies, not_false_eq_true, not_true_eq_false, Nat.zero_le, kb_0, kz_10, kz_of, ky_sw, kz_mx, kz_mi, hT', if_pos e]) | (refine ⟨vp_in_nI (by omega) (by omega), ?_⟩) | (refine ⟨fun zc => ?_, fun zc => ?_⟩ <;> try (exfalso; omega)) | fail)
    exact hQ
  · repeat' (first | (refine kx83 ht he hW hl hln hT ?_; simp only [ky_aft, ky_vl, Nat.reduceAdd]) | (refine ky_ok_stp rfl ?_; simp (disch := first | omega | assumption) only [ky_stp, ky_inv, ky_ldi, ky_ldl, ky_ldd, ky_lda, ky_cl2, ky_st1, ky_st2, ky_s1i, ky_s2i, ky_s1l, ky_s2l, ky_sli, ky_s1f, ky_s2f, ky_s1d, ky_s2d, ky_sr, ky_sai, ky_sasi, ky_sasl, ky_sasr, ky_svr, ky_sv, ky_sv2, ky_s1, ky_cs, ky_pop, ky_nth, ky_snt, ky_obj, ky_ari, ky_arl, ky_arr, ky_arn, ky_fv, ky_rcv, List.map_cons, List.map_nil, List.drop_succ_cons, List.drop_zero, Value.category, Nat.reduceAdd, Nat.reduceSub, true_and, and_true, true_or, or_true, reduceCtorEq, ite_true, ite_false, eq_self, Nat.reduceEqDiff, Nat.reduceLeDiff, nI_add, nI_1, nI_leI, nI_ltI, nI_eq, nI_clamp, kz_m1, kz_mn, kz_mn2, kz_n0, kz_0n, kz_0, kz_le0, kz_0lt, false_implies, true_implies, not_false_eq_true, not_true_eq_false, Nat.zero_le, kb_0, kz_10, kz_of, ky_sw, kz_mx, kz_mi, hT', if_neg e]) | (refine ⟨vp_in_nI (by omega) (by omega), ?_⟩) | (refine ⟨fun zc => ?_, fun zc => ?_⟩ <;> try (exfalso; omega)) | fail)
    exact hQ0 e
theorem kx86 (ha : kI a) (hB : kB a 40 f 700 L c) (hs : s ≤ L) (hT : kTo a f c L s)
    (hQ1 : kTk c L s = 4 → ∀ f', kTo a f' c L (kTs c L (kTe c L s)) → kfr a f f' (fun j => j = 46) → Q (.inl (some (.int 0))) f') (hQ0 : ¬ kTk c L s = 4 → Q (.inl (some (.int 1))) f) : ky_cl adK 86 [.ref (a 46)] f Q := by
  have hT' := hT
  unfold kTo at hT'
  have hte := kTe_le (c := c) hs
  have hk : kTk c L s ≤ 5 := by
    unfold kTk
    split
    · split
      · omega
      · split
        · omega
        · split
          · omega
          · split <;> omega
    · omega
  refine ⟨Nat.le_of_ble_eq_true rfl, fun z => absurd z (by decide), ?_⟩; show ky_ok adK 86 0 [some (.ref (a 46))] [] f 0 0 _
  by_cases e : kTk c L s = 4
  · repeat' (first | ((refine kx77 ha hB hte.2 (kTo_b hT) fun f' w1 w2 => ?_; simp only [ky_aft, ky_vl, Nat.reduceAdd]; have hQ := hQ1 e f' w1 w2)) | (refine ky_ok_stp rfl ?_; simp (disch := first | omega | assumption) only [ky_stp, ky_inv, ky_ldi, ky_ldl, ky_ldd, ky_lda, ky_cl2, ky_st1, ky_st2, ky_s1i, ky_s2i, ky_s1l, ky_s2l, ky_sli, ky_s1f, ky_s2f, ky_s1d, ky_s2d, ky_sr, ky_sai, ky_sasi, ky_sasl, ky_sasr, ky_svr, ky_sv, ky_sv2, ky_s1, ky_cs, ky_pop, ky_nth, ky_snt, ky_obj, ky_ari, ky_arl, ky_arr, ky_arn, ky_fv, ky_rcv, List.map_cons, List.map_nil, List.drop_succ_cons, List.drop_zero, Value.category, Nat.reduceAdd, Nat.reduceSub, true_and, and_true, true_or, or_true, reduceCtorEq, ite_true, ite_false, eq_self, Nat.reduceEqDiff, Nat.reduceLeDiff, nI_add, nI_1, nI_leI, nI_ltI, nI_eq, nI_clamp, kz_m1, kz_mn, kz_mn2, kz_n0, kz_0n, kz_0, kz_le0, kz_0lt, false_implies, true_implies, not_false_eq_true, not_true_eq_false, Nat.zero_le, kb_0, kz_10, kz_of, ky_sw, kz_mx, kz_mi, hT', kz_4, e]) | (refine ⟨vp_in_nI (by omega) (by omega), ?_⟩) | (refine ⟨fun zc => ?_, fun zc => ?_⟩ <;> try (exfalso; omega)) | fail)
    exact hQ
  · have e' : (nI (kTk c L s) = nI 4) = False := by rw [nI_eq (by omega) (by decide)]; exact eq_false e
    repeat' (first | (refine ky_ok_stp rfl ?_; simp (disch := first | omega | assumption) only [ky_stp, ky_inv, ky_ldi, ky_ldl, ky_ldd, ky_lda, ky_cl2, ky_st1, ky_st2, ky_s1i, ky_s2i, ky_s1l, ky_s2l, ky_sli, ky_s1f, ky_s2f, ky_s1d, ky_s2d, ky_sr, ky_sai, ky_sasi, ky_sasl, ky_sasr, ky_svr, ky_sv, ky_sv2, ky_s1, ky_cs, ky_pop, ky_nth, ky_snt, ky_obj, ky_ari, ky_arl, ky_arr, ky_arn, ky_fv, ky_rcv, List.map_cons, List.map_nil, List.drop_succ_cons, List.drop_zero, Value.category, Nat.reduceAdd, Nat.reduceSub, true_and, and_true, true_or, or_true, reduceCtorEq, ite_true, ite_false, eq_self, Nat.reduceEqDiff, Nat.reduceLeDiff, nI_add, nI_1, nI_leI, nI_ltI, nI_eq, nI_clamp, kz_m1, kz_mn, kz_mn2, kz_n0, kz_0n, kz_0, kz_le0, kz_0lt, false_implies, true_implies, not_false_eq_true, not_true_eq_false, Nat.zero_le, kb_0, kz_10, kz_of, ky_sw, kz_mx, kz_mi, hT', kz_4, e']) | (refine ⟨vp_in_nI (by omega) (by omega), ?_⟩) | (refine ⟨fun zc => ?_, fun zc => ?_⟩ <;> try (exfalso; omega)) | fail)
    exact hQ0 e
theorem kx85 (hT : kTo a f c L s) (hlo : lo < 1000) (hhi : hi < 1000) (hQ : Q (.inl (some (.int (nI (if ¬ kTk c L s = 2 then 1 else if kTv c L s < lo ∨ hi < kTv c L s then 2 else 0))))) f) : ky_cl adK 85 [.ref (a 46), .int (nI lo), .int (nI hi)] f Q := by
  unfold kTo at hT
  have hv : kTv c L s ≤ 1000 := by
    unfold kTv; split
    · exact kVc_le c _ _ _ (by decide)
    · omega
  have hk : kTk c L s ≤ 5 := by
    unfold kTk
    split
    · split
      · omega
      · split
        · omega
        · split
          · omega
          · split <;> omega
    · omega
  refine ⟨Nat.le_of_ble_eq_true rfl, fun z => absurd z (by decide), ?_⟩; show ky_ok adK 85 0 [some (.ref (a 46)), some (.int (nI lo)), some (.int (nI hi))] [] f 0 0 _
  by_cases e : kTk c L s = 2
  · rw [if_neg (fun z => z e)] at hQ
    repeat' (first | (refine ky_ok_stp rfl ?_; simp (disch := first | omega | assumption) only [ky_stp, ky_inv, ky_ldi, ky_ldl, ky_ldd, ky_lda, ky_cl2, ky_st1, ky_st2, ky_s1i, ky_s2i, ky_s1l, ky_s2l, ky_sli, ky_s1f, ky_s2f, ky_s1d, ky_s2d, ky_sr, ky_sai, ky_sasi, ky_sasl, ky_sasr, ky_svr, ky_sv, ky_sv2, ky_s1, ky_cs, ky_pop, ky_nth, ky_snt, ky_obj, ky_ari, ky_arl, ky_arr, ky_arn, ky_fv, ky_rcv, List.map_cons, List.map_nil, List.drop_succ_cons, List.drop_zero, Value.category, Nat.reduceAdd, Nat.reduceSub, true_and, and_true, true_or, or_true, reduceCtorEq, ite_true, ite_false, eq_self, Nat.reduceEqDiff, Nat.reduceLeDiff, nI_add, nI_1, nI_leI, nI_ltI, nI_eq, nI_clamp, kz_m1, kz_mn, kz_mn2, kz_n0, kz_0n, kz_0, kz_le0, kz_0lt, false_implies, true_implies, not_false_eq_true, not_true_eq_false, Nat.zero_le, kb_0, kz_10, kz_of, ky_sw, kz_mx, kz_mi, hT, kz_2, e]) | (refine ⟨vp_in_nI (by omega) (by omega), ?_⟩) | (refine ⟨fun zc => ?_, fun zc => ?_⟩ <;> try (exfalso; omega)) | fail)
    · rw [if_pos (Or.inl (by assumption))] at hQ; exact hQ
    · rw [if_neg (by omega)] at hQ; exact hQ
    · rw [if_pos (by omega)] at hQ; exact hQ
  · have e' : (nI (kTk c L s) = nI 2) = False := by rw [nI_eq (by omega) (by decide)]; exact eq_false e
    rw [if_pos e] at hQ
    repeat' (first | (refine ky_ok_stp rfl ?_; simp (disch := first | omega | assumption) only [ky_stp, ky_inv, ky_ldi, ky_ldl, ky_ldd, ky_lda, ky_cl2, ky_st1, ky_st2, ky_s1i, ky_s2i, ky_s1l, ky_s2l, ky_sli, ky_s1f, ky_s2f, ky_s1d, ky_s2d, ky_sr, ky_sai, ky_sasi, ky_sasl, ky_sasr, ky_svr, ky_sv, ky_sv2, ky_s1, ky_cs, ky_pop, ky_nth, ky_snt, ky_obj, ky_ari, ky_arl, ky_arr, ky_arn, ky_fv, ky_rcv, List.map_cons, List.map_nil, List.drop_succ_cons, List.drop_zero, Value.category, Nat.reduceAdd, Nat.reduceSub, true_and, and_true, true_or, or_true, reduceCtorEq, ite_true, ite_false, eq_self, Nat.reduceEqDiff, Nat.reduceLeDiff, nI_add, nI_1, nI_leI, nI_ltI, nI_eq, nI_clamp, kz_m1, kz_mn, kz_mn2, kz_n0, kz_0n, kz_0, kz_le0, kz_0lt, false_implies, true_implies, not_false_eq_true, not_true_eq_false, Nat.zero_le, kb_0, kz_10, kz_of, ky_sw, kz_mx, kz_mi, hT, kz_2, e']) | (refine ⟨vp_in_nI (by omega) (by omega), ?_⟩) | (refine ⟨fun zc => ?_, fun zc => ?_⟩ <;> try (exfalso; omega)) | fail)
    exact hQ
theorem kx76 (ha : kI a) (hB : kB a 40 f 700 L c) (hT : kTk0 a f) (hQ : ∀ f', kTo a f' c L (kTs c L 0) → kfr a f f' (fun j => j = 46) → Q (.inl none) f') : ky_cl adK 76 [.ref (a 46)] f Q := by
  obtain ⟨kd, sd, bd, vd, wd, hT⟩ := hT
  have hB' : ∀ e, kB a 40 (ky_up f (a 46) e) 700 L c := fun e => kB_fr hB (kz_ne (fun z => absurd (ha _ _ z) (by decide))) (kz_ne (fun z => absurd (ha _ _ z) (by decide)))
  refine ⟨Nat.le_of_ble_eq_true rfl, fun z => absurd z (by decide), ?_⟩; show ky_ok adK 76 0 [some (.ref (a 46))] [] f 0 0 _
  repeat' (first | ((refine kx77 (b := 0) ha (hB' _) (Nat.zero_le _) ⟨_, _, _, _, kz_same⟩ fun f' w1 w2 => ?_; simp only [ky_aft, ky_vl, Nat.reduceAdd]; have hQ := hQ f' w1 fun j hj => (w2 j hj).trans (kz_ne fun z => hj (ha _ _ z)))) | (refine ky_ok_stp rfl ?_; simp (disch := first | omega | assumption) only [ky_stp, ky_inv, ky_ldi, ky_ldl, ky_ldd, ky_lda, ky_cl2, ky_st1, ky_st2, ky_s1i, ky_s2i, ky_s1l, ky_s2l, ky_sli, ky_s1f, ky_s2f, ky_s1d, ky_s2d, ky_sr, ky_sai, ky_sasi, ky_sasl, ky_sasr, ky_svr, ky_sv, ky_sv2, ky_s1, ky_cs, ky_pop, ky_nth, ky_snt, ky_obj, ky_ari, ky_arl, ky_arr, ky_arn, ky_fv, ky_rcv, List.map_cons, List.map_nil, List.drop_succ_cons, List.drop_zero, Value.category, Nat.reduceAdd, Nat.reduceSub, true_and, and_true, true_or, or_true, reduceCtorEq, ite_true, ite_false, eq_self, Nat.reduceEqDiff, Nat.reduceLeDiff, nI_add, nI_1, nI_leI, nI_ltI, nI_eq, nI_clamp, kz_m1, kz_mn, kz_mn2, kz_n0, kz_0n, kz_0, kz_le0, kz_0lt, false_implies, true_implies, not_false_eq_true, not_true_eq_false, Nat.zero_le, kb_0, kz_10, kz_of, ky_sw, kz_mx, kz_mi, hT, kz_up]) | (refine ⟨vp_in_nI (by omega) (by omega), ?_⟩) | (refine ⟨fun zc => ?_, fun zc => ?_⟩ <;> try (exfalso; omega)) | fail)
  exact hQ
end KXI
