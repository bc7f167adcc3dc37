-- deps: 30.rall
/-! ## scripts read -/
abbrev kX : Type := Nat × Nat × Nat × Nat
def kSc (a : Nat → Nat) (f : ky_H) (n : Nat) (X : Nat → kX) : Prop := ∃ g1 g2 g3 g4 : Nat → Int32, f (a 48) = some (.inr (5, [.int (nI n), .ref (a 49), .ref (a 50), .ref (a 51), .ref (a 52), .ref (a 46)])) ∧ f (a 49) = some (.inl (1, 40, .inl g1)) ∧ f (a 50) = some (.inl (1, 40, .inl g2)) ∧ f (a 51) = some (.inl (1, 40, .inl g3)) ∧ f (a 52) = some (.inl (1, 40, .inl g4)) ∧ n ≤ 40 ∧ ∀ i, i < n → g1 i = nI (X i).1 ∧ g2 i = nI (X i).2.1 ∧ g3 i = nI (X i).2.2.1 ∧ g4 i = nI (X i).2.2.2
def kxu (X : Nat → kX) (n : Nat) (x : kX) : Nat → kX := fun i => if i = n then x else X i
theorem kSc_0 {a : Nat → Nat} {f : ky_H} {n : Nat} {X : Nat → kX} (h : kSc a f n X) : kSc0 a f := by
  obtain ⟨g1, g2, g3, g4, h0, h1, h2, h3, h4, -⟩ := h
  exact ⟨_, g1, g2, g3, g4, h0, h1, h2, h3, h4⟩
theorem kSc_fr {a : Nat → Nat} {f f' : ky_H} {n : Nat} {X : Nat → kX} (h : kSc a f n X) (hf : ∀ j, 48 ≤ j → j ≤ 52 → f' (a j) = f (a j)) : kSc a f' n X := by
  obtain ⟨g1, g2, g3, g4, h0, h1, h2, h3, h4, h5⟩ := h
  exact ⟨g1, g2, g3, g4, (hf _ (by omega) (by omega)).trans h0, (hf _ (by omega) (by omega)).trans h1, (hf _ (by omega) (by omega)).trans h2, (hf _ (by omega) (by omega)).trans h3, (hf _ (by omega) (by omega)).trans h4, h5⟩
def kSF (j : Nat) : Prop := 48 ≤ j ∧ j ≤ 52 ∨ j = 46
def kRk (c : Nat → Nat) (L : Nat) (x : kX) (s : Nat) : Nat × Nat × kX := (if kTk c L s = 4 then 0 else 1, if kTk c L s = 4 then kTn c L s else s, x)
def kCmd (w : List Nat) : Nat := (kIw kWcm w 0).toNatClampNeg
def kWay (w : List Nat) : Nat := (kIw kWwy w 0).toNatClampNeg
/-- what stands behind a move's first place p -/
def kRv (c : Nat → Nat) (L p s : Nat) : Nat × Nat × kX :=
  if ¬ kTk c L s = 2 then (1, s, 0, 0, 0, 0)
  else if kTv c L s < 0 ∨ 59 < kTv c L s then (2, s, 0, 0, 0, 0)
  else if kIw kWwy (kTw c L (kTn c L s)) 0 = -1 then (1, kTn c L s, 0, 0, 0, 0)
  else kRk c L (0, p, kTv c L s, kWay (kTw c L (kTn c L s))) (kTn c L (kTn c L s))
/-- a command's text -/
def kRc (c : Nat → Nat) (L n s : Nat) : Nat × Nat × kX :=
  if kIw kWcm (kTw c L s) 0 = -1 then (1, s, 0, 0, 0, 0)
  else if n = 40 then (4, s, 0, 0, 0, 0)
  else if ¬ kTk c L (kTn c L s) = 2 then (1, kTn c L s, 0, 0, 0, 0)
  else if kTv c L (kTn c L s) < 0 ∨ 59 < kTv c L (kTn c L s) then (2, kTn c L s, 0, 0, 0, 0)
  else if kCmd (kTw c L s) = 0 then kRv c L (kTv c L (kTn c L s)) (kTn c L (kTn c L s))
  else kRk c L (kCmd (kTw c L s), kTv c L (kTn c L s), kTv c L (kTn c L s), 0) (kTn c L (kTn c L s))
def kRcs (c : Nat → Nat) (L : Nat) : Nat → Nat → (Nat → kX) → Nat → (Nat × Nat) ⊕ (Nat × (Nat → kX))
  | 0, n, X, _ => .inr (n, X)
  | m + 1, n, X, s => if kTk c L s = 0 then .inr (n, X) else if (kRc c L n s).1 = 0 then kRcs c L m (n + 1) (kxu X n (kRc c L n s).2.2) (kRc c L n s).2.1 else .inl ((kRc c L n s).1, (kRc c L n s).2.1)
theorem kRk_s {c : Nat → Nat} {L s : Nat} {x : kX} (hs : s ≤ L) : (kRk c L x s).2.1 ≤ L ∧ (kRk c L x s).1 ≤ 1 := by
  have := kTn_le (c := c) hs
  constructor
  · show (if _ then _ else _) ≤ L
    split
    · exact this.2
    · exact hs
  · show (if _ then 0 else 1) ≤ 1
    split <;> decide
theorem kRv_s {c : Nat → Nat} {L p s : Nat} (hs : s ≤ L) : (kRv c L p s).2.1 ≤ L ∧ (kRv c L p s).1 ≤ 2 := by
  have h1 := kTn_le (c := c) hs
  have h2 := kTn_le (c := c) h1.2
  unfold kRv
  split
  · exact ⟨hs, show 1 ≤ 2 by decide⟩
  · split
    · exact ⟨hs, show 2 ≤ 2 by decide⟩
    · split
      · exact ⟨h1.2, show 1 ≤ 2 by decide⟩
      · have := kRk_s (c := c) (x := (0, p, kTv c L s, kWay (kTw c L (kTn c L s)))) h2.2
        exact ⟨this.1, by omega⟩
theorem kRc_s {c : Nat → Nat} {L n s : Nat} (hs : s ≤ L) : (kRc c L n s).2.1 ≤ L ∧ (kRc c L n s).1 ≤ 4 := by
  have h1 := kTn_le (c := c) hs
  have h2 := kTn_le (c := c) h1.2
  unfold kRc
  split
  · exact ⟨hs, show 1 ≤ 4 by decide⟩
  · split
    · exact ⟨hs, show 4 ≤ 4 by decide⟩
    · split
      · exact ⟨h1.2, show 1 ≤ 4 by decide⟩
      · split
        · exact ⟨h1.2, show 2 ≤ 4 by decide⟩
        · split
          · have := kRv_s (c := c) (p := kTv c L (kTn c L s)) h2.2
            exact ⟨this.1, by omega⟩
          · have := kRk_s (c := c) (x := (kCmd (kTw c L s), kTv c L (kTn c L s), kTv c L (kTn c L s), 0)) h2.2
            exact ⟨this.1, by omega⟩
section KXV
variable {adK a : Nat → Nat} {L s t n p w i : Nat} {f : ky_H} {c : Nat → Nat} {Q : ky_Q} {X : Nat → kX} {x : kX}
theorem kfSS {f f' f'' : ky_H} (h : kfr a f f' kSF) (h' : kfr a f' f'' kSF) : kfr a f f'' kSF := kfr_tr h h' fun j hj => ⟨hj, hj⟩
theorem kf46s {f f' : ky_H} (h : kfr a f f' (fun j => j = 46)) : kfr a f f' kSF := fun j hj => h j fun e => hj (by unfold kSF; omega)
theorem kB40s {f f' : ky_H} (hB : kB a 40 f 700 L c) (hF : kfr a f f' kSF) : kB a 40 f' 700 L c := kB_fr hB (hF 40 (by unfold kSF; omega)) (hF 41 (by unfold kSF; omega))
theorem kSc46 {f f' : ky_H} (h : kSc a f n X) (hF : kfr a f f' (fun j => j = 46)) : kSc a f' n X := kSc_fr h fun j z1 z2 => hF j (by omega)
theorem kx57 (hS : kSc a f n X) (hi : i < n) (hQ : Q (.inl (some (.int 1))) f) : ky_cl adK 57 [.ref (a 48), .int (nI i)] f Q := by
  obtain ⟨g1, g2, g3, g4, h0, h1, h2, h3, h4, h5, h6⟩ := hS
  refine ⟨Nat.le_of_ble_eq_true rfl, fun z => absurd z (by decide), ?_⟩; show ky_ok adK 57 0 [some (.ref (a 48)), some (.int (nI i))] [] f 0 0 _
  repeat' (first | (refine ky_ok_stp rfl ?_; simp (disch := first | omega | assumption) only [ky_stp, ky_inv, ky_ldi, ky_ldl, ky_ldd, ky_lda, ky_cl2, ky_st1, ky_st2, ky_s1i, ky_s2i, ky_s1l, ky_s2l, ky_sli, ky_s1f, ky_s2f, ky_s1d, ky_s2d, ky_sr, ky_sai, ky_sasi, ky_sasl, ky_sasr, ky_svr, ky_sv, ky_sv2, ky_s1, ky_cs, ky_pop, ky_nth, ky_snt, ky_obj, ky_ari, ky_arl, ky_arr, ky_arn, ky_fv, ky_rcv, List.map_cons, List.map_nil, List.drop_succ_cons, List.drop_zero, Value.category, Nat.reduceAdd, Nat.reduceSub, true_and, and_true, true_or, or_true, reduceCtorEq, ite_true, ite_false, eq_self, Nat.reduceEqDiff, Nat.reduceLeDiff, nI_add, nI_1, nI_leI, nI_ltI, nI_eq, nI_clamp, kz_m1, kz_mn, kz_mn2, kz_n0, kz_0n, kz_0, kz_le0, kz_0lt, false_implies, true_implies, not_false_eq_true, not_true_eq_false, Nat.zero_le, kb_0, kz_10, kz_of, ky_sw, kz_mx, kz_mi, h0]) | (refine ⟨vp_in_nI (by omega) (by omega), ?_⟩) | (refine ⟨fun zc => ?_, fun zc => ?_⟩ <;> try (exfalso; omega)) | fail)
  exact hQ
theorem kx58 (hS : kSc a f n X) (hi : i < n) (hQ : Q (.inl (some (.int (nI (X i).1)))) f) : ky_cl adK 58 [.ref (a 48), .int (nI i)] f Q := by
  obtain ⟨g1, g2, g3, g4, h0, h1, h2, h3, h4, h5, h6⟩ := id hS
  refine ⟨Nat.le_of_ble_eq_true rfl, fun z => absurd z (by decide), ?_⟩; show ky_ok adK 58 0 [some (.ref (a 48)), some (.int (nI i))] [] f 0 0 _
  repeat' (first | (refine kx57 hS hi ?_; simp only [ky_aft, ky_vl, Nat.reduceAdd]) | (refine ky_ok_stp rfl ?_; simp (disch := first | omega | assumption) only [ky_stp, ky_inv, ky_ldi, ky_ldl, ky_ldd, ky_lda, ky_cl2, ky_st1, ky_st2, ky_s1i, ky_s2i, ky_s1l, ky_s2l, ky_sli, ky_s1f, ky_s2f, ky_s1d, ky_s2d, ky_sr, ky_sai, ky_sasi, ky_sasl, ky_sasr, ky_svr, ky_sv, ky_sv2, ky_s1, ky_cs, ky_pop, ky_nth, ky_snt, ky_obj, ky_ari, ky_arl, ky_arr, ky_arn, ky_fv, ky_rcv, List.map_cons, List.map_nil, List.drop_succ_cons, List.drop_zero, Value.category, Nat.reduceAdd, Nat.reduceSub, true_and, and_true, true_or, or_true, reduceCtorEq, ite_true, ite_false, eq_self, Nat.reduceEqDiff, Nat.reduceLeDiff, nI_add, nI_1, nI_leI, nI_ltI, nI_eq, nI_clamp, kz_m1, kz_mn, kz_mn2, kz_n0, kz_0n, kz_0, kz_le0, kz_0lt, false_implies, true_implies, not_false_eq_true, not_true_eq_false, Nat.zero_le, kb_0, kz_10, kz_of, ky_sw, kz_mx, kz_mi, h0, h1, (h6 i hi).1]) | (refine ⟨vp_in_nI (by omega) (by omega), ?_⟩) | (refine ⟨fun zc => ?_, fun zc => ?_⟩ <;> try (exfalso; omega)) | fail)
  exact hQ
theorem kx59 (hS : kSc a f n X) (hi : i < n) (hQ : Q (.inl (some (.int (nI (X i).2.1)))) f) : ky_cl adK 59 [.ref (a 48), .int (nI i)] f Q := by
  obtain ⟨g1, g2, g3, g4, h0, h1, h2, h3, h4, h5, h6⟩ := id hS
  refine ⟨Nat.le_of_ble_eq_true rfl, fun z => absurd z (by decide), ?_⟩; show ky_ok adK 59 0 [some (.ref (a 48)), some (.int (nI i))] [] f 0 0 _
  repeat' (first | (refine kx57 hS hi ?_; simp only [ky_aft, ky_vl, Nat.reduceAdd]) | (refine ky_ok_stp rfl ?_; simp (disch := first | omega | assumption) only [ky_stp, ky_inv, ky_ldi, ky_ldl, ky_ldd, ky_lda, ky_cl2, ky_st1, ky_st2, ky_s1i, ky_s2i, ky_s1l, ky_s2l, ky_sli, ky_s1f, ky_s2f, ky_s1d, ky_s2d, ky_sr, ky_sai, ky_sasi, ky_sasl, ky_sasr, ky_svr, ky_sv, ky_sv2, ky_s1, ky_cs, ky_pop, ky_nth, ky_snt, ky_obj, ky_ari, ky_arl, ky_arr, ky_arn, ky_fv, ky_rcv, List.map_cons, List.map_nil, List.drop_succ_cons, List.drop_zero, Value.category, Nat.reduceAdd, Nat.reduceSub, true_and, and_true, true_or, or_true, reduceCtorEq, ite_true, ite_false, eq_self, Nat.reduceEqDiff, Nat.reduceLeDiff, nI_add, nI_1, nI_leI, nI_ltI, nI_eq, nI_clamp, kz_m1, kz_mn, kz_mn2, kz_n0, kz_0n, kz_0, kz_le0, kz_0lt, false_implies, true_implies, not_false_eq_true, not_true_eq_false, Nat.zero_le, kb_0, kz_10, kz_of, ky_sw, kz_mx, kz_mi, h0, h2, (h6 i hi).2.1]) | (refine ⟨vp_in_nI (by omega) (by omega), ?_⟩) | (refine ⟨fun zc => ?_, fun zc => ?_⟩ <;> try (exfalso; omega)) | fail)
  exact hQ
theorem kx60 (hS : kSc a f n X) (hi : i < n) (hQ : Q (.inl (some (.int (nI (X i).2.2.1)))) f) : ky_cl adK 60 [.ref (a 48), .int (nI i)] f Q := by
  obtain ⟨g1, g2, g3, g4, h0, h1, h2, h3, h4, h5, h6⟩ := id hS
  refine ⟨Nat.le_of_ble_eq_true rfl, fun z => absurd z (by decide), ?_⟩; show ky_ok adK 60 0 [some (.ref (a 48)), some (.int (nI i))] [] f 0 0 _
  repeat' (first | (refine kx57 hS hi ?_; simp only [ky_aft, ky_vl, Nat.reduceAdd]) | (refine ky_ok_stp rfl ?_; simp (disch := first | omega | assumption) only [ky_stp, ky_inv, ky_ldi, ky_ldl, ky_ldd, ky_lda, ky_cl2, ky_st1, ky_st2, ky_s1i, ky_s2i, ky_s1l, ky_s2l, ky_sli, ky_s1f, ky_s2f, ky_s1d, ky_s2d, ky_sr, ky_sai, ky_sasi, ky_sasl, ky_sasr, ky_svr, ky_sv, ky_sv2, ky_s1, ky_cs, ky_pop, ky_nth, ky_snt, ky_obj, ky_ari, ky_arl, ky_arr, ky_arn, ky_fv, ky_rcv, List.map_cons, List.map_nil, List.drop_succ_cons, List.drop_zero, Value.category, Nat.reduceAdd, Nat.reduceSub, true_and, and_true, true_or, or_true, reduceCtorEq, ite_true, ite_false, eq_self, Nat.reduceEqDiff, Nat.reduceLeDiff, nI_add, nI_1, nI_leI, nI_ltI, nI_eq, nI_clamp, kz_m1, kz_mn, kz_mn2, kz_n0, kz_0n, kz_0, kz_le0, kz_0lt, false_implies, true_implies, not_false_eq_true, not_true_eq_false, Nat.zero_le, kb_0, kz_10, kz_of, ky_sw, kz_mx, kz_mi, h0, h3, (h6 i hi).2.2.1]) | (refine ⟨vp_in_nI (by omega) (by omega), ?_⟩) | (refine ⟨fun zc => ?_, fun zc => ?_⟩ <;> try (exfalso; omega)) | fail)
  exact hQ
theorem kx61 (hS : kSc a f n X) (hi : i < n) (hQ : Q (.inl (some (.int (nI (X i).2.2.2)))) f) : ky_cl adK 61 [.ref (a 48), .int (nI i)] f Q := by
  obtain ⟨g1, g2, g3, g4, h0, h1, h2, h3, h4, h5, h6⟩ := id hS
  refine ⟨Nat.le_of_ble_eq_true rfl, fun z => absurd z (by decide), ?_⟩; show ky_ok adK 61 0 [some (.ref (a 48)), some (.int (nI i))] [] f 0 0 _
  repeat' (first | (refine kx57 hS hi ?_; simp only [ky_aft, ky_vl, Nat.reduceAdd]) | (refine ky_ok_stp rfl ?_; simp (disch := first | omega | assumption) only [ky_stp, ky_inv, ky_ldi, ky_ldl, ky_ldd, ky_lda, ky_cl2, ky_st1, ky_st2, ky_s1i, ky_s2i, ky_s1l, ky_s2l, ky_sli, ky_s1f, ky_s2f, ky_s1d, ky_s2d, ky_sr, ky_sai, ky_sasi, ky_sasl, ky_sasr, ky_svr, ky_sv, ky_sv2, ky_s1, ky_cs, ky_pop, ky_nth, ky_snt, ky_obj, ky_ari, ky_arl, ky_arr, ky_arn, ky_fv, ky_rcv, List.map_cons, List.map_nil, List.drop_succ_cons, List.drop_zero, Value.category, Nat.reduceAdd, Nat.reduceSub, true_and, and_true, true_or, or_true, reduceCtorEq, ite_true, ite_false, eq_self, Nat.reduceEqDiff, Nat.reduceLeDiff, nI_add, nI_1, nI_leI, nI_ltI, nI_eq, nI_clamp, kz_m1, kz_mn, kz_mn2, kz_n0, kz_0n, kz_0, kz_le0, kz_0lt, false_implies, true_implies, not_false_eq_true, not_true_eq_false, Nat.zero_le, kb_0, kz_10, kz_of, ky_sw, kz_mx, kz_mi, h0, h4, (h6 i hi).2.2.2]) | (refine ⟨vp_in_nI (by omega) (by omega), ?_⟩) | (refine ⟨fun zc => ?_, fun zc => ?_⟩ <;> try (exfalso; omega)) | fail)
  exact hQ
theorem kx65 (ha : kI a) (hS : kSc a f n X) (hn : n < 40) (hQ : ∀ f', kSc a f' (n + 1) (kxu X n x) → kfr a f f' (fun j => 48 ≤ j ∧ j ≤ 52) → Q (.inl none) f') : ky_cl adK 65 [.ref (a 48), .int (nI x.1), .int (nI x.2.1), .int (nI x.2.2.1), .int (nI x.2.2.2)] f Q := by
  obtain ⟨g1, g2, g3, g4, h0, h1, h2, h3, h4, h5, h6⟩ := id hS
  have e40 : (40 : Int32) = nI 40 := rfl
  refine ⟨Nat.le_of_ble_eq_true rfl, fun z => absurd z (by decide), ?_⟩; show ky_ok adK 65 0 [some (.ref (a 48)), some (.int (nI x.1)), some (.int (nI x.2.1)), some (.int (nI x.2.2.1)), some (.int (nI x.2.2.2))] [] f 0 0 _
  repeat' (first | (refine ky_ok_stp rfl ?_; simp (disch := first | omega | assumption) only [ky_stp, ky_inv, ky_ldi, ky_ldl, ky_ldd, ky_lda, ky_cl2, ky_st1, ky_st2, ky_s1i, ky_s2i, ky_s1l, ky_s2l, ky_sli, ky_s1f, ky_s2f, ky_s1d, ky_s2d, ky_sr, ky_sai, ky_sasi, ky_sasl, ky_sasr, ky_svr, ky_sv, ky_sv2, ky_s1, ky_cs, ky_pop, ky_nth, ky_snt, ky_obj, ky_ari, ky_arl, ky_arr, ky_arn, ky_fv, ky_rcv, List.map_cons, List.map_nil, List.drop_succ_cons, List.drop_zero, Value.category, Nat.reduceAdd, Nat.reduceSub, true_and, and_true, true_or, or_true, reduceCtorEq, ite_true, ite_false, eq_self, Nat.reduceEqDiff, Nat.reduceLeDiff, nI_add, nI_1, nI_leI, nI_ltI, nI_eq, nI_clamp, kz_m1, kz_mn, kz_mn2, kz_n0, kz_0n, kz_0, kz_le0, kz_0lt, false_implies, true_implies, not_false_eq_true, not_true_eq_false, Nat.zero_le, kb_0, kz_10, kz_of, ky_sw, kz_mx, kz_mi, h0, h1, h2, h3, h4, e40, kz_up, kI_ne ha]) | (refine ⟨vp_in_nI (by omega) (by omega), ?_⟩) | (refine ⟨fun zc => ?_, fun zc => ?_⟩ <;> try (exfalso; omega)) | fail)
  refine hQ _ ⟨upd g1 n (nI x.1), upd g2 n (nI x.2.1), upd g3 n (nI x.2.2.1), upd g4 n (nI x.2.2.2), ?_, ?_, ?_, ?_, ?_, by omega, fun i hi => ?_⟩ (kfr_up ha (kfr_up ha (kfr_up ha (kfr_up ha (kfr_up ha kfr_rf (by omega)) (by omega)) (by omega)) (by omega)) (by omega))
  · simp (disch := first | omega | assumption) only [kz_up, kI_ne ha, ite_true, ite_false]
  · simp (disch := first | omega | assumption) only [kz_up, kI_ne ha, ite_true, ite_false]
  · simp (disch := first | omega | assumption) only [kz_up, kI_ne ha, ite_true, ite_false]
  · simp (disch := first | omega | assumption) only [kz_up, kI_ne ha, ite_true, ite_false]
  · simp (disch := first | omega | assumption) only [kz_up, kI_ne ha, ite_true, ite_false]
  · unfold kxu
    by_cases e : i = n
    · subst e; rw [pk_us, pk_us, pk_us, pk_us, if_pos rfl]; exact ⟨rfl, rfl, rfl, rfl⟩
    · rw [pk_un e, pk_un e, pk_un e, pk_un e, if_neg e]; exact h6 i (by omega)
theorem kIw_cl {Ws : List (List Nat)} {w : List Nat} (h : ¬ kIw Ws w 0 = -1) (hn : Ws.length < 100) : kIw Ws w 0 = nI (kIw Ws w 0).toNatClampNeg ∧ (kIw Ws w 0).toNatClampNeg < Ws.length := by
  rcases kIw_r Ws w 0 with g | ⟨j, g1, g2, g3⟩
  · exact absurd g h
  · rw [g3, nI_clamp (by omega)]; exact ⟨rfl, by omega⟩
/-- the end of a command: it is put down, a semicolon is passed -/
theorem kx64 (ha : kI a) (hB : kB a 40 f 700 L c) (hs : s ≤ L) (hT : kTo a f c L s) (hS : kSc a f n X) (hn : n < 40) (hp : p < 60)
    (hQ : ∀ f', kTo a f' c L (kRv c L p s).2.1 → kfr a f f' kSF → ((kRv c L p s).1 = 0 → kSc a f' (n + 1) (kxu X n (kRv c L p s).2.2)) → kSc0 a f' → Q (.inl (some (.int (nI (kRv c L p s).1)))) f') :
    ky_cl adK 64 [.ref (a 48), .int (nI p)] f Q := by
  obtain ⟨g1, g2, g3, g4, h0, -⟩ := id hS
  have hT' := hT
  unfold kTo at hT'
  have e59 : (59 : Int32) = nI 59 := rfl
  have e00 : (0 : Int32) = nI 0 := rfl
  have hn1 := kTn_le (c := c) hs
  have hn2 := kTn_le (c := c) hn1.2
  have hv := kTv_le c L s
  refine ⟨Nat.le_of_ble_eq_true rfl, fun z => absurd z (by decide), ?_⟩; show ky_ok adK 64 0 [some (.ref (a 48)), some (.int (nI p)), none, none, none] [] f 0 0 _
  by_cases e1 : kTk c L s = 2
  case neg =>
    have e : kRv c L p s = (1, s, 0, 0, 0, 0) := by rw [kRv, if_pos e1]
    rw [e] at hQ
    repeat' (first | (refine kx85 (lo := 0) (hi := 59) hT (by decide) (by decide) ?_; simp only [ky_aft, ky_vl, Nat.reduceAdd]) | (refine ky_ok_stp rfl ?_; simp (disch := first | omega | assumption) only [ky_stp, ky_inv, ky_ldi, ky_ldl, ky_ldd, ky_lda, ky_cl2, ky_st1, ky_st2, ky_s1i, ky_s2i, ky_s1l, ky_s2l, ky_sli, ky_s1f, ky_s2f, ky_s1d, ky_s2d, ky_sr, ky_sai, ky_sasi, ky_sasl, ky_sasr, ky_svr, ky_sv, ky_sv2, ky_s1, ky_cs, ky_pop, ky_nth, ky_snt, ky_obj, ky_ari, ky_arl, ky_arr, ky_arn, ky_fv, ky_rcv, List.map_cons, List.map_nil, List.drop_succ_cons, List.drop_zero, Value.category, Nat.reduceAdd, Nat.reduceSub, true_and, and_true, true_or, or_true, reduceCtorEq, ite_true, ite_false, eq_self, Nat.reduceEqDiff, Nat.reduceLeDiff, nI_add, nI_1, nI_leI, nI_ltI, nI_eq, nI_clamp, kz_m1, kz_mn, kz_mn2, kz_n0, kz_0n, kz_0, kz_le0, kz_0lt, false_implies, true_implies, not_false_eq_true, not_true_eq_false, Nat.zero_le, kb_0, kz_10, kz_of, ky_sw, kz_mx, kz_mi, h0, hT', if_pos e1, e59]) | (refine ⟨vp_in_nI (by omega) (by omega), ?_⟩) | (refine ⟨fun zc => ?_, fun zc => ?_⟩ <;> try (exfalso; omega)) | fail)
    exact hQ f hT kfr_rf (fun z => by simp at z) (kSc_0 hS)
  by_cases e2 : kTv c L s < 0 ∨ 59 < kTv c L s
  case pos =>
    have e : kRv c L p s = (2, s, 0, 0, 0, 0) := by rw [kRv, if_neg (fun z => z e1), if_pos e2]
    rw [e] at hQ
    repeat' (first | (refine kx85 (lo := 0) (hi := 59) hT (by decide) (by decide) ?_; simp only [ky_aft, ky_vl, Nat.reduceAdd]) | (refine ky_ok_stp rfl ?_; simp (disch := first | omega | assumption) only [ky_stp, ky_inv, ky_ldi, ky_ldl, ky_ldd, ky_lda, ky_cl2, ky_st1, ky_st2, ky_s1i, ky_s2i, ky_s1l, ky_s2l, ky_sli, ky_s1f, ky_s2f, ky_s1d, ky_s2d, ky_sr, ky_sai, ky_sasi, ky_sasl, ky_sasr, ky_svr, ky_sv, ky_sv2, ky_s1, ky_cs, ky_pop, ky_nth, ky_snt, ky_obj, ky_ari, ky_arl, ky_arr, ky_arn, ky_fv, ky_rcv, List.map_cons, List.map_nil, List.drop_succ_cons, List.drop_zero, Value.category, Nat.reduceAdd, Nat.reduceSub, true_and, and_true, true_or, or_true, reduceCtorEq, ite_true, ite_false, eq_self, Nat.reduceEqDiff, Nat.reduceLeDiff, nI_add, nI_1, nI_leI, nI_ltI, nI_eq, nI_clamp, kz_m1, kz_mn, kz_mn2, kz_n0, kz_0n, kz_0, kz_le0, kz_0lt, false_implies, true_implies, not_false_eq_true, not_true_eq_false, Nat.zero_le, kb_0, kz_10, kz_of, ky_sw, kz_mx, kz_mi, h0, hT', if_neg (fun z : ¬ kTk c L s = 2 => z e1), if_pos e2, e59]) | (refine ⟨vp_in_nI (by omega) (by omega), ?_⟩) | (refine ⟨fun zc => ?_, fun zc => ?_⟩ <;> try (exfalso; omega)) | fail)
    exact hQ f hT kfr_rf (fun z => by simp at z) (kSc_0 hS)
  repeat' (first | (refine kx85 (lo := 0) (hi := 59) hT (by decide) (by decide) ?_; simp only [ky_aft, ky_vl, Nat.reduceAdd]) | (refine kx77 ha hB (kTe_le (c := c) hs).2 (kTo_b hT) ?_) | (refine ky_ok_stp rfl ?_; simp (disch := first | omega | assumption) only [ky_stp, ky_inv, ky_ldi, ky_ldl, ky_ldd, ky_lda, ky_cl2, ky_st1, ky_st2, ky_s1i, ky_s2i, ky_s1l, ky_s2l, ky_sli, ky_s1f, ky_s2f, ky_s1d, ky_s2d, ky_sr, ky_sai, ky_sasi, ky_sasl, ky_sasr, ky_svr, ky_sv, ky_sv2, ky_s1, ky_cs, ky_pop, ky_nth, ky_snt, ky_obj, ky_ari, ky_arl, ky_arr, ky_arn, ky_fv, ky_rcv, List.map_cons, List.map_nil, List.drop_succ_cons, List.drop_zero, Value.category, Nat.reduceAdd, Nat.reduceSub, true_and, and_true, true_or, or_true, reduceCtorEq, ite_true, ite_false, eq_self, Nat.reduceEqDiff, Nat.reduceLeDiff, nI_add, nI_1, nI_leI, nI_ltI, nI_eq, nI_clamp, kz_m1, kz_mn, kz_mn2, kz_n0, kz_0n, kz_0, kz_le0, kz_0lt, false_implies, true_implies, not_false_eq_true, not_true_eq_false, Nat.zero_le, kb_0, kz_10, kz_of, ky_sw, kz_mx, kz_mi, h0, hT', if_neg (fun z : ¬ kTk c L s = 2 => z e1), if_neg e2, e59]) | (refine ⟨vp_in_nI (by omega) (by omega), ?_⟩) | (refine ⟨fun zc => ?_, fun zc => ?_⟩ <;> try (exfalso; omega)) | fail)
  intro f2 hT2 hF2
  simp only [ky_aft, ky_vl, Nat.reduceAdd]
  change kTo a f2 c L (kTn c L s) at hT2
  have hB2 := kB40s hB (kf46s hF2)
  have hS2 := kSc46 hS hF2
  obtain ⟨g1, g2, g3, g4, t0, -⟩ := id hS2
  have hT2' := hT2
  unfold kTo at hT2'
  by_cases e3 : kIw kWwy (kTw c L (kTn c L s)) 0 = -1
  case pos =>
    have e : kRv c L p s = (1, kTn c L s, 0, 0, 0, 0) := by rw [kRv, if_neg (fun z => z e1), if_neg e2, if_pos e3]
    rw [e] at hQ
    repeat' (first | (refine kx84w (Ws := kWwy) (t := 8) (by decide) rfl (by decide) (by decide) (by decide) (by decide) hT2 ?_; simp only [ky_aft, ky_vl, Nat.reduceAdd]) | (refine ky_ok_stp rfl ?_; simp (disch := first | omega | assumption) only [ky_stp, ky_inv, ky_ldi, ky_ldl, ky_ldd, ky_lda, ky_cl2, ky_st1, ky_st2, ky_s1i, ky_s2i, ky_s1l, ky_s2l, ky_sli, ky_s1f, ky_s2f, ky_s1d, ky_s2d, ky_sr, ky_sai, ky_sasi, ky_sasl, ky_sasr, ky_svr, ky_sv, ky_sv2, ky_s1, ky_cs, ky_pop, ky_nth, ky_snt, ky_obj, ky_ari, ky_arl, ky_arr, ky_arn, ky_fv, ky_rcv, List.map_cons, List.map_nil, List.drop_succ_cons, List.drop_zero, Value.category, Nat.reduceAdd, Nat.reduceSub, true_and, and_true, true_or, or_true, reduceCtorEq, ite_true, ite_false, eq_self, Nat.reduceEqDiff, Nat.reduceLeDiff, nI_add, nI_1, nI_leI, nI_ltI, nI_eq, nI_clamp, kz_m1, kz_mn, kz_mn2, kz_n0, kz_0n, kz_0, kz_le0, kz_0lt, false_implies, true_implies, not_false_eq_true, not_true_eq_false, Nat.zero_le, kb_0, kz_10, kz_of, ky_sw, kz_mx, kz_mi, t0, hT2', eq_true e3]) | (refine ⟨vp_in_nI (by omega) (by omega), ?_⟩) | (refine ⟨fun zc => ?_, fun zc => ?_⟩ <;> try (exfalso; omega)) | fail)
    exact hQ f2 hT2 (kf46s hF2) (fun z => by simp at z) (kSc_0 hS2)
  have e : kRv c L p s = kRk c L (0, p, kTv c L s, kWay (kTw c L (kTn c L s))) (kTn c L (kTn c L s)) := by rw [kRv, if_neg (fun z => z e1), if_neg e2, if_neg e3]
  rw [e] at hQ
  have hcl := kIw_cl e3 (by decide)
  repeat' (first | (refine kx84w (Ws := kWwy) (t := 8) (by decide) rfl (by decide) (by decide) (by decide) (by decide) hT2 ?_; simp only [ky_aft, ky_vl, Nat.reduceAdd]) | (refine kx77 ha hB2 (kTe_le (c := c) hn1.2).2 (kTo_b hT2) ?_) | (refine ky_ok_stp rfl ?_; simp (disch := first | omega | assumption) only [ky_stp, ky_inv, ky_ldi, ky_ldl, ky_ldd, ky_lda, ky_cl2, ky_st1, ky_st2, ky_s1i, ky_s2i, ky_s1l, ky_s2l, ky_sli, ky_s1f, ky_s2f, ky_s1d, ky_s2d, ky_sr, ky_sai, ky_sasi, ky_sasl, ky_sasr, ky_svr, ky_sv, ky_sv2, ky_s1, ky_cs, ky_pop, ky_nth, ky_snt, ky_obj, ky_ari, ky_arl, ky_arr, ky_arn, ky_fv, ky_rcv, List.map_cons, List.map_nil, List.drop_succ_cons, List.drop_zero, Value.category, Nat.reduceAdd, Nat.reduceSub, true_and, and_true, true_or, or_true, reduceCtorEq, ite_true, ite_false, eq_self, Nat.reduceEqDiff, Nat.reduceLeDiff, nI_add, nI_1, nI_leI, nI_ltI, nI_eq, nI_clamp, kz_m1, kz_mn, kz_mn2, kz_n0, kz_0n, kz_0, kz_le0, kz_0lt, false_implies, true_implies, not_false_eq_true, not_true_eq_false, Nat.zero_le, kb_0, kz_10, kz_of, ky_sw, kz_mx, kz_mi, t0, hT2', eq_false e3]) | (refine ⟨vp_in_nI (by omega) (by omega), ?_⟩) | (refine ⟨fun zc => ?_, fun zc => ?_⟩ <;> try (exfalso; omega)) | fail)
  intro f3 hT3 hF3
  simp only [ky_aft, ky_vl, Nat.reduceAdd]
  change kTo a f3 c L (kTn c L (kTn c L s)) at hT3
  have hB3 := kB40s hB2 (kf46s hF3)
  have hS3 := kSc46 hS2 hF3
  obtain ⟨g1, g2, g3, g4, u0, -⟩ := id hS3
  rw [hcl.1]
  repeat' (first | (refine kx65 (x := (0, p, kTv c L s, kWay (kTw c L (kTn c L s)))) ha hS3 hn ?_) | (refine ky_ok_stp rfl ?_; simp (disch := first | omega | assumption) only [ky_stp, ky_inv, ky_ldi, ky_ldl, ky_ldd, ky_lda, ky_cl2, ky_st1, ky_st2, ky_s1i, ky_s2i, ky_s1l, ky_s2l, ky_sli, ky_s1f, ky_s2f, ky_s1d, ky_s2d, ky_sr, ky_sai, ky_sasi, ky_sasl, ky_sasr, ky_svr, ky_sv, ky_sv2, ky_s1, ky_cs, ky_pop, ky_nth, ky_snt, ky_obj, ky_ari, ky_arl, ky_arr, ky_arn, ky_fv, ky_rcv, List.map_cons, List.map_nil, List.drop_succ_cons, List.drop_zero, Value.category, Nat.reduceAdd, Nat.reduceSub, true_and, and_true, true_or, or_true, reduceCtorEq, ite_true, ite_false, eq_self, Nat.reduceEqDiff, Nat.reduceLeDiff, nI_add, nI_1, nI_leI, nI_ltI, nI_eq, nI_clamp, kz_m1, kz_mn, kz_mn2, kz_n0, kz_0n, kz_0, kz_le0, kz_0lt, false_implies, true_implies, not_false_eq_true, not_true_eq_false, Nat.zero_le, kb_0, kz_10, kz_of, ky_sw, kz_mx, kz_mi, u0, e00]) | (refine ⟨vp_in_nI (by omega) (by omega), ?_⟩) | (refine ⟨fun zc => ?_, fun zc => ?_⟩ <;> try (exfalso; omega)) | fail)
  intro f4 hS4 hF4
  simp only [ky_aft, ky_vl, Nat.reduceAdd]
  have hF4' : kfr a f3 f4 kSF := fun j hj => hF4 j (by unfold kSF at hj; omega)
  have hT4 : kTo a f4 c L _ := kTo_rb hT3 (hF4 46 (by omega))
  obtain ⟨g1, g2, g3, g4, v0, -⟩ := id hS4
  have hT4' := hT4
  unfold kTo at hT4'
  repeat' (first | (refine kx86c ha (kB40s hB3 hF4') hn2.2 hT4 ?_) | (refine ky_ok_stp rfl ?_; simp (disch := first | omega | assumption) only [ky_stp, ky_inv, ky_ldi, ky_ldl, ky_ldd, ky_lda, ky_cl2, ky_st1, ky_st2, ky_s1i, ky_s2i, ky_s1l, ky_s2l, ky_sli, ky_s1f, ky_s2f, ky_s1d, ky_s2d, ky_sr, ky_sai, ky_sasi, ky_sasl, ky_sasr, ky_svr, ky_sv, ky_sv2, ky_s1, ky_cs, ky_pop, ky_nth, ky_snt, ky_obj, ky_ari, ky_arl, ky_arr, ky_arn, ky_fv, ky_rcv, List.map_cons, List.map_nil, List.drop_succ_cons, List.drop_zero, Value.category, Nat.reduceAdd, Nat.reduceSub, true_and, and_true, true_or, or_true, reduceCtorEq, ite_true, ite_false, eq_self, Nat.reduceEqDiff, Nat.reduceLeDiff, nI_add, nI_1, nI_leI, nI_ltI, nI_eq, nI_clamp, kz_m1, kz_mn, kz_mn2, kz_n0, kz_0n, kz_0, kz_le0, kz_0lt, false_implies, true_implies, not_false_eq_true, not_true_eq_false, Nat.zero_le, kb_0, kz_10, kz_of, ky_sw, kz_mx, kz_mi, v0, hT4']) | (refine ⟨vp_in_nI (by omega) (by omega), ?_⟩) | (refine ⟨fun zc => ?_, fun zc => ?_⟩ <;> try (exfalso; omega)) | fail)
  intro f5 hT5 hF5
  simp only [ky_aft, ky_vl, Nat.reduceAdd]
  repeat' (first | (refine ky_ok_stp rfl ?_; simp (disch := first | omega | assumption) only [ky_stp, ky_inv, ky_ldi, ky_ldl, ky_ldd, ky_lda, ky_cl2, ky_st1, ky_st2, ky_s1i, ky_s2i, ky_s1l, ky_s2l, ky_sli, ky_s1f, ky_s2f, ky_s1d, ky_s2d, ky_sr, ky_sai, ky_sasi, ky_sasl, ky_sasr, ky_svr, ky_sv, ky_sv2, ky_s1, ky_cs, ky_pop, ky_nth, ky_snt, ky_obj, ky_ari, ky_arl, ky_arr, ky_arn, ky_fv, ky_rcv, List.map_cons, List.map_nil, List.drop_succ_cons, List.drop_zero, Value.category, Nat.reduceAdd, Nat.reduceSub, true_and, and_true, true_or, or_true, reduceCtorEq, ite_true, ite_false, eq_self, Nat.reduceEqDiff, Nat.reduceLeDiff, nI_add, nI_1, nI_leI, nI_ltI, nI_eq, nI_clamp, kz_m1, kz_mn, kz_mn2, kz_n0, kz_0n, kz_0, kz_le0, kz_0lt, false_implies, true_implies, not_false_eq_true, not_true_eq_false, Nat.zero_le, kb_0, kz_10, kz_of, ky_sw, kz_mx, kz_mi]) | (refine ⟨vp_in_nI (by omega) (by omega), ?_⟩) | (refine ⟨fun zc => ?_, fun zc => ?_⟩ <;> try (exfalso; omega)) | fail)
  exact hQ f5 hT5 (kfSS (kf46s hF2) (kfSS (kf46s hF3) (kfSS hF4' (kf46s hF5)))) (fun _ => kSc46 hS4 hF5) (kSc_0 (kSc46 hS4 hF5))
theorem kx63 (ha : kI a) (hB : kB a 40 f 700 L c) (hs : s ≤ L) (hT : kTo a f c L s) (hS : kSc a f n X)
    (hQ : ∀ f', kTo a f' c L (kRc c L n s).2.1 → kfr a f f' kSF → ((kRc c L n s).1 = 0 → kSc a f' (n + 1) (kxu X n (kRc c L n s).2.2)) → kSc0 a f' → Q (.inl (some (.int (nI (kRc c L n s).1)))) f') :
    ky_cl adK 63 [.ref (a 48)] f Q := by
  obtain ⟨g1, g2, g3, g4, h0, -, -, -, -, hn40, -⟩ := id hS
  have hT' := hT
  unfold kTo at hT'
  have e59 : (59 : Int32) = nI 59 := rfl
  have e40 : (40 : Int32) = nI 40 := rfl
  have e00 : (0 : Int32) = nI 0 := rfl
  have hn1 := kTn_le (c := c) hs
  have hn2 := kTn_le (c := c) hn1.2
  have hv := kTv_le c L (kTn c L s)
  refine ⟨Nat.le_of_ble_eq_true rfl, fun z => absurd z (by decide), ?_⟩; show ky_ok adK 63 0 [some (.ref (a 48)), none, none, none] [] f 0 0 _
  by_cases e0 : kIw kWcm (kTw c L s) 0 = -1
  case pos =>
    have e : kRc c L n s = (1, s, 0, 0, 0, 0) := by rw [kRc, if_pos e0]
    rw [e] at hQ
    repeat' (first | (refine kx84w (Ws := kWcm) (t := 7) (by decide) rfl (by decide) (by decide) (by decide) (by decide) hT ?_; simp only [ky_aft, ky_vl, Nat.reduceAdd]) | (refine ky_ok_stp rfl ?_; simp (disch := first | omega | assumption) only [ky_stp, ky_inv, ky_ldi, ky_ldl, ky_ldd, ky_lda, ky_cl2, ky_st1, ky_st2, ky_s1i, ky_s2i, ky_s1l, ky_s2l, ky_sli, ky_s1f, ky_s2f, ky_s1d, ky_s2d, ky_sr, ky_sai, ky_sasi, ky_sasl, ky_sasr, ky_svr, ky_sv, ky_sv2, ky_s1, ky_cs, ky_pop, ky_nth, ky_snt, ky_obj, ky_ari, ky_arl, ky_arr, ky_arn, ky_fv, ky_rcv, List.map_cons, List.map_nil, List.drop_succ_cons, List.drop_zero, Value.category, Nat.reduceAdd, Nat.reduceSub, true_and, and_true, true_or, or_true, reduceCtorEq, ite_true, ite_false, eq_self, Nat.reduceEqDiff, Nat.reduceLeDiff, nI_add, nI_1, nI_leI, nI_ltI, nI_eq, nI_clamp, kz_m1, kz_mn, kz_mn2, kz_n0, kz_0n, kz_0, kz_le0, kz_0lt, false_implies, true_implies, not_false_eq_true, not_true_eq_false, Nat.zero_le, kb_0, kz_10, kz_of, ky_sw, kz_mx, kz_mi, h0, hT', eq_true e0]) | (refine ⟨vp_in_nI (by omega) (by omega), ?_⟩) | (refine ⟨fun zc => ?_, fun zc => ?_⟩ <;> try (exfalso; omega)) | fail)
    exact hQ f hT kfr_rf (fun z => by simp at z) (kSc_0 hS)
  by_cases en : n = 40
  case pos =>
    have e : kRc c L n s = (4, s, 0, 0, 0, 0) := by rw [kRc, if_neg e0, if_pos en]
    rw [e] at hQ
    repeat' (first | (refine kx84w (Ws := kWcm) (t := 7) (by decide) rfl (by decide) (by decide) (by decide) (by decide) hT ?_; simp only [ky_aft, ky_vl, Nat.reduceAdd]) | (refine ky_ok_stp rfl ?_; simp (disch := first | omega | assumption) only [ky_stp, ky_inv, ky_ldi, ky_ldl, ky_ldd, ky_lda, ky_cl2, ky_st1, ky_st2, ky_s1i, ky_s2i, ky_s1l, ky_s2l, ky_sli, ky_s1f, ky_s2f, ky_s1d, ky_s2d, ky_sr, ky_sai, ky_sasi, ky_sasl, ky_sasr, ky_svr, ky_sv, ky_sv2, ky_s1, ky_cs, ky_pop, ky_nth, ky_snt, ky_obj, ky_ari, ky_arl, ky_arr, ky_arn, ky_fv, ky_rcv, List.map_cons, List.map_nil, List.drop_succ_cons, List.drop_zero, Value.category, Nat.reduceAdd, Nat.reduceSub, true_and, and_true, true_or, or_true, reduceCtorEq, ite_true, ite_false, eq_self, Nat.reduceEqDiff, Nat.reduceLeDiff, nI_add, nI_1, nI_leI, nI_ltI, nI_eq, nI_clamp, kz_m1, kz_mn, kz_mn2, kz_n0, kz_0n, kz_0, kz_le0, kz_0lt, false_implies, true_implies, not_false_eq_true, not_true_eq_false, Nat.zero_le, kb_0, kz_10, kz_of, ky_sw, kz_mx, kz_mi, h0, hT', e40, eq_false e0]) | (refine ⟨vp_in_nI (by omega) (by omega), ?_⟩) | (refine ⟨fun zc => ?_, fun zc => ?_⟩ <;> try (exfalso; omega)) | fail)
    exact hQ f hT kfr_rf (fun z => by simp at z) (kSc_0 hS)
  have hcl := kIw_cl e0 (by decide)
  repeat' (first | (refine kx84w (Ws := kWcm) (t := 7) (by decide) rfl (by decide) (by decide) (by decide) (by decide) hT ?_; simp only [ky_aft, ky_vl, Nat.reduceAdd]) | (refine kx77 ha hB (kTe_le (c := c) hs).2 (kTo_b hT) ?_) | (refine ky_ok_stp rfl ?_; simp (disch := first | omega | assumption) only [ky_stp, ky_inv, ky_ldi, ky_ldl, ky_ldd, ky_lda, ky_cl2, ky_st1, ky_st2, ky_s1i, ky_s2i, ky_s1l, ky_s2l, ky_sli, ky_s1f, ky_s2f, ky_s1d, ky_s2d, ky_sr, ky_sai, ky_sasi, ky_sasl, ky_sasr, ky_svr, ky_sv, ky_sv2, ky_s1, ky_cs, ky_pop, ky_nth, ky_snt, ky_obj, ky_ari, ky_arl, ky_arr, ky_arn, ky_fv, ky_rcv, List.map_cons, List.map_nil, List.drop_succ_cons, List.drop_zero, Value.category, Nat.reduceAdd, Nat.reduceSub, true_and, and_true, true_or, or_true, reduceCtorEq, ite_true, ite_false, eq_self, Nat.reduceEqDiff, Nat.reduceLeDiff, nI_add, nI_1, nI_leI, nI_ltI, nI_eq, nI_clamp, kz_m1, kz_mn, kz_mn2, kz_n0, kz_0n, kz_0, kz_le0, kz_0lt, false_implies, true_implies, not_false_eq_true, not_true_eq_false, Nat.zero_le, kb_0, kz_10, kz_of, ky_sw, kz_mx, kz_mi, h0, hT', e40, eq_false e0]) | (refine ⟨vp_in_nI (by omega) (by omega), ?_⟩) | (refine ⟨fun zc => ?_, fun zc => ?_⟩ <;> try (exfalso; omega)) | fail)
  intro f1 hT1 hF1
  simp only [ky_aft, ky_vl, Nat.reduceAdd]
  change kTo a f1 c L (kTn c L s) at hT1
  have hB1 := kB40s hB (kf46s hF1)
  have hS1 := kSc46 hS hF1
  obtain ⟨g1, g2, g3, g4, t0, -⟩ := id hS1
  have hT1' := hT1
  unfold kTo at hT1'
  by_cases e1 : kTk c L (kTn c L s) = 2
  case neg =>
    have e : kRc c L n s = (1, kTn c L s, 0, 0, 0, 0) := by rw [kRc, if_neg e0, if_neg en, if_pos e1]
    rw [e] at hQ
    repeat' (first | (refine kx85 (lo := 0) (hi := 59) hT1 (by decide) (by decide) ?_; simp only [ky_aft, ky_vl, Nat.reduceAdd]) | (refine ky_ok_stp rfl ?_; simp (disch := first | omega | assumption) only [ky_stp, ky_inv, ky_ldi, ky_ldl, ky_ldd, ky_lda, ky_cl2, ky_st1, ky_st2, ky_s1i, ky_s2i, ky_s1l, ky_s2l, ky_sli, ky_s1f, ky_s2f, ky_s1d, ky_s2d, ky_sr, ky_sai, ky_sasi, ky_sasl, ky_sasr, ky_svr, ky_sv, ky_sv2, ky_s1, ky_cs, ky_pop, ky_nth, ky_snt, ky_obj, ky_ari, ky_arl, ky_arr, ky_arn, ky_fv, ky_rcv, List.map_cons, List.map_nil, List.drop_succ_cons, List.drop_zero, Value.category, Nat.reduceAdd, Nat.reduceSub, true_and, and_true, true_or, or_true, reduceCtorEq, ite_true, ite_false, eq_self, Nat.reduceEqDiff, Nat.reduceLeDiff, nI_add, nI_1, nI_leI, nI_ltI, nI_eq, nI_clamp, kz_m1, kz_mn, kz_mn2, kz_n0, kz_0n, kz_0, kz_le0, kz_0lt, false_implies, true_implies, not_false_eq_true, not_true_eq_false, Nat.zero_le, kb_0, kz_10, kz_of, ky_sw, kz_mx, kz_mi, t0, hT1', if_pos e1, e59]) | (refine ⟨vp_in_nI (by omega) (by omega), ?_⟩) | (refine ⟨fun zc => ?_, fun zc => ?_⟩ <;> try (exfalso; omega)) | fail)
    exact hQ f1 hT1 (kf46s hF1) (fun z => by simp at z) (kSc_0 hS1)
  by_cases e2 : kTv c L (kTn c L s) < 0 ∨ 59 < kTv c L (kTn c L s)
  case pos =>
    have e : kRc c L n s = (2, kTn c L s, 0, 0, 0, 0) := by rw [kRc, if_neg e0, if_neg en, if_neg (fun z => z e1), if_pos e2]
    rw [e] at hQ
    repeat' (first | (refine kx85 (lo := 0) (hi := 59) hT1 (by decide) (by decide) ?_; simp only [ky_aft, ky_vl, Nat.reduceAdd]) | (refine ky_ok_stp rfl ?_; simp (disch := first | omega | assumption) only [ky_stp, ky_inv, ky_ldi, ky_ldl, ky_ldd, ky_lda, ky_cl2, ky_st1, ky_st2, ky_s1i, ky_s2i, ky_s1l, ky_s2l, ky_sli, ky_s1f, ky_s2f, ky_s1d, ky_s2d, ky_sr, ky_sai, ky_sasi, ky_sasl, ky_sasr, ky_svr, ky_sv, ky_sv2, ky_s1, ky_cs, ky_pop, ky_nth, ky_snt, ky_obj, ky_ari, ky_arl, ky_arr, ky_arn, ky_fv, ky_rcv, List.map_cons, List.map_nil, List.drop_succ_cons, List.drop_zero, Value.category, Nat.reduceAdd, Nat.reduceSub, true_and, and_true, true_or, or_true, reduceCtorEq, ite_true, ite_false, eq_self, Nat.reduceEqDiff, Nat.reduceLeDiff, nI_add, nI_1, nI_leI, nI_ltI, nI_eq, nI_clamp, kz_m1, kz_mn, kz_mn2, kz_n0, kz_0n, kz_0, kz_le0, kz_0lt, false_implies, true_implies, not_false_eq_true, not_true_eq_false, Nat.zero_le, kb_0, kz_10, kz_of, ky_sw, kz_mx, kz_mi, t0, hT1', if_neg (fun z : ¬ kTk c L (kTn c L s) = 2 => z e1), if_pos e2, e59]) | (refine ⟨vp_in_nI (by omega) (by omega), ?_⟩) | (refine ⟨fun zc => ?_, fun zc => ?_⟩ <;> try (exfalso; omega)) | fail)
    exact hQ f1 hT1 (kf46s hF1) (fun z => by simp at z) (kSc_0 hS1)
  repeat' (first | (refine kx85 (lo := 0) (hi := 59) hT1 (by decide) (by decide) ?_; simp only [ky_aft, ky_vl, Nat.reduceAdd]) | (refine kx77 ha hB1 (kTe_le (c := c) hn1.2).2 (kTo_b hT1) ?_) | (refine ky_ok_stp rfl ?_; simp (disch := first | omega | assumption) only [ky_stp, ky_inv, ky_ldi, ky_ldl, ky_ldd, ky_lda, ky_cl2, ky_st1, ky_st2, ky_s1i, ky_s2i, ky_s1l, ky_s2l, ky_sli, ky_s1f, ky_s2f, ky_s1d, ky_s2d, ky_sr, ky_sai, ky_sasi, ky_sasl, ky_sasr, ky_svr, ky_sv, ky_sv2, ky_s1, ky_cs, ky_pop, ky_nth, ky_snt, ky_obj, ky_ari, ky_arl, ky_arr, ky_arn, ky_fv, ky_rcv, List.map_cons, List.map_nil, List.drop_succ_cons, List.drop_zero, Value.category, Nat.reduceAdd, Nat.reduceSub, true_and, and_true, true_or, or_true, reduceCtorEq, ite_true, ite_false, eq_self, Nat.reduceEqDiff, Nat.reduceLeDiff, nI_add, nI_1, nI_leI, nI_ltI, nI_eq, nI_clamp, kz_m1, kz_mn, kz_mn2, kz_n0, kz_0n, kz_0, kz_le0, kz_0lt, false_implies, true_implies, not_false_eq_true, not_true_eq_false, Nat.zero_le, kb_0, kz_10, kz_of, ky_sw, kz_mx, kz_mi, t0, hT1', if_neg (fun z : ¬ kTk c L (kTn c L s) = 2 => z e1), if_neg e2, e59]) | (refine ⟨vp_in_nI (by omega) (by omega), ?_⟩) | (refine ⟨fun zc => ?_, fun zc => ?_⟩ <;> try (exfalso; omega)) | fail)
  intro f2 hT2 hF2
  simp only [ky_aft, ky_vl, Nat.reduceAdd]
  change kTo a f2 c L (kTn c L (kTn c L s)) at hT2
  have hF2' := kfSS (kf46s hF1) (kf46s hF2)
  have hB2 := kB40s hB1 (kf46s hF2)
  have hS2 := kSc46 hS1 hF2
  obtain ⟨g1, g2, g3, g4, u0, -⟩ := id hS2
  have hT2' := hT2
  unfold kTo at hT2'
  have hk8 : kCmd (kTw c L s) < 8 := hcl.2
  rw [hcl.1]
  by_cases e4 : kCmd (kTw c L s) = 0
  case pos =>
    have e : kRc c L n s = kRv c L (kTv c L (kTn c L s)) (kTn c L (kTn c L s)) := by rw [kRc, if_neg e0, if_neg en, if_neg (fun z => z e1), if_neg e2, if_pos e4]
    rw [e] at hQ
    have e4' : (kIw kWcm (kTw c L s) 0).toNatClampNeg = 0 := e4
    repeat' (first | (refine kx64 ha hB2 hn2.2 hT2 hS2 (by omega) (by omega) ?_) | (refine ky_ok_stp rfl ?_; simp (disch := first | omega | assumption) only [ky_stp, ky_inv, ky_ldi, ky_ldl, ky_ldd, ky_lda, ky_cl2, ky_st1, ky_st2, ky_s1i, ky_s2i, ky_s1l, ky_s2l, ky_sli, ky_s1f, ky_s2f, ky_s1d, ky_s2d, ky_sr, ky_sai, ky_sasi, ky_sasl, ky_sasr, ky_svr, ky_sv, ky_sv2, ky_s1, ky_cs, ky_pop, ky_nth, ky_snt, ky_obj, ky_ari, ky_arl, ky_arr, ky_arn, ky_fv, ky_rcv, List.map_cons, List.map_nil, List.drop_succ_cons, List.drop_zero, Value.category, Nat.reduceAdd, Nat.reduceSub, true_and, and_true, true_or, or_true, reduceCtorEq, ite_true, ite_false, eq_self, Nat.reduceEqDiff, Nat.reduceLeDiff, nI_add, nI_1, nI_leI, nI_ltI, nI_eq, nI_clamp, kz_m1, kz_mn, kz_mn2, kz_n0, kz_0n, kz_0, kz_le0, kz_0lt, false_implies, true_implies, not_false_eq_true, not_true_eq_false, Nat.zero_le, kb_0, kz_10, kz_of, ky_sw, kz_mx, kz_mi, u0, hT2', e4']) | (refine ⟨vp_in_nI (by omega) (by omega), ?_⟩) | (refine ⟨fun zc => ?_, fun zc => ?_⟩ <;> try (exfalso; omega)) | fail)
    intro f3 w1 w2 w3 w4
    simp only [ky_aft, ky_vl, Nat.reduceAdd]
    repeat' (first | (refine ky_ok_stp rfl ?_; simp (disch := first | omega | assumption) only [ky_stp, ky_inv, ky_ldi, ky_ldl, ky_ldd, ky_lda, ky_cl2, ky_st1, ky_st2, ky_s1i, ky_s2i, ky_s1l, ky_s2l, ky_sli, ky_s1f, ky_s2f, ky_s1d, ky_s2d, ky_sr, ky_sai, ky_sasi, ky_sasl, ky_sasr, ky_svr, ky_sv, ky_sv2, ky_s1, ky_cs, ky_pop, ky_nth, ky_snt, ky_obj, ky_ari, ky_arl, ky_arr, ky_arn, ky_fv, ky_rcv, List.map_cons, List.map_nil, List.drop_succ_cons, List.drop_zero, Value.category, Nat.reduceAdd, Nat.reduceSub, true_and, and_true, true_or, or_true, reduceCtorEq, ite_true, ite_false, eq_self, Nat.reduceEqDiff, Nat.reduceLeDiff, nI_add, nI_1, nI_leI, nI_ltI, nI_eq, nI_clamp, kz_m1, kz_mn, kz_mn2, kz_n0, kz_0n, kz_0, kz_le0, kz_0lt, false_implies, true_implies, not_false_eq_true, not_true_eq_false, Nat.zero_le, kb_0, kz_10, kz_of, ky_sw, kz_mx, kz_mi]) | (refine ⟨vp_in_nI (by omega) (by omega), ?_⟩) | (refine ⟨fun zc => ?_, fun zc => ?_⟩ <;> try (exfalso; omega)) | fail)
    exact hQ f3 w1 (kfSS hF2' w2) w3 w4
  have e : kRc c L n s = kRk c L (kCmd (kTw c L s), kTv c L (kTn c L s), kTv c L (kTn c L s), 0) (kTn c L (kTn c L s)) := by rw [kRc, if_neg e0, if_neg en, if_neg (fun z => z e1), if_neg e2, if_neg e4]
  rw [e] at hQ
  have e4' : (nI (kIw kWcm (kTw c L s) 0).toNatClampNeg = 0) = False := by rw [kz_0 (by have : (kIw kWcm (kTw c L s) 0).toNatClampNeg < 8 := hk8; omega)]; exact eq_false e4
  repeat' (first | (refine kx65 (x := (kCmd (kTw c L s), kTv c L (kTn c L s), kTv c L (kTn c L s), 0)) ha hS2 (by omega) ?_) | (refine ky_ok_stp rfl ?_; simp (disch := first | omega | assumption) only [ky_stp, ky_inv, ky_ldi, ky_ldl, ky_ldd, ky_lda, ky_cl2, ky_st1, ky_st2, ky_s1i, ky_s2i, ky_s1l, ky_s2l, ky_sli, ky_s1f, ky_s2f, ky_s1d, ky_s2d, ky_sr, ky_sai, ky_sasi, ky_sasl, ky_sasr, ky_svr, ky_sv, ky_sv2, ky_s1, ky_cs, ky_pop, ky_nth, ky_snt, ky_obj, ky_ari, ky_arl, ky_arr, ky_arn, ky_fv, ky_rcv, List.map_cons, List.map_nil, List.drop_succ_cons, List.drop_zero, Value.category, Nat.reduceAdd, Nat.reduceSub, true_and, and_true, true_or, or_true, reduceCtorEq, ite_true, ite_false, eq_self, Nat.reduceEqDiff, Nat.reduceLeDiff, nI_add, nI_1, nI_leI, nI_ltI, nI_eq, nI_clamp, kz_m1, kz_mn, kz_mn2, kz_n0, kz_0n, kz_0, kz_le0, kz_0lt, false_implies, true_implies, not_false_eq_true, not_true_eq_false, Nat.zero_le, kb_0, kz_10, kz_of, ky_sw, kz_mx, kz_mi, u0, hT2', e4']) | (refine ⟨vp_in_nI (by omega) (by omega), ?_⟩) | (refine ⟨fun zc => ?_, fun zc => ?_⟩ <;> try (exfalso; omega)) | fail)
  intro f4 hS4 hF4
  simp only [ky_aft, ky_vl, Nat.reduceAdd]
  have hF4' : kfr a f2 f4 kSF := fun j hj => hF4 j (by unfold kSF at hj; omega)
  have hT4 : kTo a f4 c L _ := kTo_rb hT2 (hF4 46 (by omega))
  obtain ⟨g1, g2, g3, g4, v0, -⟩ := id hS4
  have hT4' := hT4
  unfold kTo at hT4'
  repeat' (first | (refine kx86c ha (kB40s hB2 hF4') hn2.2 hT4 ?_) | (refine ky_ok_stp rfl ?_; simp (disch := first | omega | assumption) only [ky_stp, ky_inv, ky_ldi, ky_ldl, ky_ldd, ky_lda, ky_cl2, ky_st1, ky_st2, ky_s1i, ky_s2i, ky_s1l, ky_s2l, ky_sli, ky_s1f, ky_s2f, ky_s1d, ky_s2d, ky_sr, ky_sai, ky_sasi, ky_sasl, ky_sasr, ky_svr, ky_sv, ky_sv2, ky_s1, ky_cs, ky_pop, ky_nth, ky_snt, ky_obj, ky_ari, ky_arl, ky_arr, ky_arn, ky_fv, ky_rcv, List.map_cons, List.map_nil, List.drop_succ_cons, List.drop_zero, Value.category, Nat.reduceAdd, Nat.reduceSub, true_and, and_true, true_or, or_true, reduceCtorEq, ite_true, ite_false, eq_self, Nat.reduceEqDiff, Nat.reduceLeDiff, nI_add, nI_1, nI_leI, nI_ltI, nI_eq, nI_clamp, kz_m1, kz_mn, kz_mn2, kz_n0, kz_0n, kz_0, kz_le0, kz_0lt, false_implies, true_implies, not_false_eq_true, not_true_eq_false, Nat.zero_le, kb_0, kz_10, kz_of, ky_sw, kz_mx, kz_mi, v0, hT4']) | (refine ⟨vp_in_nI (by omega) (by omega), ?_⟩) | (refine ⟨fun zc => ?_, fun zc => ?_⟩ <;> try (exfalso; omega)) | fail)
  intro f5 hT5 hF5
  simp only [ky_aft, ky_vl, Nat.reduceAdd]
  repeat' (first | (refine ky_ok_stp rfl ?_; simp (disch := first | omega | assumption) only [ky_stp, ky_inv, ky_ldi, ky_ldl, ky_ldd, ky_lda, ky_cl2, ky_st1, ky_st2, ky_s1i, ky_s2i, ky_s1l, ky_s2l, ky_sli, ky_s1f, ky_s2f, ky_s1d, ky_s2d, ky_sr, ky_sai, ky_sasi, ky_sasl, ky_sasr, ky_svr, ky_sv, ky_sv2, ky_s1, ky_cs, ky_pop, ky_nth, ky_snt, ky_obj, ky_ari, ky_arl, ky_arr, ky_arn, ky_fv, ky_rcv, List.map_cons, List.map_nil, List.drop_succ_cons, List.drop_zero, Value.category, Nat.reduceAdd, Nat.reduceSub, true_and, and_true, true_or, or_true, reduceCtorEq, ite_true, ite_false, eq_self, Nat.reduceEqDiff, Nat.reduceLeDiff, nI_add, nI_1, nI_leI, nI_ltI, nI_eq, nI_clamp, kz_m1, kz_mn, kz_mn2, kz_n0, kz_0n, kz_0, kz_le0, kz_0lt, false_implies, true_implies, not_false_eq_true, not_true_eq_false, Nat.zero_le, kb_0, kz_10, kz_of, ky_sw, kz_mx, kz_mi]) | (refine ⟨vp_in_nI (by omega) (by omega), ?_⟩) | (refine ⟨fun zc => ?_, fun zc => ?_⟩ <;> try (exfalso; omega)) | fail)
  exact hQ f5 hT5 (kfSS hF2' (kfSS hF4' (kf46s hF5))) (fun _ => kSc46 hS4 hF5) (kSc_0 (kSc46 hS4 hF5))
theorem kx62 (ha : kI a) (hB : kB a 40 f 700 L c) (hT : kTk0 a f) (hS : kSc0 a f)
    (hE : ∀ f' e s', kRcs c L 700 0 (fun _ => (0, 0, 0, 0)) (kTs c L 0) = .inl (e, s') → e ≠ 0 → e ≤ 4 → kTo a f' c L s' → kSc0 a f' → kfr a f f' kSF → Q (.inl (some (.int (nI e)))) f')
    (hO : ∀ f' n X, kRcs c L 700 0 (fun _ => (0, 0, 0, 0)) (kTs c L 0) = .inr (n, X) → kSc a f' n X → kTk0 a f' → kfr a f f' kSF → Q (.inl (some (.int 0))) f') :
    ky_cl adK 62 [.ref (a 48)] f Q := by
  have loop : ∀ m i f n X s, i + m = 700 → kRcs c L 700 0 (fun _ => (0, 0, 0, 0)) (kTs c L 0) = kRcs c L m n X s → s ≤ L → kB a 40 f 700 L c → kTo a f c L s → kSc a f n X →
      (∀ f' e s', kRcs c L 700 0 (fun _ => (0, 0, 0, 0)) (kTs c L 0) = .inl (e, s') → e ≠ 0 → e ≤ 4 → kTo a f' c L s' → kSc0 a f' → kfr a f f' kSF → Q (.inl (some (.int (nI e)))) f') →
      (∀ f' n X, kRcs c L 700 0 (fun _ => (0, 0, 0, 0)) (kTs c L 0) = .inr (n, X) → kSc a f' n X → kTk0 a f' → kfr a f f' kSF → Q (.inl (some (.int 0))) f') →
      ky_ok adK 62 16 [some (.ref (a 48)), some (.int 0), some (.int (nI i))] [] f 0 0 Q := by
    have e700 : (700 : Int32) = nI 700 := rfl
    intro m
    induction m with
    | zero =>
      intro i f n X s hi hk hs hB hT hS hE hO
      repeat' (first | (refine ky_ok_stp rfl ?_; simp (disch := first | omega | assumption) only [ky_stp, ky_inv, ky_ldi, ky_ldl, ky_ldd, ky_lda, ky_cl2, ky_st1, ky_st2, ky_s1i, ky_s2i, ky_s1l, ky_s2l, ky_sli, ky_s1f, ky_s2f, ky_s1d, ky_s2d, ky_sr, ky_sai, ky_sasi, ky_sasl, ky_sasr, ky_svr, ky_sv, ky_sv2, ky_s1, ky_cs, ky_pop, ky_nth, ky_snt, ky_obj, ky_ari, ky_arl, ky_arr, ky_arn, ky_fv, ky_rcv, List.map_cons, List.map_nil, List.drop_succ_cons, List.drop_zero, Value.category, Nat.reduceAdd, Nat.reduceSub, true_and, and_true, true_or, or_true, reduceCtorEq, ite_true, ite_false, eq_self, Nat.reduceEqDiff, Nat.reduceLeDiff, nI_add, nI_1, nI_leI, nI_ltI, nI_eq, nI_clamp, kz_m1, kz_mn, kz_mn2, kz_n0, kz_0n, kz_0, kz_le0, kz_0lt, false_implies, true_implies, not_false_eq_true, not_true_eq_false, Nat.zero_le, kb_0, kz_10, kz_of, ky_sw, kz_mx, kz_mi, e700]) | (refine ⟨vp_in_nI (by omega) (by omega), ?_⟩) | (refine ⟨fun zc => ?_, fun zc => ?_⟩ <;> try (exfalso; omega)) | fail)
      exact hO f n X hk hS ⟨_, _, _, _, _, hT⟩ kfr_rf
    | succ m ih =>
      intro i f n X s hi hk hs hB hT hS hE hO
      obtain ⟨g1, g2, g3, g4, h0, -⟩ := id hS
      have hT' := hT
      unfold kTo at hT'
      have hk5 := kTk_le c L s
      conv at hk => rhs; rw [kRcs]
      (refine ky_ok_stp rfl ?_; simp (disch := first | omega | assumption) only [ky_stp, ky_inv, ky_ldi, ky_ldl, ky_ldd, ky_lda, ky_cl2, ky_st1, ky_st2, ky_s1i, ky_s2i, ky_s1l, ky_s2l, ky_sli, ky_s1f, ky_s2f, ky_s1d, ky_s2d, ky_sr, ky_sai, ky_sasi, ky_sasl, ky_sasr, ky_svr, ky_sv, ky_sv2, ky_s1, ky_cs, ky_pop, ky_nth, ky_snt, ky_obj, ky_ari, ky_arl, ky_arr, ky_arn, ky_fv, ky_rcv, List.map_cons, List.map_nil, List.drop_succ_cons, List.drop_zero, Value.category, Nat.reduceAdd, Nat.reduceSub, true_and, and_true, true_or, or_true, reduceCtorEq, ite_true, ite_false, eq_self, Nat.reduceEqDiff, Nat.reduceLeDiff, nI_add, nI_1, nI_leI, nI_ltI, nI_eq, nI_clamp, kz_m1, kz_mn, kz_mn2, kz_n0, kz_0n, kz_0, kz_le0, kz_0lt, false_implies, true_implies, not_false_eq_true, not_true_eq_false, Nat.zero_le, kb_0, kz_10, kz_of, ky_sw, kz_mx, kz_mi, h0])
      by_cases e0 : kTk c L s = 0
      · rw [if_pos e0] at hk
        repeat' (first | (refine ky_ok_stp rfl ?_; simp (disch := first | omega | assumption) only [ky_stp, ky_inv, ky_ldi, ky_ldl, ky_ldd, ky_lda, ky_cl2, ky_st1, ky_st2, ky_s1i, ky_s2i, ky_s1l, ky_s2l, ky_sli, ky_s1f, ky_s2f, ky_s1d, ky_s2d, ky_sr, ky_sai, ky_sasi, ky_sasl, ky_sasr, ky_svr, ky_sv, ky_sv2, ky_s1, ky_cs, ky_pop, ky_nth, ky_snt, ky_obj, ky_ari, ky_arl, ky_arr, ky_arn, ky_fv, ky_rcv, List.map_cons, List.map_nil, List.drop_succ_cons, List.drop_zero, Value.category, Nat.reduceAdd, Nat.reduceSub, true_and, and_true, true_or, or_true, reduceCtorEq, ite_true, ite_false, eq_self, Nat.reduceEqDiff, Nat.reduceLeDiff, nI_add, nI_1, nI_leI, nI_ltI, nI_eq, nI_clamp, kz_m1, kz_mn, kz_mn2, kz_n0, kz_0n, kz_0, kz_le0, kz_0lt, false_implies, true_implies, not_false_eq_true, not_true_eq_false, Nat.zero_le, kb_0, kz_10, kz_of, ky_sw, kz_mx, kz_mi, e700, h0, hT', e0]) | (refine ⟨vp_in_nI (by omega) (by omega), ?_⟩) | (refine ⟨fun zc => ?_, fun zc => ?_⟩ <;> try (exfalso; omega)) | fail)
        exact hO f n X hk hS ⟨_, _, _, _, _, hT⟩ kfr_rf
      · rw [if_neg e0] at hk
        have h54 := (kRc_s (c := c) (n := n) hs)
        repeat' (first | (refine kx63 ha hB hs hT hS ?_) | (refine ky_ok_stp rfl ?_; simp (disch := first | omega | assumption) only [ky_stp, ky_inv, ky_ldi, ky_ldl, ky_ldd, ky_lda, ky_cl2, ky_st1, ky_st2, ky_s1i, ky_s2i, ky_s1l, ky_s2l, ky_sli, ky_s1f, ky_s2f, ky_s1d, ky_s2d, ky_sr, ky_sai, ky_sasi, ky_sasl, ky_sasr, ky_svr, ky_sv, ky_sv2, ky_s1, ky_cs, ky_pop, ky_nth, ky_snt, ky_obj, ky_ari, ky_arl, ky_arr, ky_arn, ky_fv, ky_rcv, List.map_cons, List.map_nil, List.drop_succ_cons, List.drop_zero, Value.category, Nat.reduceAdd, Nat.reduceSub, true_and, and_true, true_or, or_true, reduceCtorEq, ite_true, ite_false, eq_self, Nat.reduceEqDiff, Nat.reduceLeDiff, nI_add, nI_1, nI_leI, nI_ltI, nI_eq, nI_clamp, kz_m1, kz_mn, kz_mn2, kz_n0, kz_0n, kz_0, kz_le0, kz_0lt, false_implies, true_implies, not_false_eq_true, not_true_eq_false, Nat.zero_le, kb_0, kz_10, kz_of, ky_sw, kz_mx, kz_mi, e700, h0, hT', kz_0, eq_false e0]) | (refine ⟨vp_in_nI (by omega) (by omega), ?_⟩) | (refine ⟨fun zc => ?_, fun zc => ?_⟩ <;> try (exfalso; omega)) | fail)
        intro f1 hT1 hF1 hw1 hz1
        simp only [ky_aft, ky_vl, Nat.reduceAdd]
        by_cases e1 : (kRc c L n s).1 = 0
        · rw [if_pos e1] at hk
          have hS2 := hw1 e1
          rw [e1]
          repeat' (first | (refine ih (i + 1) f1 _ _ _ (by omega) hk h54.1 (kB40s hB hF1) hT1 hS2 ?_ ?_) | (refine ky_ok_stp rfl ?_; simp (disch := first | omega | assumption) only [ky_stp, ky_inv, ky_ldi, ky_ldl, ky_ldd, ky_lda, ky_cl2, ky_st1, ky_st2, ky_s1i, ky_s2i, ky_s1l, ky_s2l, ky_sli, ky_s1f, ky_s2f, ky_s1d, ky_s2d, ky_sr, ky_sai, ky_sasi, ky_sasl, ky_sasr, ky_svr, ky_sv, ky_sv2, ky_s1, ky_cs, ky_pop, ky_nth, ky_snt, ky_obj, ky_ari, ky_arl, ky_arr, ky_arn, ky_fv, ky_rcv, List.map_cons, List.map_nil, List.drop_succ_cons, List.drop_zero, Value.category, Nat.reduceAdd, Nat.reduceSub, true_and, and_true, true_or, or_true, reduceCtorEq, ite_true, ite_false, eq_self, Nat.reduceEqDiff, Nat.reduceLeDiff, nI_add, nI_1, nI_leI, nI_ltI, nI_eq, nI_clamp, kz_m1, kz_mn, kz_mn2, kz_n0, kz_0n, kz_0, kz_le0, kz_0lt, false_implies, true_implies, not_false_eq_true, not_true_eq_false, Nat.zero_le, kb_0, kz_10, kz_of, ky_sw, kz_mx, kz_mi]) | (refine ⟨vp_in_nI (by omega) (by omega), ?_⟩) | (refine ⟨fun zc => ?_, fun zc => ?_⟩ <;> try (exfalso; omega)) | fail)
          · intro f' e s' w1 w2 w3 w4 w5 w6; exact hE f' e s' w1 w2 w3 w4 w5 (kfSS hF1 w6)
          · intro f' n2 X2 w1 w2 w3 w4; exact hO f' n2 X2 w1 w2 w3 (kfSS hF1 w4)
        · rw [if_neg e1] at hk
          repeat' (first | (refine ky_ok_stp rfl ?_; simp (disch := first | omega | assumption) only [ky_stp, ky_inv, ky_ldi, ky_ldl, ky_ldd, ky_lda, ky_cl2, ky_st1, ky_st2, ky_s1i, ky_s2i, ky_s1l, ky_s2l, ky_sli, ky_s1f, ky_s2f, ky_s1d, ky_s2d, ky_sr, ky_sai, ky_sasi, ky_sasl, ky_sasr, ky_svr, ky_sv, ky_sv2, ky_s1, ky_cs, ky_pop, ky_nth, ky_snt, ky_obj, ky_ari, ky_arl, ky_arr, ky_arn, ky_fv, ky_rcv, List.map_cons, List.map_nil, List.drop_succ_cons, List.drop_zero, Value.category, Nat.reduceAdd, Nat.reduceSub, true_and, and_true, true_or, or_true, reduceCtorEq, ite_true, ite_false, eq_self, Nat.reduceEqDiff, Nat.reduceLeDiff, nI_add, nI_1, nI_leI, nI_ltI, nI_eq, nI_clamp, kz_m1, kz_mn, kz_mn2, kz_n0, kz_0n, kz_0, kz_le0, kz_0lt, false_implies, true_implies, not_false_eq_true, not_true_eq_false, Nat.zero_le, kb_0, kz_10, kz_of, ky_sw, kz_mx, kz_mi, e700]) | (refine ⟨vp_in_nI (by omega) (by omega), ?_⟩) | (refine ⟨fun zc => ?_, fun zc => ?_⟩ <;> try (exfalso; omega)) | fail)
          · exact hE f1 _ _ hk e1 h54.2 hT1 hz1 hF1
          · exact hE f1 _ _ hk e1 h54.2 hT1 hz1 hF1
  obtain ⟨n0, g1, g2, g3, g4, h0, h1, h2, h3, h4⟩ := id hS
  obtain ⟨_, _, _, _, _, hT'⟩ := id hT
  have hF1 : kfr a f (ky_up f (a 48) (.inr (5, [.int (nI 0), .ref (a 49), .ref (a 50), .ref (a 51), .ref (a 52), .ref (a 46)]))) kSF := kfr_up ha kfr_rf (by unfold kSF; omega)
  have hS1 : kSc a (ky_up f (a 48) (.inr (5, [.int (nI 0), .ref (a 49), .ref (a 50), .ref (a 51), .ref (a 52), .ref (a 46)]))) 0 (fun _ => (0, 0, 0, 0)) := ⟨g1, g2, g3, g4, kz_same, (kz_ne (fun z => absurd (ha _ _ z) (by decide))).trans h1, (kz_ne (fun z => absurd (ha _ _ z) (by decide))).trans h2, (kz_ne (fun z => absurd (ha _ _ z) (by decide))).trans h3, (kz_ne (fun z => absurd (ha _ _ z) (by decide))).trans h4, by decide, fun i hi => absurd hi (Nat.not_lt_zero i)⟩
  have hT1 : kTk0 a (ky_up f (a 48) (.inr (5, [.int (nI 0), .ref (a 49), .ref (a 50), .ref (a 51), .ref (a 52), .ref (a 46)]))) := kTk0_fr hT (kz_ne (fun z => absurd (ha _ _ z) (by decide)))
  refine ⟨Nat.le_of_ble_eq_true rfl, fun z => absurd z (by decide), ?_⟩; show ky_ok adK 62 0 [some (.ref (a 48)), none, none] [] f 0 0 _
  repeat' (first | (refine kx76 ha (kB40s hB hF1) hT1 ?_) | (refine ky_ok_stp rfl ?_; simp (disch := first | omega | assumption) only [ky_stp, ky_inv, ky_ldi, ky_ldl, ky_ldd, ky_lda, ky_cl2, ky_st1, ky_st2, ky_s1i, ky_s2i, ky_s1l, ky_s2l, ky_sli, ky_s1f, ky_s2f, ky_s1d, ky_s2d, ky_sr, ky_sai, ky_sasi, ky_sasl, ky_sasr, ky_svr, ky_sv, ky_sv2, ky_s1, ky_cs, ky_pop, ky_nth, ky_snt, ky_obj, ky_ari, ky_arl, ky_arr, ky_arn, ky_fv, ky_rcv, List.map_cons, List.map_nil, List.drop_succ_cons, List.drop_zero, Value.category, Nat.reduceAdd, Nat.reduceSub, true_and, and_true, true_or, or_true, reduceCtorEq, ite_true, ite_false, eq_self, Nat.reduceEqDiff, Nat.reduceLeDiff, nI_add, nI_1, nI_leI, nI_ltI, nI_eq, nI_clamp, kz_m1, kz_mn, kz_mn2, kz_n0, kz_0n, kz_0, kz_le0, kz_0lt, false_implies, true_implies, not_false_eq_true, not_true_eq_false, Nat.zero_le, kb_0, kz_10, kz_of, ky_sw, kz_mx, kz_mi, h0, hT', kz_up, kI_ne ha]) | (refine ⟨vp_in_nI (by omega) (by omega), ?_⟩) | (refine ⟨fun zc => ?_, fun zc => ?_⟩ <;> try (exfalso; omega)) | fail)
  intro f2 hT2 hF2
  simp only [ky_aft, ky_vl, Nat.reduceAdd]
  have hF2' := kfSS hF1 (kf46s hF2)
  repeat' (first | (refine loop 700 0 f2 0 _ (kTs c L 0) rfl rfl (kTs_le (Nat.zero_le L)).2 (kB40s hB hF2') hT2 (kSc46 hS1 hF2) ?_ ?_) | (refine ky_ok_stp rfl ?_; simp (disch := first | omega | assumption) only [ky_stp, ky_inv, ky_ldi, ky_ldl, ky_ldd, ky_lda, ky_cl2, ky_st1, ky_st2, ky_s1i, ky_s2i, ky_s1l, ky_s2l, ky_sli, ky_s1f, ky_s2f, ky_s1d, ky_s2d, ky_sr, ky_sai, ky_sasi, ky_sasl, ky_sasr, ky_svr, ky_sv, ky_sv2, ky_s1, ky_cs, ky_pop, ky_nth, ky_snt, ky_obj, ky_ari, ky_arl, ky_arr, ky_arn, ky_fv, ky_rcv, List.map_cons, List.map_nil, List.drop_succ_cons, List.drop_zero, Value.category, Nat.reduceAdd, Nat.reduceSub, true_and, and_true, true_or, or_true, reduceCtorEq, ite_true, ite_false, eq_self, Nat.reduceEqDiff, Nat.reduceLeDiff, nI_add, nI_1, nI_leI, nI_ltI, nI_eq, nI_clamp, kz_m1, kz_mn, kz_mn2, kz_n0, kz_0n, kz_0, kz_le0, kz_0lt, false_implies, true_implies, not_false_eq_true, not_true_eq_false, Nat.zero_le, kb_0, kz_10, kz_of, ky_sw, kz_mx, kz_mi]) | (refine ⟨vp_in_nI (by omega) (by omega), ?_⟩) | (refine ⟨fun zc => ?_, fun zc => ?_⟩ <;> try (exfalso; omega)) | fail)
  · intro f' e s' w1 w2 w3 w4 w5 w6; exact hE f' e s' w1 w2 w3 w4 w5 (kfSS hF2' w6)
  · intro f' n2 X2 w1 w2 w3 w4; exact hO f' n2 X2 w1 w2 w3 (kfSS hF2' w4)
end KXV
