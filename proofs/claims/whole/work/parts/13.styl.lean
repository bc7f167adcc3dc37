/-! ## styles -/
/-- the styles of an outline's block: kinds, starts, own, on by levels -/
def kS (a : Nat → Nat) (k : Nat) (f : ky_H) (S : Nat → Nat → Int32) : Prop :=
  f (a (k + 1)) = some (.inr (6, [.ref (a (k + 2)), .ref (a (k + 3)), .ref (a (k + 4)), .ref (a (k + 5))])) ∧ f (a (k + 2)) = some (.inl (1, 7, .inl (S 0))) ∧ f (a (k + 3)) = some (.inl (1, 7, .inl (S 1))) ∧ f (a (k + 4)) = some (.inl (3, 7, .inl (S 2))) ∧ f (a (k + 5)) = some (.inl (3, 7, .inl (S 3))) ∧ ∀ l, k01 (S 2 l) ∧ k01 (S 3 l)
theorem kS_fr {a : Nat → Nat} {k : Nat} {f f' : ky_H} {S : Nat → Nat → Int32} (h : kS a k f S) (hf : ∀ j, k + 1 ≤ j → j ≤ k + 5 → f' (a j) = f (a j)) : kS a k f' S := by
  obtain ⟨h1, h2, h3, h4, h5, h6⟩ := h
  exact ⟨(hf _ (by omega) (by omega)).trans h1, (hf _ (by omega) (by omega)).trans h2, (hf _ (by omega) (by omega)).trans h3, (hf _ (by omega) (by omega)).trans h4, (hf _ (by omega) (by omega)).trans h5, h6⟩
def kSB (k : Nat) : Nat → Prop := fun j => k + 1 ≤ j ∧ j ≤ k + 5
def ksu (S : Nat → Nat → Int32) (c l : Nat) (x : Int32) : Nat → Nat → Int32 := fun d => if d = c then upd (S c) l x else S d
theorem k01_upd {g : Nat → Int32} {c : Nat} {x : Int32} (h : ∀ l, k01 (g l)) (hx : k01 x) : ∀ l, k01 (upd g c x l) := by
  intro l; unfold upd; split
  · exact hx
  · exact h l
section KXS
variable {adK a : Nat → Nat} {k k2 l : Nat} {f : ky_H} {S S2 : Nat → Nat → Int32} {Q : ky_Q} {x kd st ow on : Int32}
theorem kx133 (hy : ∀ l, 1 ≤ l → l ≤ 6 → x = nI l → Q (.inl (some (.int 1))) f) (hz : (∀ l, 1 ≤ l → l ≤ 6 → x ≠ nI l) → Q (.inl (some (.int 0))) f) : ky_cl adK 133 [.int x] f Q := by
  refine ⟨Nat.le_of_ble_eq_true rfl, fun z => absurd z (by decide), ?_⟩
  show ky_ok adK 133 0 [some (.int x)] [] f 0 0 _
  repeat' (first
    | (refine ky_ok_stp rfl ?_; simp (disch := first | omega | assumption) only [ky_stp, ky_inv, ky_ldi, ky_ldl, ky_ldd, ky_lda, ky_cl2, ky_st1, ky_st2, ky_s1i, ky_s2i, ky_s1l, ky_s2l, ky_sli, ky_s1f, ky_s2f, ky_s1d, ky_s2d, ky_sr, ky_sai, ky_sasi, ky_sasl, ky_sasr, ky_svr, ky_sv, ky_sv2, ky_s1, ky_cs, ky_pop, ky_nth, ky_snt, ky_obj, ky_ari, ky_arl, ky_arr, ky_arn, ky_fv, ky_rcv, List.map_cons, List.map_nil, List.drop_succ_cons, List.drop_zero, Value.category, Nat.reduceAdd, Nat.reduceSub, true_and, and_true, true_or, or_true, reduceCtorEq, ite_true, ite_false, eq_self, Nat.reduceEqDiff, Nat.reduceLeDiff, nI_add, nI_1, nI_leI, nI_ltI, nI_eq, nI_clamp, kz_m1, kz_mn, kz_mn2, kz_n0, kz_0n, kz_0, kz_le0, kz_0lt, false_implies, true_implies, not_false_eq_true, not_true_eq_false, Nat.zero_le, kb_0, kz_10, kz_of, ky_sw])
    | (refine ⟨vp_in_nI (by omega) (by omega), ?_⟩)
    | (refine ⟨fun zc => ?_, fun zc => ?_⟩ <;> try (exfalso; omega))
    | fail)
  · refine hz fun l h1 h2 e => ?_
    subst e
    exact absurd zc (nI_nlt h1 (by omega))
  · refine hz fun l h1 h2 e => ?_
    subst e
    exact absurd zc (nI_nlt (a := 6) h2 (by decide))
  · next zc1 =>
    have zc2 := zc
    obtain ⟨l, hl, rfl⟩ := nI_of2 (x := x) (M := 6) (n := 6) (by decide) (fun z => zc1 (Int32.lt_trans z (by decide))) (Int32.not_lt.mp zc2)
    refine hy l ?_ hl rfl
    by_cases h0 : l = 0
    · subst h0; exact absurd (show nI 0 < 1 by decide) zc1
    · omega
theorem kx133v (h1 : 1 ≤ l) (h6 : l ≤ 6) (hQ : Q (.inl (some (.int 1))) f) : ky_cl adK 133 [.int (nI l)] f Q := kx133 (fun _ _ _ _ => hQ) fun h => absurd rfl (h l h1 h6)
theorem kx71 (hS : kS a k f S) (h1 : 1 ≤ l) (h6 : l ≤ 6) (hQ : Q (.inl (some (.int (S 0 l)))) f) : ky_cl adK 71 [.ref (a (k + 1)), .int (nI l)] f Q := by
  obtain ⟨g1, g2, g3, g4, g5, gb⟩ := hS
  refine ⟨Nat.le_of_ble_eq_true rfl, fun z => absurd z (by decide), ?_⟩
  show ky_ok adK 71 0 [some (.ref (a (k + 1))), some (.int (nI l))] [] f 0 0 _
  repeat' (first
    | (refine kx133v h1 h6 ?_; simp only [ky_aft, ky_vl, Nat.reduceAdd])
    | (refine ky_ok_stp rfl ?_; simp (disch := first | omega | assumption) only [ky_stp, ky_inv, ky_ldi, ky_ldl, ky_ldd, ky_lda, ky_cl2, ky_st1, ky_st2, ky_s1i, ky_s2i, ky_s1l, ky_s2l, ky_sli, ky_s1f, ky_s2f, ky_s1d, ky_s2d, ky_sr, ky_sai, ky_sasi, ky_sasl, ky_sasr, ky_svr, ky_sv, ky_sv2, ky_s1, ky_cs, ky_pop, ky_nth, ky_snt, ky_obj, ky_ari, ky_arl, ky_arr, ky_arn, ky_fv, ky_rcv, List.map_cons, List.map_nil, List.drop_succ_cons, List.drop_zero, Value.category, Nat.reduceAdd, Nat.reduceSub, true_and, and_true, true_or, or_true, reduceCtorEq, ite_true, ite_false, eq_self, Nat.reduceEqDiff, Nat.reduceLeDiff, nI_add, nI_1, nI_leI, nI_ltI, nI_eq, nI_clamp, kz_m1, kz_mn, kz_mn2, kz_n0, kz_0n, kz_0, kz_le0, kz_0lt, false_implies, true_implies, not_false_eq_true, not_true_eq_false, Nat.zero_le, kb_0, kz_10, kz_of, ky_sw, g1, g2, g3, g4, g5])
    | (refine ⟨vp_in_nI (by omega) (by omega), ?_⟩)
    | (refine ⟨fun zc => ?_, fun zc => ?_⟩ <;> try (exfalso; omega))
    | fail)
  exact hQ
theorem kx72 (hS : kS a k f S) (h1 : 1 ≤ l) (h6 : l ≤ 6) (hQ : Q (.inl (some (.int (S 1 l)))) f) : ky_cl adK 72 [.ref (a (k + 1)), .int (nI l)] f Q := by
  obtain ⟨g1, g2, g3, g4, g5, gb⟩ := hS
  refine ⟨Nat.le_of_ble_eq_true rfl, fun z => absurd z (by decide), ?_⟩
  show ky_ok adK 72 0 [some (.ref (a (k + 1))), some (.int (nI l))] [] f 0 0 _
  repeat' (first
    | (refine kx133v h1 h6 ?_; simp only [ky_aft, ky_vl, Nat.reduceAdd])
    | (refine ky_ok_stp rfl ?_; simp (disch := first | omega | assumption) only [ky_stp, ky_inv, ky_ldi, ky_ldl, ky_ldd, ky_lda, ky_cl2, ky_st1, ky_st2, ky_s1i, ky_s2i, ky_s1l, ky_s2l, ky_sli, ky_s1f, ky_s2f, ky_s1d, ky_s2d, ky_sr, ky_sai, ky_sasi, ky_sasl, ky_sasr, ky_svr, ky_sv, ky_sv2, ky_s1, ky_cs, ky_pop, ky_nth, ky_snt, ky_obj, ky_ari, ky_arl, ky_arr, ky_arn, ky_fv, ky_rcv, List.map_cons, List.map_nil, List.drop_succ_cons, List.drop_zero, Value.category, Nat.reduceAdd, Nat.reduceSub, true_and, and_true, true_or, or_true, reduceCtorEq, ite_true, ite_false, eq_self, Nat.reduceEqDiff, Nat.reduceLeDiff, nI_add, nI_1, nI_leI, nI_ltI, nI_eq, nI_clamp, kz_m1, kz_mn, kz_mn2, kz_n0, kz_0n, kz_0, kz_le0, kz_0lt, false_implies, true_implies, not_false_eq_true, not_true_eq_false, Nat.zero_le, kb_0, kz_10, kz_of, ky_sw, g1, g2, g3, g4, g5])
    | (refine ⟨vp_in_nI (by omega) (by omega), ?_⟩)
    | (refine ⟨fun zc => ?_, fun zc => ?_⟩ <;> try (exfalso; omega))
    | fail)
  exact hQ
theorem kx73 (hS : kS a k f S) (h1 : 1 ≤ l) (h6 : l ≤ 6) (hQ : Q (.inl (some (.int (S 2 l)))) f) : ky_cl adK 73 [.ref (a (k + 1)), .int (nI l)] f Q := by
  obtain ⟨g1, g2, g3, g4, g5, gb⟩ := hS
  refine ⟨Nat.le_of_ble_eq_true rfl, fun z => absurd z (by decide), ?_⟩
  show ky_ok adK 73 0 [some (.ref (a (k + 1))), some (.int (nI l))] [] f 0 0 _
  repeat' (first
    | (refine kx133v h1 h6 ?_; simp only [ky_aft, ky_vl, Nat.reduceAdd])
    | (refine ky_ok_stp rfl ?_; simp (disch := first | omega | assumption) only [ky_stp, ky_inv, ky_ldi, ky_ldl, ky_ldd, ky_lda, ky_cl2, ky_st1, ky_st2, ky_s1i, ky_s2i, ky_s1l, ky_s2l, ky_sli, ky_s1f, ky_s2f, ky_s1d, ky_s2d, ky_sr, ky_sai, ky_sasi, ky_sasl, ky_sasr, ky_svr, ky_sv, ky_sv2, ky_s1, ky_cs, ky_pop, ky_nth, ky_snt, ky_obj, ky_ari, ky_arl, ky_arr, ky_arn, ky_fv, ky_rcv, List.map_cons, List.map_nil, List.drop_succ_cons, List.drop_zero, Value.category, Nat.reduceAdd, Nat.reduceSub, true_and, and_true, true_or, or_true, reduceCtorEq, ite_true, ite_false, eq_self, Nat.reduceEqDiff, Nat.reduceLeDiff, nI_add, nI_1, nI_leI, nI_ltI, nI_eq, nI_clamp, kz_m1, kz_mn, kz_mn2, kz_n0, kz_0n, kz_0, kz_le0, kz_0lt, false_implies, true_implies, not_false_eq_true, not_true_eq_false, Nat.zero_le, kb_0, kz_10, kz_of, ky_sw, g1, g2, g3, g4, g5])
    | (refine ⟨vp_in_nI (by omega) (by omega), ?_⟩)
    | (refine ⟨fun zc => ?_, fun zc => ?_⟩ <;> try (exfalso; omega))
    | fail)
  · rw [← k01_kb (gb l).1, ← kb_f (by assumption)] at hQ; exact hQ
  · rw [← k01_kb (gb l).1, ← kb_t (by assumption)] at hQ; exact hQ
theorem kx74 (hS : kS a k f S) (h1 : 1 ≤ l) (h6 : l ≤ 6) (hQ : Q (.inl (some (.int (S 3 l)))) f) : ky_cl adK 74 [.ref (a (k + 1)), .int (nI l)] f Q := by
  obtain ⟨g1, g2, g3, g4, g5, gb⟩ := hS
  refine ⟨Nat.le_of_ble_eq_true rfl, fun z => absurd z (by decide), ?_⟩
  show ky_ok adK 74 0 [some (.ref (a (k + 1))), some (.int (nI l))] [] f 0 0 _
  repeat' (first
    | (refine kx133v h1 h6 ?_; simp only [ky_aft, ky_vl, Nat.reduceAdd])
    | (refine ky_ok_stp rfl ?_; simp (disch := first | omega | assumption) only [ky_stp, ky_inv, ky_ldi, ky_ldl, ky_ldd, ky_lda, ky_cl2, ky_st1, ky_st2, ky_s1i, ky_s2i, ky_s1l, ky_s2l, ky_sli, ky_s1f, ky_s2f, ky_s1d, ky_s2d, ky_sr, ky_sai, ky_sasi, ky_sasl, ky_sasr, ky_svr, ky_sv, ky_sv2, ky_s1, ky_cs, ky_pop, ky_nth, ky_snt, ky_obj, ky_ari, ky_arl, ky_arr, ky_arn, ky_fv, ky_rcv, List.map_cons, List.map_nil, List.drop_succ_cons, List.drop_zero, Value.category, Nat.reduceAdd, Nat.reduceSub, true_and, and_true, true_or, or_true, reduceCtorEq, ite_true, ite_false, eq_self, Nat.reduceEqDiff, Nat.reduceLeDiff, nI_add, nI_1, nI_leI, nI_ltI, nI_eq, nI_clamp, kz_m1, kz_mn, kz_mn2, kz_n0, kz_0n, kz_0, kz_le0, kz_0lt, false_implies, true_implies, not_false_eq_true, not_true_eq_false, Nat.zero_le, kb_0, kz_10, kz_of, ky_sw, g1, g2, g3, g4, g5])
    | (refine ⟨vp_in_nI (by omega) (by omega), ?_⟩)
    | (refine ⟨fun zc => ?_, fun zc => ?_⟩ <;> try (exfalso; omega))
    | fail)
  · rw [← k01_kb (gb l).2, ← kb_f (by assumption)] at hQ; exact hQ
  · rw [← k01_kb (gb l).2, ← kb_t (by assumption)] at hQ; exact hQ
theorem kx69 (ha : kI a) (hS : kS a k f S) (h1 : 1 ≤ l) (h6 : l ≤ 6) (hQ : ∀ f', kS a k f' (ksu (ksu S 0 l kd) 1 l st) → kfr a f f' (kSB k) → Q (.inl none) f') : ky_cl adK 69 [.ref (a (k + 1)), .int (nI l), .int kd, .int st] f Q := by
  obtain ⟨g1, g2, g3, g4, g5, gb⟩ := hS
  refine ⟨Nat.le_of_ble_eq_true rfl, fun z => absurd z (by decide), ?_⟩
  show ky_ok adK 69 0 [some (.ref (a (k + 1))), some (.int (nI l)), some (.int kd), some (.int st)] [] f 0 0 _
  repeat' (first
    | (refine kx133v h1 h6 ?_; simp only [ky_aft, ky_vl, Nat.reduceAdd])
    | (refine ky_ok_stp rfl ?_; simp (disch := first | omega | assumption) only [ky_stp, ky_inv, ky_ldi, ky_ldl, ky_ldd, ky_lda, ky_cl2, ky_st1, ky_st2, ky_s1i, ky_s2i, ky_s1l, ky_s2l, ky_sli, ky_s1f, ky_s2f, ky_s1d, ky_s2d, ky_sr, ky_sai, ky_sasi, ky_sasl, ky_sasr, ky_svr, ky_sv, ky_sv2, ky_s1, ky_cs, ky_pop, ky_nth, ky_snt, ky_obj, ky_ari, ky_arl, ky_arr, ky_arn, ky_fv, ky_rcv, List.map_cons, List.map_nil, List.drop_succ_cons, List.drop_zero, Value.category, Nat.reduceAdd, Nat.reduceSub, true_and, and_true, true_or, or_true, reduceCtorEq, ite_true, ite_false, eq_self, Nat.reduceEqDiff, Nat.reduceLeDiff, nI_add, nI_1, nI_leI, nI_ltI, nI_eq, nI_clamp, kz_m1, kz_mn, kz_mn2, kz_n0, kz_0n, kz_0, kz_le0, kz_0lt, false_implies, true_implies, not_false_eq_true, not_true_eq_false, Nat.zero_le, kb_0, kz_10, kz_of, ky_sw, g1, g2, g3, g4, g5, kz_up, kI_ne ha])
    | (refine ⟨vp_in_nI (by omega) (by omega), ?_⟩)
    | (refine ⟨fun zc => ?_, fun zc => ?_⟩ <;> try (exfalso; omega))
    | fail)
  refine hQ _ ⟨?_, ?_, ?_, ?_, ?_, gb⟩ fun j hj => ?_
  any_goals (simp (disch := first | omega | assumption) only [kz_up, kI_ne ha, g1, g2, g3, g4, g5, ite_true, ite_false]; done)
  · simp (disch := first | omega | assumption) only [kz_up, kI_ne ha, ite_true, ite_false]; rfl
  · simp (disch := first | omega | assumption) only [kz_up, kI_ne ha, ite_true, ite_false]; rfl
  · simp (disch := first | omega | assumption) only [kz_up, kI_ne ha, g4, ite_true, ite_false]; rfl
  · simp (disch := first | omega | assumption) only [kz_up, kI_ne ha, g5, ite_true, ite_false]; rfl
  · unfold kSB at hj; simp (disch := first | omega | assumption) only [kz_up, kI_ne ha, ite_true, ite_false]
theorem kx70 (ha : kI a) (hS : kS a k f S) (h1 : 1 ≤ l) (h6 : l ≤ 6) (hw : k01 ow) (ho : k01 on) (hQ : ∀ f', kS a k f' (ksu (ksu S 2 l ow) 3 l on) → kfr a f f' (kSB k) → Q (.inl none) f') : ky_cl adK 70 [.ref (a (k + 1)), .int (nI l), .int ow, .int on] f Q := by
  obtain ⟨g1, g2, g3, g4, g5, gb⟩ := hS
  refine ⟨Nat.le_of_ble_eq_true rfl, fun z => absurd z (by decide), ?_⟩
  show ky_ok adK 70 0 [some (.ref (a (k + 1))), some (.int (nI l)), some (.int ow), some (.int on)] [] f 0 0 _
  repeat' (first
    | (refine kx133v h1 h6 ?_; simp only [ky_aft, ky_vl, Nat.reduceAdd])
    | (refine ky_ok_stp rfl ?_; simp (disch := first | omega | assumption) only [ky_stp, ky_inv, ky_ldi, ky_ldl, ky_ldd, ky_lda, ky_cl2, ky_st1, ky_st2, ky_s1i, ky_s2i, ky_s1l, ky_s2l, ky_sli, ky_s1f, ky_s2f, ky_s1d, ky_s2d, ky_sr, ky_sai, ky_sasi, ky_sasl, ky_sasr, ky_svr, ky_sv, ky_sv2, ky_s1, ky_cs, ky_pop, ky_nth, ky_snt, ky_obj, ky_ari, ky_arl, ky_arr, ky_arn, ky_fv, ky_rcv, List.map_cons, List.map_nil, List.drop_succ_cons, List.drop_zero, Value.category, Nat.reduceAdd, Nat.reduceSub, true_and, and_true, true_or, or_true, reduceCtorEq, ite_true, ite_false, eq_self, Nat.reduceEqDiff, Nat.reduceLeDiff, nI_add, nI_1, nI_leI, nI_ltI, nI_eq, nI_clamp, kz_m1, kz_mn, kz_mn2, kz_n0, kz_0n, kz_0, kz_le0, kz_0lt, false_implies, true_implies, not_false_eq_true, not_true_eq_false, Nat.zero_le, kb_0, kz_10, kz_of, ky_sw, g1, g2, g3, g4, g5, kz_up, kI_ne ha, ky_nb3])
    | (refine ⟨vp_in_nI (by omega) (by omega), ?_⟩)
    | (refine ⟨fun zc => ?_, fun zc => ?_⟩ <;> try (exfalso; omega))
    | fail)
  refine hQ _ ⟨?_, ?_, ?_, ?_, ?_, fun j => ⟨k01_upd (fun j => (gb j).1) hw j, k01_upd (fun j => (gb j).2) ho j⟩⟩ fun j hj => ?_
  · simp (disch := first | omega | assumption) only [kz_up, kI_ne ha, g1, ite_true, ite_false]
  · simp (disch := first | omega | assumption) only [kz_up, kI_ne ha, g2, ite_true, ite_false]; rfl
  · simp (disch := first | omega | assumption) only [kz_up, kI_ne ha, g3, ite_true, ite_false]; rfl
  · simp (disch := first | omega | assumption) only [kz_up, kI_ne ha, ite_true, ite_false]; rfl
  · simp (disch := first | omega | assumption) only [kz_up, kI_ne ha, ite_true, ite_false]; rfl
  · unfold kSB at hj; simp (disch := first | omega | assumption) only [kz_up, kI_ne ha, ite_true, ite_false]
def kS0 (S : Nat → Nat → Int32) (l : Nat) : Prop := S 0 l = 0 ∧ S 1 l = 1 ∧ S 2 l = 0 ∧ S 3 l = 0
def kSq (S S2 : Nat → Nat → Int32) (l : Nat) : Prop := S 0 l = S2 0 l ∧ S 1 l = S2 1 l ∧ S 2 l = S2 2 l ∧ S 3 l = S2 3 l
theorem ksu_s (S : Nat → Nat → Int32) (c l : Nat) (x : Int32) : ksu S c l x c l = x := by simp [ksu, upd]
theorem ksu_c (S : Nat → Nat → Int32) {c d l t : Nat} (x : Int32) (h : d ≠ c) : ksu S c l x d t = S d t := by simp [ksu, h]
theorem ksu_l (S : Nat → Nat → Int32) {c d l t : Nat} (x : Int32) (h : t ≠ l) : ksu S c l x d t = S d t := by
  unfold ksu; split
  · next e => subst e; exact if_neg h
  · rfl
theorem kx67 (ha : kI a) (hS : kS a k f S) (hQ : ∀ f' S', kS a k f' S' → kfr a f f' (kSB k) → (∀ l, 1 ≤ l → l ≤ 6 → kS0 S' l) → Q (.inl none) f') : ky_cl adK 67 [.ref (a (k + 1))] f Q := by
  have loop : ∀ m l f S, l + m = 7 → 1 ≤ l → kS a k f S → (∀ t, 1 ≤ t → t < l → kS0 S t) → (∀ f' S', kS a k f' S' → kfr a f f' (kSB k) → (∀ l, 1 ≤ l → l ≤ 6 → kS0 S' l) → Q (.inl none) f') →
      ky_ok adK 67 2 [some (.ref (a (k + 1))), some (.int (nI l))] [] f 0 0 Q := by
    intro m
    induction m with
    | zero =>
      intro l f S hl h1 hS hp hQ
      repeat' (first
    | (refine ky_ok_stp rfl ?_; simp (disch := first | omega | assumption) only [ky_stp, ky_inv, ky_ldi, ky_ldl, ky_ldd, ky_lda, ky_cl2, ky_st1, ky_st2, ky_s1i, ky_s2i, ky_s1l, ky_s2l, ky_sli, ky_s1f, ky_s2f, ky_s1d, ky_s2d, ky_sr, ky_sai, ky_sasi, ky_sasl, ky_sasr, ky_svr, ky_sv, ky_sv2, ky_s1, ky_cs, ky_pop, ky_nth, ky_snt, ky_obj, ky_ari, ky_arl, ky_arr, ky_arn, ky_fv, ky_rcv, List.map_cons, List.map_nil, List.drop_succ_cons, List.drop_zero, Value.category, Nat.reduceAdd, Nat.reduceSub, true_and, and_true, true_or, or_true, reduceCtorEq, ite_true, ite_false, eq_self, Nat.reduceEqDiff, Nat.reduceLeDiff, nI_add, nI_1, nI_leI, nI_ltI, nI_eq, nI_clamp, kz_m1, kz_mn, kz_mn2, kz_n0, kz_0n, kz_0, kz_le0, kz_0lt, false_implies, true_implies, not_false_eq_true, not_true_eq_false, Nat.zero_le, kb_0, kz_10, kz_of, ky_sw, kz_6])
    | (refine ⟨vp_in_nI (by omega) (by omega), ?_⟩)
    | (refine ⟨fun zc => ?_, fun zc => ?_⟩ <;> try (exfalso; omega))
    | fail)
      exact hQ f S hS kfr_rf fun t z1 z2 => hp t z1 (by omega)
    | succ m ih =>
      intro l f S hl h1 hS hp hQ
      have hrc := hS.1
      repeat' (first
    | (refine kx69 ha hS h1 (by omega) fun f1 hS1 hf1 => ?_; have hrc1 := hS1.1; simp only [ky_aft, ky_vl, Nat.reduceAdd]; refine ky_ok_stp rfl ?_; simp only [ky_stp, ky_inv, ky_ldi, ky_ldl, ky_ldd, ky_lda, ky_cl2, ky_st1, ky_st2, ky_s1i, ky_s2i, ky_s1l, ky_s2l, ky_sli, ky_s1f, ky_s2f, ky_s1d, ky_s2d, ky_sr, ky_sai, ky_sasi, ky_sasl, ky_sasr, ky_svr, ky_sv, ky_sv2, ky_s1, ky_cs, ky_pop, ky_nth, ky_snt, ky_obj, ky_ari, ky_arl, ky_arr, ky_arn, ky_fv, ky_rcv, List.map_cons, List.map_nil, List.drop_succ_cons, List.drop_zero, Value.category, Nat.reduceAdd, Nat.reduceSub, true_and, and_true, true_or, or_true, reduceCtorEq, ite_true, ite_false, eq_self, Nat.reduceEqDiff, Nat.reduceLeDiff]; refine ky_ok_stp rfl ?_; simp only [ky_stp, ky_inv, ky_ldi, ky_ldl, ky_ldd, ky_lda, ky_cl2, ky_st1, ky_st2, ky_s1i, ky_s2i, ky_s1l, ky_s2l, ky_sli, ky_s1f, ky_s2f, ky_s1d, ky_s2d, ky_sr, ky_sai, ky_sasi, ky_sasl, ky_sasr, ky_svr, ky_sv, ky_sv2, ky_s1, ky_cs, ky_pop, ky_nth, ky_snt, ky_obj, ky_ari, ky_arl, ky_arr, ky_arn, ky_fv, ky_rcv, List.map_cons, List.map_nil, List.drop_succ_cons, List.drop_zero, Value.category, Nat.reduceAdd, Nat.reduceSub, true_and, and_true, true_or, or_true, reduceCtorEq, ite_true, ite_false, eq_self, Nat.reduceEqDiff, Nat.reduceLeDiff]; refine ky_ok_stp rfl ?_; simp only [ky_stp, ky_inv, ky_ldi, ky_ldl, ky_ldd, ky_lda, ky_cl2, ky_st1, ky_st2, ky_s1i, ky_s2i, ky_s1l, ky_s2l, ky_sli, ky_s1f, ky_s2f, ky_s1d, ky_s2d, ky_sr, ky_sai, ky_sasi, ky_sasl, ky_sasr, ky_svr, ky_sv, ky_sv2, ky_s1, ky_cs, ky_pop, ky_nth, ky_snt, ky_obj, ky_ari, ky_arl, ky_arr, ky_arn, ky_fv, ky_rcv, List.map_cons, List.map_nil, List.drop_succ_cons, List.drop_zero, Value.category, Nat.reduceAdd, Nat.reduceSub, true_and, and_true, true_or, or_true, reduceCtorEq, ite_true, ite_false, eq_self, Nat.reduceEqDiff, Nat.reduceLeDiff]; refine ky_ok_stp rfl ?_; simp only [ky_stp, ky_inv, ky_ldi, ky_ldl, ky_ldd, ky_lda, ky_cl2, ky_st1, ky_st2, ky_s1i, ky_s2i, ky_s1l, ky_s2l, ky_sli, ky_s1f, ky_s2f, ky_s1d, ky_s2d, ky_sr, ky_sai, ky_sasi, ky_sasl, ky_sasr, ky_svr, ky_sv, ky_sv2, ky_s1, ky_cs, ky_pop, ky_nth, ky_snt, ky_obj, ky_ari, ky_arl, ky_arr, ky_arn, ky_fv, ky_rcv, List.map_cons, List.map_nil, List.drop_succ_cons, List.drop_zero, Value.category, Nat.reduceAdd, Nat.reduceSub, true_and, and_true, true_or, or_true, reduceCtorEq, ite_true, ite_false, eq_self, Nat.reduceEqDiff, Nat.reduceLeDiff]; refine ky_ok_stp rfl ?_; simp (disch := first | omega | assumption) only [ky_stp, ky_inv, ky_ldi, ky_ldl, ky_ldd, ky_lda, ky_cl2, ky_st1, ky_st2, ky_s1i, ky_s2i, ky_s1l, ky_s2l, ky_sli, ky_s1f, ky_s2f, ky_s1d, ky_s2d, ky_sr, ky_sai, ky_sasi, ky_sasl, ky_sasr, ky_svr, ky_sv, ky_sv2, ky_s1, ky_cs, ky_pop, ky_nth, ky_snt, ky_obj, ky_ari, ky_arl, ky_arr, ky_arn, ky_fv, ky_rcv, List.map_cons, List.map_nil, List.drop_succ_cons, List.drop_zero, Value.category, Nat.reduceAdd, Nat.reduceSub, true_and, and_true, true_or, or_true, reduceCtorEq, ite_true, ite_false, eq_self, Nat.reduceEqDiff, Nat.reduceLeDiff, hrc1, Nat.zero_le]; refine kx70 ha hS1 h1 (by omega) (Or.inl rfl) (Or.inl rfl) fun f2 hS2 hf2 => ?_; simp only [ky_aft, ky_vl, Nat.reduceAdd])
    | (refine ih (l + 1) _ _ (by omega) (by omega) hS2 ?_ ?_)
    | (refine ky_ok_stp rfl ?_; simp (disch := first | omega | assumption) only [ky_stp, ky_inv, ky_ldi, ky_ldl, ky_ldd, ky_lda, ky_cl2, ky_st1, ky_st2, ky_s1i, ky_s2i, ky_s1l, ky_s2l, ky_sli, ky_s1f, ky_s2f, ky_s1d, ky_s2d, ky_sr, ky_sai, ky_sasi, ky_sasl, ky_sasr, ky_svr, ky_sv, ky_sv2, ky_s1, ky_cs, ky_pop, ky_nth, ky_snt, ky_obj, ky_ari, ky_arl, ky_arr, ky_arn, ky_fv, ky_rcv, List.map_cons, List.map_nil, List.drop_succ_cons, List.drop_zero, Value.category, Nat.reduceAdd, Nat.reduceSub, true_and, and_true, true_or, or_true, reduceCtorEq, ite_true, ite_false, eq_self, Nat.reduceEqDiff, Nat.reduceLeDiff, nI_add, nI_1, nI_leI, nI_ltI, nI_eq, nI_clamp, kz_m1, kz_mn, kz_mn2, kz_n0, kz_0n, kz_0, kz_le0, kz_0lt, false_implies, true_implies, not_false_eq_true, not_true_eq_false, Nat.zero_le, kb_0, kz_10, kz_of, ky_sw, hrc, kz_6])
    | (refine ⟨vp_in_nI (by omega) (by omega), ?_⟩)
    | (refine ⟨fun zc => ?_, fun zc => ?_⟩ <;> try (exfalso; omega))
    | fail)
      · intro t z1 z2
        by_cases ht : t = l
        · subst ht
          exact ⟨by simp [ksu, upd], by simp [ksu, upd], by simp [ksu, upd], by simp [ksu, upd]⟩
        · obtain ⟨y0, y1, y2, y3⟩ := hp t z1 (by omega)
          refine ⟨?_, ?_, ?_, ?_⟩ <;> rw [ksu_l _ _ ht, ksu_l _ _ ht, ksu_l _ _ ht, ksu_l _ _ ht] <;> assumption
      · exact fun f' S' z1 z2 z3 => hQ f' S' z1 (kfr_tr (kfr_tr hf1 hf2 (T := kSB k) fun _ z => ⟨z, z⟩) z2 fun _ z => ⟨z, z⟩) z3
  refine ⟨Nat.le_of_ble_eq_true rfl, fun z => absurd z (by decide), ?_⟩
  show ky_ok adK 67 0 [some (.ref (a (k + 1))), none] [] f 0 0 _
  repeat' (first
    | (refine loop 6 1 f S rfl (by omega) hS (fun t z1 z2 => by omega) hQ)
    | (refine ky_ok_stp rfl ?_; simp (disch := first | omega | assumption) only [ky_stp, ky_inv, ky_ldi, ky_ldl, ky_ldd, ky_lda, ky_cl2, ky_st1, ky_st2, ky_s1i, ky_s2i, ky_s1l, ky_s2l, ky_sli, ky_s1f, ky_s2f, ky_s1d, ky_s2d, ky_sr, ky_sai, ky_sasi, ky_sasl, ky_sasr, ky_svr, ky_sv, ky_sv2, ky_s1, ky_cs, ky_pop, ky_nth, ky_snt, ky_obj, ky_ari, ky_arl, ky_arr, ky_arn, ky_fv, ky_rcv, List.map_cons, List.map_nil, List.drop_succ_cons, List.drop_zero, Value.category, Nat.reduceAdd, Nat.reduceSub, true_and, and_true, true_or, or_true, reduceCtorEq, ite_true, ite_false, eq_self, Nat.reduceEqDiff, Nat.reduceLeDiff, nI_add, nI_1, nI_leI, nI_ltI, nI_eq, nI_clamp, kz_m1, kz_mn, kz_mn2, kz_n0, kz_0n, kz_0, kz_le0, kz_0lt, false_implies, true_implies, not_false_eq_true, not_true_eq_false, Nat.zero_le, kb_0, kz_10, kz_of, ky_sw])
    | (refine ⟨vp_in_nI (by omega) (by omega), ?_⟩)
    | (refine ⟨fun zc => ?_, fun zc => ?_⟩ <;> try (exfalso; omega))
    | fail)
theorem kx68 (ha : kI a) (hk : k + 10 < k2 ∨ k2 + 10 < k) (hS : kS a k f S) (hS2 : kS a k2 f S2) (hQ : ∀ f' S', kS a k f' S' → kfr a f f' (kSB k) → (∀ l, 1 ≤ l → l ≤ 6 → kSq S' S2 l) → Q (.inl none) f') : ky_cl adK 68 [.ref (a (k + 1)), .ref (a (k2 + 1))] f Q := by
  have loop : ∀ m l f S, l + m = 7 → 1 ≤ l → kS a k f S → kS a k2 f S2 → (∀ t, 1 ≤ t → t < l → kSq S S2 t) → (∀ f' S', kS a k f' S' → kfr a f f' (kSB k) → (∀ l, 1 ≤ l → l ≤ 6 → kSq S' S2 l) → Q (.inl none) f') →
      ky_ok adK 68 2 [some (.ref (a (k + 1))), some (.ref (a (k2 + 1))), some (.int (nI l))] [] f 0 0 Q := by
    intro m
    induction m with
    | zero =>
      intro l f S hl h1 hS hS2 hp hQ
      repeat' (first
    | (refine ky_ok_stp rfl ?_; simp (disch := first | omega | assumption) only [ky_stp, ky_inv, ky_ldi, ky_ldl, ky_ldd, ky_lda, ky_cl2, ky_st1, ky_st2, ky_s1i, ky_s2i, ky_s1l, ky_s2l, ky_sli, ky_s1f, ky_s2f, ky_s1d, ky_s2d, ky_sr, ky_sai, ky_sasi, ky_sasl, ky_sasr, ky_svr, ky_sv, ky_sv2, ky_s1, ky_cs, ky_pop, ky_nth, ky_snt, ky_obj, ky_ari, ky_arl, ky_arr, ky_arn, ky_fv, ky_rcv, List.map_cons, List.map_nil, List.drop_succ_cons, List.drop_zero, Value.category, Nat.reduceAdd, Nat.reduceSub, true_and, and_true, true_or, or_true, reduceCtorEq, ite_true, ite_false, eq_self, Nat.reduceEqDiff, Nat.reduceLeDiff, nI_add, nI_1, nI_leI, nI_ltI, nI_eq, nI_clamp, kz_m1, kz_mn, kz_mn2, kz_n0, kz_0n, kz_0, kz_le0, kz_0lt, false_implies, true_implies, not_false_eq_true, not_true_eq_false, Nat.zero_le, kb_0, kz_10, kz_of, ky_sw, kz_6])
    | (refine ⟨vp_in_nI (by omega) (by omega), ?_⟩)
    | (refine ⟨fun zc => ?_, fun zc => ?_⟩ <;> try (exfalso; omega))
    | fail)
      exact hQ f S hS kfr_rf fun t z1 z2 => hp t z1 (by omega)
    | succ m ih =>
      intro l f S hl h1 hS hS2 hp hQ
      obtain ⟨g1, g2, g3, g4, g5, gb⟩ := id hS
      obtain ⟨e1, e2, e3, e4, e5, eb⟩ := id hS2
      have zb1 := (eb l).1
      have zb2 := (eb l).2
      repeat' (first
    | (refine ih (l + 1) _ (ksu (ksu (ksu (ksu S 0 l (S2 0 l)) 1 l (S2 1 l)) 2 l (S2 2 l)) 3 l (S2 3 l)) (by omega) (by omega) ?_ ?_ ?_ ?_)
    | (refine ky_ok_stp rfl ?_; simp (disch := first | omega | assumption) only [ky_stp, ky_inv, ky_ldi, ky_ldl, ky_ldd, ky_lda, ky_cl2, ky_st1, ky_st2, ky_s1i, ky_s2i, ky_s1l, ky_s2l, ky_sli, ky_s1f, ky_s2f, ky_s1d, ky_s2d, ky_sr, ky_sai, ky_sasi, ky_sasl, ky_sasr, ky_svr, ky_sv, ky_sv2, ky_s1, ky_cs, ky_pop, ky_nth, ky_snt, ky_obj, ky_ari, ky_arl, ky_arr, ky_arn, ky_fv, ky_rcv, List.map_cons, List.map_nil, List.drop_succ_cons, List.drop_zero, Value.category, Nat.reduceAdd, Nat.reduceSub, true_and, and_true, true_or, or_true, reduceCtorEq, ite_true, ite_false, eq_self, Nat.reduceEqDiff, Nat.reduceLeDiff, nI_add, nI_1, nI_leI, nI_ltI, nI_eq, nI_clamp, kz_m1, kz_mn, kz_mn2, kz_n0, kz_0n, kz_0, kz_le0, kz_0lt, false_implies, true_implies, not_false_eq_true, not_true_eq_false, Nat.zero_le, kb_0, kz_10, kz_of, ky_sw, g1, g2, g3, g4, g5, e1, e2, e3, e4, e5, kz_6, kz_up, kI_ne ha, ky_nb3])
    | (refine ⟨vp_in_nI (by omega) (by omega), ?_⟩)
    | (refine ⟨fun zc => ?_, fun zc => ?_⟩ <;> try (exfalso; omega))
    | fail)
      · refine ⟨?_, ?_, ?_, ?_, ?_, fun j => ⟨k01_upd (fun j => (gb j).1) zb1 j, k01_upd (fun j => (gb j).2) zb2 j⟩⟩ <;> simp (disch := first | omega | assumption) only [kz_up, kI_ne ha, g1, ite_true, ite_false] <;> rfl
      · refine kS_fr hS2 fun j z1 z2 => ?_
        simp (disch := first | omega | assumption) only [kz_up, kI_ne ha, ite_false]
      · intro t z1 z2
        by_cases ht : t = l
        · subst ht
          exact ⟨by simp [ksu, upd], by simp [ksu, upd], by simp [ksu, upd], by simp [ksu, upd]⟩
        · obtain ⟨y0, y1, y2, y3⟩ := hp t z1 (by omega)
          refine ⟨?_, ?_, ?_, ?_⟩ <;> rw [ksu_l _ _ ht, ksu_l _ _ ht, ksu_l _ _ ht, ksu_l _ _ ht] <;> assumption
      · refine fun f' S' z1 z2 z3 => hQ f' S' z1 (fun j hj => (z2 j hj).trans ?_) z3
        unfold kSB at hj
        simp (disch := first | omega | assumption) only [kz_up, kI_ne ha, ite_false]
  refine ⟨Nat.le_of_ble_eq_true rfl, fun z => absurd z (by decide), ?_⟩
  show ky_ok adK 68 0 [some (.ref (a (k + 1))), some (.ref (a (k2 + 1))), none] [] f 0 0 _
  repeat' (first
    | (refine loop 6 1 f S rfl (by omega) hS hS2 (fun t z1 z2 => by omega) hQ)
    | (refine ky_ok_stp rfl ?_; simp (disch := first | omega | assumption) only [ky_stp, ky_inv, ky_ldi, ky_ldl, ky_ldd, ky_lda, ky_cl2, ky_st1, ky_st2, ky_s1i, ky_s2i, ky_s1l, ky_s2l, ky_sli, ky_s1f, ky_s2f, ky_s1d, ky_s2d, ky_sr, ky_sai, ky_sasi, ky_sasl, ky_sasr, ky_svr, ky_sv, ky_sv2, ky_s1, ky_cs, ky_pop, ky_nth, ky_snt, ky_obj, ky_ari, ky_arl, ky_arr, ky_arn, ky_fv, ky_rcv, List.map_cons, List.map_nil, List.drop_succ_cons, List.drop_zero, Value.category, Nat.reduceAdd, Nat.reduceSub, true_and, and_true, true_or, or_true, reduceCtorEq, ite_true, ite_false, eq_self, Nat.reduceEqDiff, Nat.reduceLeDiff, nI_add, nI_1, nI_leI, nI_ltI, nI_eq, nI_clamp, kz_m1, kz_mn, kz_mn2, kz_n0, kz_0n, kz_0, kz_le0, kz_0lt, false_implies, true_implies, not_false_eq_true, not_true_eq_false, Nat.zero_le, kb_0, kz_10, kz_of, ky_sw])
    | (refine ⟨vp_in_nI (by omega) (by omega), ?_⟩)
    | (refine ⟨fun zc => ?_, fun zc => ?_⟩ <;> try (exfalso; omega))
    | fail)
end KXS
