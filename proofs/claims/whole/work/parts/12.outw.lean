/-! ## an outline, written -/
abbrev kR : Type := Int64 × Int32 × Int32 × Int32
def kN (R : Nat → kR) : Nat → Int64 := fun i => (R i).1
def kL (R : Nat → kR) : Nat → Int32 := fun i => (R i).2.1
def kPl (R : Nat → kR) : Nat → Int32 := fun i => (R i).2.2.1
def kFo (R : Nat → kR) : Nat → Int32 := fun i => (R i).2.2.2
def k01 (x : Int32) : Prop := x = 0 ∨ x = 1
/-- an outline's block, its rows bundled; booleans are booleans -/
def kW (a : Nat → Nat) (k : Nat) (f : ky_H) (n : Nat) (R : Nat → kR) (G : Nat → Int32) : Prop :=
  kO a k f n (kN R) (kL R) (kPl R) (kFo R) G ∧ ∀ i, k01 (kPl R i) ∧ k01 (kFo R i)
def kfr (a : Nat → Nat) (f f' : ky_H) (S : Nat → Prop) : Prop := ∀ j, ¬ S j → f' (a j) = f (a j)
def kBl (k : Nat) : Nat → Prop := fun j => k ≤ j ∧ j ≤ k + 10
def kRB (k : Nat) : Nat → Prop := fun j => j = k ∨ (k + 6 ≤ j ∧ j ≤ k + 10)
theorem kfr_rf {a : Nat → Nat} {f : ky_H} {S : Nat → Prop} : kfr a f f S := fun _ _ => rfl
theorem kfr_tr {a : Nat → Nat} {f f' f'' : ky_H} {S S' T : Nat → Prop} (h : kfr a f f' S) (h' : kfr a f' f'' S') (hs : ∀ j, ¬ T j → ¬ S j ∧ ¬ S' j) : kfr a f f'' T := fun j hj => (h' j (hs j hj).2).trans (h j (hs j hj).1)
theorem kfr_up {a : Nat → Nat} {f f' : ky_H} {S : Nat → Prop} {q : Nat} {e : ky_E} (ha : kI a) (h : kfr a f f' S) (hq : S q) : kfr a f (ky_up f' (a q) e) S := fun j hj => by
  rw [kz_ne (fun z => hj (by rw [ha _ _ z]; exact hq))]; exact h j hj
theorem kO_fr {a : Nat → Nat} {k n : Nat} {f f' : ky_H} {N : Nat → Int64} {L P F G : Nat → Int32} (h : kO a k f n N L P F G) (hf : ∀ j, k ≤ j → j ≤ k + 10 → f' (a j) = f (a j)) : kO a k f' n N L P F G := by
  obtain ⟨h0, h6, h7, h8, h9, h10⟩ := h
  exact ⟨(hf _ (by omega) (by omega)).trans h0, (hf _ (by omega) (by omega)).trans h6, (hf _ (by omega) (by omega)).trans h7, (hf _ (by omega) (by omega)).trans h8, (hf _ (by omega) (by omega)).trans h9, (hf _ (by omega) (by omega)).trans h10⟩
theorem kW_fr {a : Nat → Nat} {k n : Nat} {f f' : ky_H} {R : Nat → kR} {G : Nat → Int32} (h : kW a k f n R G) (hf : ∀ j, k ≤ j → j ≤ k + 10 → f' (a j) = f (a j)) : kW a k f' n R G := ⟨kO_fr h.1 hf, h.2⟩
def kru (R : Nat → kR) (c : Nat) (r : kR) : Nat → kR := fun i => if i = c then r else R i
theorem kru_n (R : Nat → kR) (c : Nat) (r : kR) : vp_updL (kN R) c r.1 = kN (kru R c r) := by
  funext i; simp only [vp_updL, kN, kru]; split <;> rfl
theorem kru_l (R : Nat → kR) (c : Nat) (r : kR) : upd (kL R) c r.2.1 = kL (kru R c r) := by
  funext i; simp only [upd, kL, kru]; split <;> rfl
theorem kru_p (R : Nat → kR) (c : Nat) (r : kR) : upd (kPl R) c r.2.2.1 = kPl (kru R c r) := by
  funext i; simp only [upd, kPl, kru]; split <;> rfl
theorem kru_f (R : Nat → kR) (c : Nat) (r : kR) : upd (kFo R) c r.2.2.2 = kFo (kru R c r) := by
  funext i; simp only [upd, kFo, kru]; split <;> rfl
theorem kru_nk {R : Nat → kR} {i : Nat} {r : kR} (h : r.1 = (R i).1) : kN (kru R i r) = kN R := by
  funext j; simp only [kN, kru]; split
  · next e => rw [e]; exact h
  · rfl
theorem kru_lk {R : Nat → kR} {i : Nat} {r : kR} (h : r.2.1 = (R i).2.1) : kL (kru R i r) = kL R := by
  funext j; simp only [kL, kru]; split
  · next e => rw [e]; exact h
  · rfl
theorem kru_pk {R : Nat → kR} {i : Nat} {r : kR} (h : r.2.2.1 = (R i).2.2.1) : kPl (kru R i r) = kPl R := by
  funext j; simp only [kPl, kru]; split
  · next e => rw [e]; exact h
  · rfl
theorem kru_fk {R : Nat → kR} {i : Nat} {r : kR} (h : r.2.2.2 = (R i).2.2.2) : kFo (kru R i r) = kFo R := by
  funext j; simp only [kFo, kru]; split
  · next e => rw [e]; exact h
  · rfl
theorem kru_s (R : Nat → kR) (c : Nat) (r : kR) : kru R c r c = r := if_pos rfl
theorem kru_o (R : Nat → kR) {c i : Nat} (r : kR) (h : i ≠ c) : kru R c r i = R i := if_neg h
theorem k01_b {R : Nat → kR} (h : ∀ i, k01 (kPl R i) ∧ k01 (kFo R i)) {c : Nat} {r : kR} (h1 : k01 r.2.2.1) (h2 : k01 r.2.2.2) : ∀ i, k01 (kPl (kru R c r) i) ∧ k01 (kFo (kru R c r) i) := by
  intro i
  have := h i
  simp only [kPl, kFo, kru] at this ⊢
  split
  · exact ⟨h1, h2⟩
  · exact this
theorem ky_nb3 {x : Int32} (h : k01 x) : ky_nb 3 x = x := by
  rcases h with rfl | rfl <;> decide
theorem k01_kb {x : Int32} (h : k01 x) : kb x = x := by
  rcases h with rfl | rfl <;> decide
section KXW
variable {adK a : Nat → Nat} {k k2 n n2 i j q e s : Nat} {f : ky_H} {R R2 : Nat → kR} {G G2 : Nat → Int32} {Q : ky_Q} {x : Int32}
theorem kx49 (ha : kI a) (hk : k + 10 < k2 ∨ k2 + 10 < k) (hW : kW a k f n R G) (hW2 : kW a k2 f n2 R2 G2) (hn2 : n2 ≤ 60) (hs : s ≤ e) (he : e ≤ n2) (hn : n + (e - s) ≤ 60)
    (hQ : ∀ f' R' G', kW a k f' (n + (e - s)) R' G' → kfr a f f' (kRB k) → (∀ i, i < n → R' i = R i ∧ G' i = G i) → (∀ i j, n ≤ j → j < n + (e - s) → i + n = j + s → R' j = R2 i ∧ G' j = nI i) → Q (.inl none) f') :
    ky_cl adK 49 [.ref (a k), .ref (a k2), .int (nI s), .int (nI e)] f Q := by
  have loop : ∀ m t c f R G, t + m = e → c + m ≤ 60 → kW a k f c R G → kW a k2 f n2 R2 G2 →
      (∀ f' R' G', kW a k f' (c + m) R' G' → kfr a f f' (kRB k) → (∀ i, i < c → R' i = R i ∧ G' i = G i) → (∀ i j, c ≤ j → j < c + m → i + c = j + t → R' j = R2 i ∧ G' j = nI i) → Q (.inl none) f') →
      ky_ok adK 49 3 [some (.ref (a k)), some (.ref (a k2)), some (.int (nI s)), some (.int (nI e)), some (.int (nI t))] [] f 0 0 Q := by
    intro m
    induction m with
    | zero =>
      intro t c f R G ht hc hW hW2 hQ
      obtain ⟨⟨h0, h6, h7, h8, h9, h10⟩, hb⟩ := id hW
      repeat' (first
    | (refine ky_ok_stp rfl ?_; simp (disch := first | omega | assumption) only [ky_stp, ky_inv, ky_ldi, ky_ldl, ky_ldd, ky_lda, ky_cl2, ky_st1, ky_st2, ky_s1i, ky_s2i, ky_s1l, ky_s2l, ky_sli, ky_s1f, ky_s2f, ky_s1d, ky_s2d, ky_sr, ky_sai, ky_sasi, ky_sasl, ky_sasr, ky_svr, ky_sv, ky_sv2, ky_s1, ky_cs, ky_pop, ky_nth, ky_snt, ky_obj, ky_ari, ky_arl, ky_arr, ky_arn, ky_fv, ky_rcv, List.map_cons, List.map_nil, List.drop_succ_cons, List.drop_zero, Value.category, Nat.reduceAdd, Nat.reduceSub, true_and, and_true, true_or, or_true, reduceCtorEq, ite_true, ite_false, eq_self, Nat.reduceEqDiff, Nat.reduceLeDiff, nI_add, nI_1, nI_leI, nI_ltI, nI_eq, nI_clamp, kz_m1, kz_mn, kz_mn2, kz_n0, kz_0n, kz_0, kz_le0, kz_0lt, false_implies, true_implies, not_false_eq_true, not_true_eq_false, Nat.zero_le, kb_0, kz_10, kz_of, ky_sw, kz_mx, kz_mi, h0])
    | (refine ⟨vp_in_nI (by omega) (by omega), ?_⟩)
    | (refine ⟨fun zc => ?_, fun zc => ?_⟩ <;> try (exfalso; omega))
    | fail)
      exact hQ f R G hW kfr_rf (fun _ _ => ⟨rfl, rfl⟩) (fun i j h1 h2 _ => by omega)
    | succ m ih =>
      intro t c f R G ht hc hW hW2 hQ
      obtain ⟨⟨h0, h6, h7, h8, h9, h10⟩, hb⟩ := id hW
      obtain ⟨⟨g0, g6, g7, g8, g9, g10⟩, hb2⟩ := id hW2
      have zb1 := (hb2 t).1
      have zb2 := (hb2 t).2
      repeat' (first
    | (refine ih (t + 1) (c + 1) _ (kru R c (R2 t)) (upd G c (nI t)) (by omega) (by omega) ?_ ?_ ?_)
    | (refine ky_ok_stp rfl ?_; simp (disch := first | omega | assumption) only [ky_stp, ky_inv, ky_ldi, ky_ldl, ky_ldd, ky_lda, ky_cl2, ky_st1, ky_st2, ky_s1i, ky_s2i, ky_s1l, ky_s2l, ky_sli, ky_s1f, ky_s2f, ky_s1d, ky_s2d, ky_sr, ky_sai, ky_sasi, ky_sasl, ky_sasr, ky_svr, ky_sv, ky_sv2, ky_s1, ky_cs, ky_pop, ky_nth, ky_snt, ky_obj, ky_ari, ky_arl, ky_arr, ky_arn, ky_fv, ky_rcv, List.map_cons, List.map_nil, List.drop_succ_cons, List.drop_zero, Value.category, Nat.reduceAdd, Nat.reduceSub, true_and, and_true, true_or, or_true, reduceCtorEq, ite_true, ite_false, eq_self, Nat.reduceEqDiff, Nat.reduceLeDiff, nI_add, nI_1, nI_leI, nI_ltI, nI_eq, nI_clamp, kz_m1, kz_mn, kz_mn2, kz_n0, kz_0n, kz_0, kz_le0, kz_0lt, false_implies, true_implies, not_false_eq_true, not_true_eq_false, Nat.zero_le, kb_0, kz_10, kz_of, ky_sw, kz_mx, kz_mi, h0, h6, h7, h8, h9, h10, g0, g6, g7, g8, g9, g10, kz_up, kI_ne ha, kz_60, ky_nb3])
    | (refine ⟨vp_in_nI (by omega) (by omega), ?_⟩)
    | (refine ⟨fun zc => ?_, fun zc => ?_⟩ <;> try (exfalso; omega))
    | fail)
      · refine ⟨?_, k01_b hb zb1 zb2⟩
        unfold kO
        simp (disch := first | omega | assumption) only [kz_up, kI_ne ha, ite_true, ite_false, true_and, and_true]
        exact ⟨by rw [← kru_n]; rfl, by rw [← kru_l]; rfl, by rw [← kru_p]; rfl, by rw [← kru_f]; rfl⟩
      · refine kW_fr hW2 fun j h1 h2 => ?_
        simp (disch := first | omega | assumption) only [kz_up, kI_ne ha, ite_false]
      · intro f' R' G' hW' hf hl hr
        refine hQ f' R' G' (by rw [show c + (m + 1) = c + 1 + m by omega]; exact hW') (fun j hj => (hf j hj).trans ?_) (fun i hi => ?_) (fun i j h1 h2 h3 => ?_)
        · unfold kRB at hj
          simp (disch := first | omega | assumption) only [kz_up, kI_ne ha, ite_false]
        · have := hl i (by omega)
          rw [kru_o _ _ (by omega), pk_un (by omega)] at this
          exact this
        · by_cases hj : j = c
          · obtain rfl : i = t := by omega
            subst hj
            have := hl j (by omega)
            rw [kru_s, pk_us] at this
            exact this
          · exact hr i j (by omega) (by omega) (by omega)
  refine ⟨Nat.le_of_ble_eq_true rfl, fun z => absurd z (by decide), ?_⟩
  show ky_ok adK 49 0 [some (.ref (a k)), some (.ref (a k2)), some (.int (nI s)), some (.int (nI e)), none] [] f 0 0 _
  repeat' (first
    | (refine loop (e - s) s n f R G (by omega) hn hW hW2 hQ)
    | (refine ky_ok_stp rfl ?_; simp (disch := first | omega | assumption) only [ky_stp, ky_inv, ky_ldi, ky_ldl, ky_ldd, ky_lda, ky_cl2, ky_st1, ky_st2, ky_s1i, ky_s2i, ky_s1l, ky_s2l, ky_sli, ky_s1f, ky_s2f, ky_s1d, ky_s2d, ky_sr, ky_sai, ky_sasi, ky_sasl, ky_sasr, ky_svr, ky_sv, ky_sv2, ky_s1, ky_cs, ky_pop, ky_nth, ky_snt, ky_obj, ky_ari, ky_arl, ky_arr, ky_arn, ky_fv, ky_rcv, List.map_cons, List.map_nil, List.drop_succ_cons, List.drop_zero, Value.category, Nat.reduceAdd, Nat.reduceSub, true_and, and_true, true_or, or_true, reduceCtorEq, ite_true, ite_false, eq_self, Nat.reduceEqDiff, Nat.reduceLeDiff, nI_add, nI_1, nI_leI, nI_ltI, nI_eq, nI_clamp, kz_m1, kz_mn, kz_mn2, kz_n0, kz_0n, kz_0, kz_le0, kz_0lt, false_implies, true_implies, not_false_eq_true, not_true_eq_false, Nat.zero_le, kb_0, kz_10, kz_of, ky_sw, kz_mx, kz_mi, kz_60])
    | (refine ⟨vp_in_nI (by omega) (by omega), ?_⟩)
    | (refine ⟨fun zc => ?_, fun zc => ?_⟩ <;> try (exfalso; omega))
    | fail)
end KXW
