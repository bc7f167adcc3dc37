-- deps: 29.rsty
/-! ## the whole outline read -/
theorem kSr_ok {c : Nat → Nat} {L g : Nat} : ∀ m l s, l ≤ 6 → l ≤ g → (kSr c L g m l s).1 = 0 → l ≤ (kSr c L g m l s).2.1 ∧ (kSr c L g m l s).2.1 ≤ 6 ∧ (kSr c L g m l s).2.1 ≤ g
  | 0, l, s, h6, hg, _ => ⟨Nat.le_refl _, h6, hg⟩
  | m + 1, l, s, h6, hg, h => by
    rw [kSr] at h ⊢
    by_cases e3 : kTk c L s = 3
    · rw [if_pos e3] at h ⊢
      by_cases e6 : 6 < l + 1
      · rw [if_pos e6] at h; simp at h
      · rw [if_neg e6] at h ⊢
        by_cases eg : g < l + 1
        · rw [if_pos eg] at h; simp at h
        · rw [if_neg eg] at h ⊢
          have := kSr_ok m (l + 1) _ (by omega) (by omega) h
          omega
    · rw [if_neg e3]; exact ⟨Nat.le_refl _, h6, hg⟩
theorem kSr_1 {c : Nat → Nat} {L g s : Nat} (h3 : kTk c L s = 3) (h : (kSr c L g 7 0 s).1 = 0) : 1 ≤ (kSr c L g 7 0 s).2.1 := by
  rw [kSr, if_pos h3, if_neg (by decide)] at h ⊢
  by_cases eg : g < 0 + 1
  · rw [if_pos eg] at h; simp at h
  · rw [if_neg eg] at h ⊢
    exact (kSr_ok 6 1 _ (by decide) (by omega) h).1
theorem kRh_ok {c : Nat → Nat} {L n g s : Nat} (h3 : kTk c L s = 3) (h : (kRh c L n g s).1 = 0) : n ≠ 60 ∧ kWd (kRh c L n g s).2.2.1 ∧ 1 ≤ (kRh c L n g s).2.2.2.1 ∧ (kRh c L n g s).2.2.2.1 ≤ 6 ∧ (kRh c L n g s).2.2.2.1 ≤ g + 1 ∧ k01 (kRh c L n g s).2.2.2.2.1 ∧ k01 (kRh c L n g s).2.2.2.2.2 := by
  unfold kRh at h ⊢
  by_cases hn : n = 60
  · rw [if_pos hn] at h; simp at h
  · rw [if_neg hn] at h ⊢
    by_cases h1 : (kSr c L (g + 1) 7 0 s).1 ≠ 0
    · rw [if_pos h1] at h; exact absurd h h1
    · rw [if_neg h1] at h ⊢
      have h1' := Decidable.not_not.mp h1
      by_cases hw : kTw c L (kSr c L (g + 1) 7 0 s).2.2 = []
      · rw [if_pos hw] at h; simp at h
      · rw [if_neg hw]
        have o1 := kSr_ok 7 0 s (by decide) (by omega) h1'
        have o2 := kSr_1 h3 h1'
        have o3 := kTw_ok c L (kSr c L (g + 1) 7 0 s).2.2
        exact ⟨hn, ⟨hw, o3.1, o3.2⟩, o2, o1.2.1, o1.2.2, kp01, kp01⟩
theorem kRh_e (c : Nat → Nat) (L n g s : Nat) : (kRh c L n g s).1 ≤ 4 := by
  have hsr : ∀ m l s, (kSr c L (g + 1) m l s).1 ≤ 3 := by
    intro m
    induction m with
    | zero => intro l s; exact Nat.zero_le _
    | succ m ih =>
      intro l s
      rw [kSr]
      split
      · split
        · show 2 ≤ 3; decide
        · split
          · show 3 ≤ 3; decide
          · exact ih _ _
      · exact Nat.zero_le _
  have := hsr 7 0 s
  unfold kRh
  split
  · exact Nat.le_refl _
  · split
    · show (kSr c L (g + 1) 7 0 s).1 ≤ 4; omega
    · split
      · show 1 ≤ 4; decide
      · show (if _ then 0 else 1) ≤ 4
        split <;> decide
theorem kRh_s {c : Nat → Nat} {L n g s : Nat} (hs : s ≤ L) : (kRh c L n g s).2.1 ≤ L := by
  have h1 := kSr_le (c := c) (g := g + 1) 7 0 s hs
  have h2 := kTn_le (c := c) h1.2
  have h3 := kNx_le (c := c) (W := kwP) h2.2
  have h4 := kNx_le (c := c) (W := kwF) h3.2
  have h5 := kTn_le (c := c) h4.2
  unfold kRh
  split
  · exact hs
  · split
    · exact h1.2
    · split
      · exact h1.2
      · show (if _ then _ else _) ≤ L
        split
        · exact h5.2
        · exact h4.2
theorem kRf_s {c : Nat → Nat} {L l st s : Nat} {kd : Int32} (hs : s ≤ L) : (kRf c L l kd st s).2.1 ≤ L := by
  have h3 := kNx_le (c := c) (W := kwO) hs
  have h4 := kNx_le (c := c) (W := kwN) h3.2
  have h5 := kTn_le (c := c) h4.2
  show (if _ then _ else _) ≤ L
  split
  · exact h5.2
  · exact h4.2
theorem kRy_s {c : Nat → Nat} {L s : Nat} (hs : s ≤ L) : (kRy c L s).2.1 ≤ L := by
  have hn1 := kTn_le (c := c) hs
  have hn2 := kTn_le (c := c) hn1.2
  have hn3 := kTn_le (c := c) hn2.2
  have hn4 := kTn_le (c := c) hn3.2
  have hn5 := kTn_le (c := c) hn4.2
  unfold kRy
  split
  · exact hs
  · split
    · exact hn1.2
    · split
      · exact hn1.2
      · split
        · exact hn2.2
        · split
          · split
            · exact hn4.2
            · split
              · exact hn4.2
              · exact kRf_s hn5.2
          · exact kRf_s hn3.2
theorem kRy_e (c : Nat → Nat) (L s : Nat) : (kRy c L s).1 ≤ 2 := by
  have hf : ∀ l kd st s, (kRf c L l kd st s).1 ≤ 2 := fun l kd st s => by
    show (if _ then 0 else 1) ≤ 2
    split <;> decide
  unfold kRy
  split
  · show 1 ≤ 2; decide
  · split
    · show 1 ≤ 2; decide
    · split
      · show 2 ≤ 2; decide
      · split
        · show 1 ≤ 2; decide
        · split
          · split
            · show 1 ≤ 2; decide
            · split
              · show 2 ≤ 2; decide
              · exact hf _ _ _ _
          · exact hf _ _ _ _
def kRyo (r : Nat × Nat × Nat × Int32 × Nat × Int32 × Int32) : Prop := 1 ≤ r.2.2.1 ∧ r.2.2.1 ≤ 6 ∧ (∃ j, j ≤ 5 ∧ r.2.2.2.1 = nI j) ∧ 1 ≤ r.2.2.2.2.1 ∧ r.2.2.2.2.1 ≤ 99 ∧ k01 r.2.2.2.2.2.1 ∧ k01 r.2.2.2.2.2.2
theorem kRy_ok {c : Nat → Nat} {L s : Nat} (h : (kRy c L s).1 = 0) : kRyo (kRy c L s) := by
  unfold kRy at h ⊢
  by_cases e0 : ¬ kTw c L s = kwS
  · rw [if_pos e0] at h; simp at h
  rw [if_neg e0] at h ⊢
  by_cases e1 : ¬ kTk c L (kTn c L s) = 2
  · rw [if_pos e1] at h; simp at h
  rw [if_neg e1] at h ⊢
  by_cases e2 : kTv c L (kTn c L s) < 1 ∨ 6 < kTv c L (kTn c L s)
  · rw [if_pos e2] at h; simp at h
  rw [if_neg e2] at h ⊢
  by_cases e3 : kIw kWst (kTw c L (kTn c L (kTn c L s))) 0 = -1
  · rw [if_pos e3] at h; simp at h
  rw [if_neg e3] at h ⊢
  have hk : ∃ j, j ≤ 5 ∧ kIw kWst (kTw c L (kTn c L (kTn c L s))) 0 = nI j := by
    rcases kIw_r kWst (kTw c L (kTn c L (kTn c L s))) 0 with g | ⟨j, g1, g2, g3⟩
    · exact absurd g e3
    · exact ⟨j, by have : kWst.length = 6 := rfl; omega, g3⟩
  have fin : ∀ st s', 1 ≤ st → st ≤ 99 → kRyo (kRf c L (kTv c L (kTn c L s)) (kIw kWst (kTw c L (kTn c L (kTn c L s))) 0) st s') := fun st s' h1 h2 =>
    ⟨show 1 ≤ kTv c L (kTn c L s) by omega, show kTv c L (kTn c L s) ≤ 6 by omega, hk, h1, h2, kp01, kp01⟩
  by_cases e4 : kTw c L (kTn c L (kTn c L (kTn c L s))) = kwM
  · rw [if_pos e4] at h ⊢
    by_cases e5 : ¬ kTk c L (kTn c L (kTn c L (kTn c L (kTn c L s)))) = 2
    · rw [if_pos e5] at h; simp at h
    rw [if_neg e5] at h ⊢
    by_cases e6 : kTv c L (kTn c L (kTn c L (kTn c L (kTn c L s)))) < 1 ∨ 99 < kTv c L (kTn c L (kTn c L (kTn c L (kTn c L s))))
    · rw [if_pos e6] at h; simp at h
    rw [if_neg e6]
    exact fin _ _ (by omega) (by omega)
  · rw [if_neg e4]
    exact fin _ _ (by omega) (by omega)
/-- an empty outline -/
def kZ0 : kZ := ⟨0, fun _ => (0, 0, 0, 0), fun d _ => if d = 1 then 1 else 0⟩
theorem kZ0_ok : kZo kZ0 := by
  refine ⟨by decide, fun i hi => absurd hi (Nat.not_lt_zero i), fun hi => absurd hi (Nat.lt_irrefl 0), fun i hi => absurd hi (Nat.not_lt_zero _), fun i hi => absurd hi (Nat.not_lt_zero i), fun l _ _ => ?_, fun i hi => absurd hi (Nat.not_lt_zero i), fun l _ _ => ⟨Or.inl rfl, Or.inl rfl⟩⟩
  refine ⟨?_, ?_, ?_, ?_, ?_⟩
  · show (0 : Int32) = nI (0 : Int32).toNatClampNeg; decide
  · show (0 : Int32).toNatClampNeg ≤ 5; decide
  · show (1 : Int32) = nI (1 : Int32).toNatClampNeg; decide
  · show 1 ≤ (1 : Int32).toNatClampNeg; decide
  · show (1 : Int32).toNatClampNeg ≤ 99; decide
/-- the last heading's level -/
def kGl (z : kZ) : Nat := if z.n = 0 then 0 else kV z.R (z.n - 1)
def kZh (z : kZ) (w : List Nat) (l : Nat) (p q : Int32) : kZ := ⟨z.n + 1, kru z.R z.n (kNW w, nI l, p, q), z.S⟩
theorem kZh_ok {z : kZ} {w : List Nat} {l : Nat} {p q : Int32} (ho : kZo z) (hn : z.n ≠ 60) (hw : kWd w) (h1 : 1 ≤ l) (h6 : l ≤ 6) (hg : l ≤ kGl z + 1) (hp : k01 p) (hq : k01 q) : kZo (kZh z w l p q) := by
  have hn60 := ho.n60
  have el : kV (kZh z w l p q).R z.n = l := by
    show (kL (kru z.R z.n _) z.n).toNatClampNeg = l
    unfold kL; rw [kru_s]
    exact nI_clamp (by omega)
  have eo : ∀ i, i ≠ z.n → (kZh z w l p q).R i = z.R i := fun i hi => kru_o _ _ hi
  have es : (kZh z w l p q).R z.n = (kNW w, nI l, p, q) := kru_s _ _ _
  have eV : ∀ i, i ≠ z.n → kV (kZh z w l p q).R i = kV z.R i := fun i hi => by unfold kV kL; rw [eo i hi]
  have hnn : (kZh z w l p q).n = z.n + 1 := rfl
  refine ⟨by rw [hnn]; omega, fun i hi => ?_, fun hi => ?_, fun i hi => ?_, fun i hi => ?_, ho.st, fun i hi => ?_, ho.fs⟩
  · rw [hnn] at hi
    by_cases e : i = z.n
    · subst e; rw [el]; refine ⟨?_, h1, h6⟩; unfold kL; rw [es]
    · rw [eV i e]; unfold kL; rw [eo i e]; exact ho.lv i (by omega)
  · by_cases e : z.n = 0
    · have : kGl z = 0 := by rw [kGl, if_pos e]
      rw [e] at el; rw [el]; omega
    · rw [eV 0 (fun h => e h.symm)]; exact ho.l0 (by omega)
  · rw [hnn] at hi
    by_cases e : i + 1 = z.n
    · have : kGl z = kV z.R i := by rw [kGl, if_neg (by omega), ← e, Nat.add_sub_cancel]
      rw [e, el, eV i (by omega)]; omega
    · rw [eV _ e, eV i (by omega)]; exact ho.ls i (by omega)
  · rw [hnn] at hi
    by_cases e : i = z.n
    · subst e; refine ⟨w, ?_, hw⟩; unfold kN; rw [es]
    · unfold kN; rw [eo i e]; exact ho.wd i (by omega)
  · rw [hnn] at hi
    by_cases e : i = z.n
    · subst e; unfold kPl kFo; rw [es]; exact ⟨hp, hq⟩
    · unfold kPl kFo; rw [eo i e]; exact ho.fl i (by omega)
def kZy (z : kZ) (r : Nat × Nat × Nat × Int32 × Nat × Int32 × Int32) : kZ := ⟨z.n, z.R, kSw z.S r⟩
theorem kSw_o {S : Nat → Nat → Int32} {r : Nat × Nat × Nat × Int32 × Nat × Int32 × Int32} {d l : Nat} (h : l ≠ r.2.2.1) : kSw S r d l = S d l := by
  unfold kSw; rw [ksu_l _ _ h, ksu_l _ _ h, ksu_l _ _ h, ksu_l _ _ h]
theorem kSw_s {S : Nat → Nat → Int32} {r : Nat × Nat × Nat × Int32 × Nat × Int32 × Int32} : kSw S r 0 r.2.2.1 = r.2.2.2.1 ∧ kSw S r 1 r.2.2.1 = nI r.2.2.2.2.1 ∧ kSw S r 2 r.2.2.1 = r.2.2.2.2.2.1 ∧ kSw S r 3 r.2.2.1 = r.2.2.2.2.2.2 := by
  unfold kSw
  refine ⟨?_, ?_, ?_, ksu_s _ _ _ _⟩
  · rw [ksu_c _ _ (by decide), ksu_c _ _ (by decide), ksu_c _ _ (by decide), ksu_s]
  · rw [ksu_c _ _ (by decide), ksu_c _ _ (by decide), ksu_s]
  · rw [ksu_c _ _ (by decide), ksu_s]
theorem kZy_ok {z : kZ} {r : Nat × Nat × Nat × Int32 × Nat × Int32 × Int32} (ho : kZo z) (hr : kRyo r) : kZo (kZy z r) := by
  obtain ⟨h1, h6, ⟨j, hj, ej⟩, s1, s99, hw, hn⟩ := hr
  obtain ⟨g0, g1, g2, g3⟩ := kSw_s (S := z.S) (r := r)
  refine ⟨ho.n60, ho.lv, ho.l0, ho.ls, ho.wd, fun l z1 z6 => ?_, ho.fl, fun l z1 z6 => ?_⟩
  · by_cases e : l = r.2.2.1
    · subst e
      show kSw z.S r 0 _ = nI (kSw z.S r 0 _).toNatClampNeg ∧ (kSw z.S r 0 _).toNatClampNeg ≤ 5 ∧ kSw z.S r 1 _ = nI (kSw z.S r 1 _).toNatClampNeg ∧ 1 ≤ (kSw z.S r 1 _).toNatClampNeg ∧ (kSw z.S r 1 _).toNatClampNeg ≤ 99
      rw [g0, g1, ej, nI_clamp (by omega), nI_clamp (by omega)]
      exact ⟨rfl, hj, rfl, s1, s99⟩
    · show kSw z.S r 0 _ = nI (kSw z.S r 0 _).toNatClampNeg ∧ (kSw z.S r 0 _).toNatClampNeg ≤ 5 ∧ kSw z.S r 1 _ = nI (kSw z.S r 1 _).toNatClampNeg ∧ 1 ≤ (kSw z.S r 1 _).toNatClampNeg ∧ (kSw z.S r 1 _).toNatClampNeg ≤ 99
      rw [kSw_o e, kSw_o e]; exact ho.st l z1 z6
  · show k01 (kSw z.S r 2 l) ∧ k01 (kSw z.S r 3 l)
    by_cases e : l = r.2.2.1
    · subst e; rw [g2, g3]; exact ⟨hw, hn⟩
    · rw [kSw_o e, kSw_o e]; exact ho.fs l z1 z6
theorem kRdg_s (c : Nat → Nat) (L m : Nat) (z : kZ) (s : Nat) : kRdg c L (m + 1) z s = if kTk c L s = 0 then .inr z
    else if kTk c L s = 3 then (if (kRh c L z.n (kGl z) s).1 = 0 then kRdg c L m (kZh z (kRh c L z.n (kGl z) s).2.2.1 (kRh c L z.n (kGl z) s).2.2.2.1 (kRh c L z.n (kGl z) s).2.2.2.2.1 (kRh c L z.n (kGl z) s).2.2.2.2.2) (kRh c L z.n (kGl z) s).2.1
      else .inl ((kRh c L z.n (kGl z) s).1, (kRh c L z.n (kGl z) s).2.1))
    else (if (kRy c L s).1 = 0 then kRdg c L m (kZy z (kRy c L s)) (kRy c L s).2.1 else .inl ((kRy c L s).1, (kRy c L s).2.1)) := rfl
section KXZ
variable {adK a : Nat → Nat} {L s t n g : Nat} {f : ky_H} {c : Nat → Nat} {Q : ky_Q} {z z' : kZ}
theorem kZe_Gl (h : kZe z z') (ho : kZo z) : kLv (kL z'.R) z'.n = nI (kGl z) ∧ kGl z ≤ 6 := by
  rw [h.1]
  unfold kGl
  cases hn : z.n with
  | zero => exact ⟨rfl, by rw [if_pos rfl]; decide⟩
  | succ k =>
    rw [if_neg (by omega), Nat.add_sub_cancel]
    obtain ⟨e1, e2, e3⟩ := ho.lv k (by omega)
    refine ⟨?_, e3⟩
    show kL z'.R k = _
    rw [← e1]; unfold kL; rw [h.2.1 k (by omega)]
theorem kZh_e {w : List Nat} {l : Nat} {p q : Int32} (h : kZe z z') : kZe (kZh z w l p q) (kZh z' w l p q) := by
  refine ⟨?_, fun i hi => ?_, h.2.2⟩
  · show z'.n + 1 = z.n + 1; rw [h.1]
  · show kru z'.R z'.n _ i = kru z.R z.n _ i
    rw [h.1]
    by_cases e : i = z.n
    · subst e; rw [kru_s, kru_s]
    · rw [kru_o _ _ e, kru_o _ _ e]
      have hi' : i < z.n + 1 := hi
      exact h.2.1 i (by omega)
theorem kZy_e {r : Nat × Nat × Nat × Int32 × Nat × Int32 × Int32} (h : kZe z z') : kZe (kZy z r) (kZy z' r) := by
  refine ⟨h.1, h.2.1, fun l z1 z6 => ?_⟩
  show kSq (kSw z'.S r) (kSw z.S r) l
  by_cases e : l = r.2.2.1
  · subst e
    obtain ⟨a0, a1, a2, a3⟩ := kSw_s (S := z'.S) (r := r)
    obtain ⟨b0, b1, b2, b3⟩ := kSw_s (S := z.S) (r := r)
    exact ⟨a0.trans b0.symm, a1.trans b1.symm, a2.trans b2.symm, a3.trans b3.symm⟩
  · obtain ⟨a0, a1, a2, a3⟩ := h.2.2 l z1 z6
    unfold kSq; rw [kSw_o e, kSw_o e, kSw_o e, kSw_o e, kSw_o e, kSw_o e, kSw_o e, kSw_o e]; exact ⟨a0, a1, a2, a3⟩
theorem kx53 (ha : kI a) (hB : kB a 40 f 700 L c) (hrd : f (a 47) = some (.inr (4, [.ref (a 46)]))) (hT : kTk0 a f) (hZ : ∃ z, kZb a 12 f z)
    (hE : ∀ f' e s', kRdg c L 700 kZ0 (kTs c L 0) = .inl (e, s') → e ≠ 0 → e ≤ 4 → kTo a f' c L s' → (∃ z, kZb a 12 f' z) → kfr a f f' kRF → Q (.inl (some (.int (nI e)))) f')
    (hO : ∀ f' z z', kRdg c L 700 kZ0 (kTs c L 0) = .inr z → kZo z → kZe z z' → kZb a 12 f' z' → kTk0 a f' → kfr a f f' kRF → Q (.inl (some (.int 0))) f') :
    ky_cl adK 53 [.ref (a 47), .ref (a 12)] f Q := by
  obtain ⟨z1, ⟨G1, hW1⟩, hS1⟩ := hZ
  have loop : ∀ m i f z z' s, i + m = 700 → kRdg c L 700 kZ0 (kTs c L 0) = kRdg c L m z s → kZo z → kZe z z' → s ≤ L → kB a 40 f 700 L c → f (a 47) = some (.inr (4, [.ref (a 46)])) → kTo a f c L s → kZb a 12 f z' →
      (∀ f' e s', kRdg c L 700 kZ0 (kTs c L 0) = .inl (e, s') → e ≠ 0 → e ≤ 4 → kTo a f' c L s' → (∃ z, kZb a 12 f' z) → kfr a f f' kRF → Q (.inl (some (.int (nI e)))) f') →
      (∀ f' z z', kRdg c L 700 kZ0 (kTs c L 0) = .inr z → kZo z → kZe z z' → kZb a 12 f' z' → kTk0 a f' → kfr a f f' kRF → Q (.inl (some (.int 0))) f') →
      ky_ok adK 53 15 [some (.ref (a 47)), some (.ref (a 12)), some (.int 0), some (.int (nI i))] [] f 0 0 Q := by
    have e700 : (700 : Int32) = nI 700 := rfl
    intro m
    induction m with
    | zero =>
      intro i f z z' s hi hk ho he hs hB hrd hT hZ hE hO
      repeat' (first | (refine ky_ok_stp rfl ?_; simp (disch := first | omega | assumption) only [ky_stp, ky_inv, ky_ldi, ky_ldl, ky_ldd, ky_lda, ky_cl2, ky_st1, ky_st2, ky_s1i, ky_s2i, ky_s1l, ky_s2l, ky_sli, ky_s1f, ky_s2f, ky_s1d, ky_s2d, ky_sr, ky_sai, ky_sasi, ky_sasl, ky_sasr, ky_svr, ky_sv, ky_sv2, ky_s1, ky_cs, ky_pop, ky_nth, ky_snt, ky_obj, ky_ari, ky_arl, ky_arr, ky_arn, ky_fv, ky_rcv, List.map_cons, List.map_nil, List.drop_succ_cons, List.drop_zero, Value.category, Nat.reduceAdd, Nat.reduceSub, true_and, and_true, true_or, or_true, reduceCtorEq, ite_true, ite_false, eq_self, Nat.reduceEqDiff, Nat.reduceLeDiff, nI_add, nI_1, nI_leI, nI_ltI, nI_eq, nI_clamp, kz_m1, kz_mn, kz_mn2, kz_n0, kz_0n, kz_0, kz_le0, kz_0lt, false_implies, true_implies, not_false_eq_true, not_true_eq_false, Nat.zero_le, kb_0, kz_10, kz_of, ky_sw, kz_mx, kz_mi, e700]) | (refine ⟨vp_in_nI (by omega) (by omega), ?_⟩) | (refine ⟨fun zc => ?_, fun zc => ?_⟩ <;> try (exfalso; omega)) | fail)
      exact hO f z z' hk ho he hZ ⟨_, _, _, _, _, hT⟩ kfr_rf
    | succ m ih =>
      intro i f z z' s hi hk ho he hs hB hrd hT hZ hE hO
      obtain ⟨⟨G, hW⟩, hS⟩ := id hZ
      have hT' := hT
      unfold kTo at hT'
      have y0 := kW_lv hW
      have hk5 := kTk_le c L s
      conv at hk => rhs; rw [kRdg_s]
      (refine ky_ok_stp rfl ?_; simp (disch := first | omega | assumption) only [ky_stp, ky_inv, ky_ldi, ky_ldl, ky_ldd, ky_lda, ky_cl2, ky_st1, ky_st2, ky_s1i, ky_s2i, ky_s1l, ky_s2l, ky_sli, ky_s1f, ky_s2f, ky_s1d, ky_s2d, ky_sr, ky_sai, ky_sasi, ky_sasl, ky_sasr, ky_svr, ky_sv, ky_sv2, ky_s1, ky_cs, ky_pop, ky_nth, ky_snt, ky_obj, ky_ari, ky_arl, ky_arr, ky_arn, ky_fv, ky_rcv, List.map_cons, List.map_nil, List.drop_succ_cons, List.drop_zero, Value.category, Nat.reduceAdd, Nat.reduceSub, true_and, and_true, true_or, or_true, reduceCtorEq, ite_true, ite_false, eq_self, Nat.reduceEqDiff, Nat.reduceLeDiff, nI_add, nI_1, nI_leI, nI_ltI, nI_eq, nI_clamp, kz_m1, kz_mn, kz_mn2, kz_n0, kz_0n, kz_0, kz_le0, kz_0lt, false_implies, true_implies, not_false_eq_true, not_true_eq_false, Nat.zero_le, kb_0, kz_10, kz_of, ky_sw, kz_mx, kz_mi, hT', hrd])
      by_cases e0 : kTk c L s = 0
      · rw [if_pos e0] at hk
        repeat' (first | (refine ky_ok_stp rfl ?_; simp (disch := first | omega | assumption) only [ky_stp, ky_inv, ky_ldi, ky_ldl, ky_ldd, ky_lda, ky_cl2, ky_st1, ky_st2, ky_s1i, ky_s2i, ky_s1l, ky_s2l, ky_sli, ky_s1f, ky_s2f, ky_s1d, ky_s2d, ky_sr, ky_sai, ky_sasi, ky_sasl, ky_sasr, ky_svr, ky_sv, ky_sv2, ky_s1, ky_cs, ky_pop, ky_nth, ky_snt, ky_obj, ky_ari, ky_arl, ky_arr, ky_arn, ky_fv, ky_rcv, List.map_cons, List.map_nil, List.drop_succ_cons, List.drop_zero, Value.category, Nat.reduceAdd, Nat.reduceSub, true_and, and_true, true_or, or_true, reduceCtorEq, ite_true, ite_false, eq_self, Nat.reduceEqDiff, Nat.reduceLeDiff, nI_add, nI_1, nI_leI, nI_ltI, nI_eq, nI_clamp, kz_m1, kz_mn, kz_mn2, kz_n0, kz_0n, kz_0, kz_le0, kz_0lt, false_implies, true_implies, not_false_eq_true, not_true_eq_false, Nat.zero_le, kb_0, kz_10, kz_of, ky_sw, kz_mx, kz_mi, e700, hrd, hT', e0]) | (refine ⟨vp_in_nI (by omega) (by omega), ?_⟩) | (refine ⟨fun zc => ?_, fun zc => ?_⟩ <;> try (exfalso; omega)) | fail)
        exact hO f z z' hk ho he hZ ⟨_, _, _, _, _, hT⟩ kfr_rf
      · rw [if_neg e0] at hk
        have hgl := kZe_Gl he ho
        by_cases e3 : kTk c L s = 3
        · rw [if_pos e3] at hk
          have hen : z'.n = z.n := he.1
          have h54 := kRh_e c L z.n (kGl z) s
          repeat' (first | (refine kx54 ha hB hs hrd hT hW hS (by rw [hen]; exact ho.n60) hgl.1 hgl.2 ?_) | (refine ky_ok_stp rfl ?_; simp (disch := first | omega | assumption) only [ky_stp, ky_inv, ky_ldi, ky_ldl, ky_ldd, ky_lda, ky_cl2, ky_st1, ky_st2, ky_s1i, ky_s2i, ky_s1l, ky_s2l, ky_sli, ky_s1f, ky_s2f, ky_s1d, ky_s2d, ky_sr, ky_sai, ky_sasi, ky_sasl, ky_sasr, ky_svr, ky_sv, ky_sv2, ky_s1, ky_cs, ky_pop, ky_nth, ky_snt, ky_obj, ky_ari, ky_arl, ky_arr, ky_arn, ky_fv, ky_rcv, List.map_cons, List.map_nil, List.drop_succ_cons, List.drop_zero, Value.category, Nat.reduceAdd, Nat.reduceSub, true_and, and_true, true_or, or_true, reduceCtorEq, ite_true, ite_false, eq_self, Nat.reduceEqDiff, Nat.reduceLeDiff, nI_add, nI_1, nI_leI, nI_ltI, nI_eq, nI_clamp, kz_m1, kz_mn, kz_mn2, kz_n0, kz_0n, kz_0, kz_le0, kz_0lt, false_implies, true_implies, not_false_eq_true, not_true_eq_false, Nat.zero_le, kb_0, kz_10, kz_of, ky_sw, kz_mx, kz_mi, e700, hrd, hT', kz_3x, y0, e3]) | (refine ⟨vp_in_nI (by omega) (by omega), ?_⟩) | (refine ⟨fun zc => ?_, fun zc => ?_⟩ <;> try (exfalso; omega)) | fail)
          rw [hen]
          intro f1 hT1 hF1 hw1 hz1
          simp only [ky_aft, ky_vl, Nat.reduceAdd]
          have hB1 := kB40 hB hF1
          have hrd1 : f1 (a 47) = _ := (hF1 47 (by unfold kRF; omega)).trans hrd
          by_cases e1 : (kRh c L z.n (kGl z) s).1 = 0
          · rw [if_pos e1] at hk
            obtain ⟨⟨G2, hW2⟩, hS2⟩ := hw1 e1
            have hok := kRh_ok e3 e1
            have ho2 := kZh_ok (z := z) ho hok.1 hok.2.1 hok.2.2.1 hok.2.2.2.1 hok.2.2.2.2.1 hok.2.2.2.2.2.1 hok.2.2.2.2.2.2
            have hW3 : kW a 12 f1 (kZh z' (kRh c L z.n (kGl z) s).2.2.1 (kRh c L z.n (kGl z) s).2.2.2.1 (kRh c L z.n (kGl z) s).2.2.2.2.1 (kRh c L z.n (kGl z) s).2.2.2.2.2).n (kZh z' (kRh c L z.n (kGl z) s).2.2.1 (kRh c L z.n (kGl z) s).2.2.2.1 (kRh c L z.n (kGl z) s).2.2.2.2.1 (kRh c L z.n (kGl z) s).2.2.2.2.2).R G2 := by
              unfold kZh; simp only [hen]; exact hW2
            rw [e1]
            repeat' (first | (refine ih (i + 1) f1 _ (kZh z' (kRh c L z.n (kGl z) s).2.2.1 (kRh c L z.n (kGl z) s).2.2.2.1 (kRh c L z.n (kGl z) s).2.2.2.2.1 (kRh c L z.n (kGl z) s).2.2.2.2.2) _ (by omega) hk ho2 (kZh_e he) (kRh_s hs) hB1 hrd1 hT1 ⟨⟨_, hW3⟩, hS2⟩ ?_ ?_) | (refine ky_ok_stp rfl ?_; simp (disch := first | omega | assumption) only [ky_stp, ky_inv, ky_ldi, ky_ldl, ky_ldd, ky_lda, ky_cl2, ky_st1, ky_st2, ky_s1i, ky_s2i, ky_s1l, ky_s2l, ky_sli, ky_s1f, ky_s2f, ky_s1d, ky_s2d, ky_sr, ky_sai, ky_sasi, ky_sasl, ky_sasr, ky_svr, ky_sv, ky_sv2, ky_s1, ky_cs, ky_pop, ky_nth, ky_snt, ky_obj, ky_ari, ky_arl, ky_arr, ky_arn, ky_fv, ky_rcv, List.map_cons, List.map_nil, List.drop_succ_cons, List.drop_zero, Value.category, Nat.reduceAdd, Nat.reduceSub, true_and, and_true, true_or, or_true, reduceCtorEq, ite_true, ite_false, eq_self, Nat.reduceEqDiff, Nat.reduceLeDiff, nI_add, nI_1, nI_leI, nI_ltI, nI_eq, nI_clamp, kz_m1, kz_mn, kz_mn2, kz_n0, kz_0n, kz_0, kz_le0, kz_0lt, false_implies, true_implies, not_false_eq_true, not_true_eq_false, Nat.zero_le, kb_0, kz_10, kz_of, ky_sw, kz_mx, kz_mi]) | (refine ⟨vp_in_nI (by omega) (by omega), ?_⟩) | (refine ⟨fun zc => ?_, fun zc => ?_⟩ <;> try (exfalso; omega)) | fail)
            · intro f' e s' w1 w2 w3 w4 w5 w6; exact hE f' e s' w1 w2 w3 w4 w5 (kfRR hF1 w6)
            · intro f' z2 z2' w1 w2 w3 w4 w5 w6; exact hO f' z2 z2' w1 w2 w3 w4 w5 (kfRR hF1 w6)
          · rw [if_neg e1] at hk
            repeat' (first | (refine ky_ok_stp rfl ?_; simp (disch := first | omega | assumption) only [ky_stp, ky_inv, ky_ldi, ky_ldl, ky_ldd, ky_lda, ky_cl2, ky_st1, ky_st2, ky_s1i, ky_s2i, ky_s1l, ky_s2l, ky_sli, ky_s1f, ky_s2f, ky_s1d, ky_s2d, ky_sr, ky_sai, ky_sasi, ky_sasl, ky_sasr, ky_svr, ky_sv, ky_sv2, ky_s1, ky_cs, ky_pop, ky_nth, ky_snt, ky_obj, ky_ari, ky_arl, ky_arr, ky_arn, ky_fv, ky_rcv, List.map_cons, List.map_nil, List.drop_succ_cons, List.drop_zero, Value.category, Nat.reduceAdd, Nat.reduceSub, true_and, and_true, true_or, or_true, reduceCtorEq, ite_true, ite_false, eq_self, Nat.reduceEqDiff, Nat.reduceLeDiff, nI_add, nI_1, nI_leI, nI_ltI, nI_eq, nI_clamp, kz_m1, kz_mn, kz_mn2, kz_n0, kz_0n, kz_0, kz_le0, kz_0lt, false_implies, true_implies, not_false_eq_true, not_true_eq_false, Nat.zero_le, kb_0, kz_10, kz_of, ky_sw, kz_mx, kz_mi, e700]) | (refine ⟨vp_in_nI (by omega) (by omega), ?_⟩) | (refine ⟨fun zc => ?_, fun zc => ?_⟩ <;> try (exfalso; omega)) | fail)
            · exact hE f1 _ _ hk e1 h54 hT1 hz1 hF1
            · exact hE f1 _ _ hk e1 h54 hT1 hz1 hF1
        · rw [if_neg e3] at hk
          have h54 := kRy_e c L s
          repeat' (first | (refine kx55 ha hB hs hrd hT hW hS ?_) | (refine ky_ok_stp rfl ?_; simp (disch := first | omega | assumption) only [ky_stp, ky_inv, ky_ldi, ky_ldl, ky_ldd, ky_lda, ky_cl2, ky_st1, ky_st2, ky_s1i, ky_s2i, ky_s1l, ky_s2l, ky_sli, ky_s1f, ky_s2f, ky_s1d, ky_s2d, ky_sr, ky_sai, ky_sasi, ky_sasl, ky_sasr, ky_svr, ky_sv, ky_sv2, ky_s1, ky_cs, ky_pop, ky_nth, ky_snt, ky_obj, ky_ari, ky_arl, ky_arr, ky_arn, ky_fv, ky_rcv, List.map_cons, List.map_nil, List.drop_succ_cons, List.drop_zero, Value.category, Nat.reduceAdd, Nat.reduceSub, true_and, and_true, true_or, or_true, reduceCtorEq, ite_true, ite_false, eq_self, Nat.reduceEqDiff, Nat.reduceLeDiff, nI_add, nI_1, nI_leI, nI_ltI, nI_eq, nI_clamp, kz_m1, kz_mn, kz_mn2, kz_n0, kz_0n, kz_0, kz_le0, kz_0lt, false_implies, true_implies, not_false_eq_true, not_true_eq_false, Nat.zero_le, kb_0, kz_10, kz_of, ky_sw, kz_mx, kz_mi, e700, hrd, hT', kz_3x, y0, kz_tk, eq_false e3, kz_0, eq_false e0]) | (refine ⟨vp_in_nI (by omega) (by omega), ?_⟩) | (refine ⟨fun zc => ?_, fun zc => ?_⟩ <;> try (exfalso; omega)) | fail)
          intro f1 hT1 hF1 hw1 hz1
          simp only [ky_aft, ky_vl, Nat.reduceAdd]
          have hB1 := kB40 hB hF1
          have hrd1 : f1 (a 47) = _ := (hF1 47 (by unfold kRF; omega)).trans hrd
          by_cases e1 : (kRy c L s).1 = 0
          · rw [if_pos e1] at hk
            obtain ⟨hW2, hS2⟩ := hw1 e1
            have ho2 := kZy_ok ho (kRy_ok e1)
            rw [e1]
            repeat' (first | (refine ih (i + 1) f1 _ (kZy z' (kRy c L s)) _ (by omega) hk ho2 (kZy_e he) (kRy_s hs) hB1 hrd1 hT1 ⟨⟨_, hW2⟩, hS2⟩ ?_ ?_) | (refine ky_ok_stp rfl ?_; simp (disch := first | omega | assumption) only [ky_stp, ky_inv, ky_ldi, ky_ldl, ky_ldd, ky_lda, ky_cl2, ky_st1, ky_st2, ky_s1i, ky_s2i, ky_s1l, ky_s2l, ky_sli, ky_s1f, ky_s2f, ky_s1d, ky_s2d, ky_sr, ky_sai, ky_sasi, ky_sasl, ky_sasr, ky_svr, ky_sv, ky_sv2, ky_s1, ky_cs, ky_pop, ky_nth, ky_snt, ky_obj, ky_ari, ky_arl, ky_arr, ky_arn, ky_fv, ky_rcv, List.map_cons, List.map_nil, List.drop_succ_cons, List.drop_zero, Value.category, Nat.reduceAdd, Nat.reduceSub, true_and, and_true, true_or, or_true, reduceCtorEq, ite_true, ite_false, eq_self, Nat.reduceEqDiff, Nat.reduceLeDiff, nI_add, nI_1, nI_leI, nI_ltI, nI_eq, nI_clamp, kz_m1, kz_mn, kz_mn2, kz_n0, kz_0n, kz_0, kz_le0, kz_0lt, false_implies, true_implies, not_false_eq_true, not_true_eq_false, Nat.zero_le, kb_0, kz_10, kz_of, ky_sw, kz_mx, kz_mi]) | (refine ⟨vp_in_nI (by omega) (by omega), ?_⟩) | (refine ⟨fun zc => ?_, fun zc => ?_⟩ <;> try (exfalso; omega)) | fail)
            · intro f' e s' w1 w2 w3 w4 w5 w6; exact hE f' e s' w1 w2 w3 w4 w5 (kfRR hF1 w6)
            · intro f' z2 z2' w1 w2 w3 w4 w5 w6; exact hO f' z2 z2' w1 w2 w3 w4 w5 (kfRR hF1 w6)
          · rw [if_neg e1] at hk
            repeat' (first | (refine ky_ok_stp rfl ?_; simp (disch := first | omega | assumption) only [ky_stp, ky_inv, ky_ldi, ky_ldl, ky_ldd, ky_lda, ky_cl2, ky_st1, ky_st2, ky_s1i, ky_s2i, ky_s1l, ky_s2l, ky_sli, ky_s1f, ky_s2f, ky_s1d, ky_s2d, ky_sr, ky_sai, ky_sasi, ky_sasl, ky_sasr, ky_svr, ky_sv, ky_sv2, ky_s1, ky_cs, ky_pop, ky_nth, ky_snt, ky_obj, ky_ari, ky_arl, ky_arr, ky_arn, ky_fv, ky_rcv, List.map_cons, List.map_nil, List.drop_succ_cons, List.drop_zero, Value.category, Nat.reduceAdd, Nat.reduceSub, true_and, and_true, true_or, or_true, reduceCtorEq, ite_true, ite_false, eq_self, Nat.reduceEqDiff, Nat.reduceLeDiff, nI_add, nI_1, nI_leI, nI_ltI, nI_eq, nI_clamp, kz_m1, kz_mn, kz_mn2, kz_n0, kz_0n, kz_0, kz_le0, kz_0lt, false_implies, true_implies, not_false_eq_true, not_true_eq_false, Nat.zero_le, kb_0, kz_10, kz_of, ky_sw, kz_mx, kz_mi, e700]) | (refine ⟨vp_in_nI (by omega) (by omega), ?_⟩) | (refine ⟨fun zc => ?_, fun zc => ?_⟩ <;> try (exfalso; omega)) | fail)
            · exact hE f1 _ _ hk e1 (by omega) hT1 hz1 hF1
            · exact hE f1 _ _ hk e1 (by omega) hT1 hz1 hF1
  have y0 := kW_lv hW1
  refine ⟨Nat.le_of_ble_eq_true rfl, fun z => absurd z (by decide), ?_⟩; show ky_ok adK 53 0 [some (.ref (a 47)), some (.ref (a 12)), none, none] [] f 0 0 _
  repeat' (first | (refine kx43 ha hW1 hS1 ?_) | (refine ky_ok_stp rfl ?_; simp (disch := first | omega | assumption) only [ky_stp, ky_inv, ky_ldi, ky_ldl, ky_ldd, ky_lda, ky_cl2, ky_st1, ky_st2, ky_s1i, ky_s2i, ky_s1l, ky_s2l, ky_sli, ky_s1f, ky_s2f, ky_s1d, ky_s2d, ky_sr, ky_sai, ky_sasi, ky_sasl, ky_sasr, ky_svr, ky_sv, ky_sv2, ky_s1, ky_cs, ky_pop, ky_nth, ky_snt, ky_obj, ky_ari, ky_arl, ky_arr, ky_arn, ky_fv, ky_rcv, List.map_cons, List.map_nil, List.drop_succ_cons, List.drop_zero, Value.category, Nat.reduceAdd, Nat.reduceSub, true_and, and_true, true_or, or_true, reduceCtorEq, ite_true, ite_false, eq_self, Nat.reduceEqDiff, Nat.reduceLeDiff, nI_add, nI_1, nI_leI, nI_ltI, nI_eq, nI_clamp, kz_m1, kz_mn, kz_mn2, kz_n0, kz_0n, kz_0, kz_le0, kz_0lt, false_implies, true_implies, not_false_eq_true, not_true_eq_false, Nat.zero_le, kb_0, kz_10, kz_of, ky_sw, kz_mx, kz_mi, y0]) | (refine ⟨vp_in_nI (by omega) (by omega), ?_⟩) | (refine ⟨fun zc => ?_, fun zc => ?_⟩ <;> try (exfalso; omega)) | fail)
  intro f1 S1 hW2 hS2 hF1 hd
  simp only [ky_aft, ky_vl, Nat.reduceAdd]
  have hF1' : kfr a f f1 kRF := fun j hj => hF1 j (by unfold kBl; unfold kRF at hj; omega)
  have hrd1 : f1 (a 47) = _ := (hF1' 47 (by unfold kRF; omega)).trans hrd
  have hT1 : kTk0 a f1 := kTk0_fr hT (hF1 46 (by unfold kBl; omega))
  obtain ⟨_, _, _, _, _, hT1'⟩ := id hT1
  repeat' (first | (refine kx76 ha (kB40 hB hF1') hT1 ?_) | (refine ky_ok_stp rfl ?_; simp (disch := first | omega | assumption) only [ky_stp, ky_inv, ky_ldi, ky_ldl, ky_ldd, ky_lda, ky_cl2, ky_st1, ky_st2, ky_s1i, ky_s2i, ky_s1l, ky_s2l, ky_sli, ky_s1f, ky_s2f, ky_s1d, ky_s2d, ky_sr, ky_sai, ky_sasi, ky_sasl, ky_sasr, ky_svr, ky_sv, ky_sv2, ky_s1, ky_cs, ky_pop, ky_nth, ky_snt, ky_obj, ky_ari, ky_arl, ky_arr, ky_arn, ky_fv, ky_rcv, List.map_cons, List.map_nil, List.drop_succ_cons, List.drop_zero, Value.category, Nat.reduceAdd, Nat.reduceSub, true_and, and_true, true_or, or_true, reduceCtorEq, ite_true, ite_false, eq_self, Nat.reduceEqDiff, Nat.reduceLeDiff, nI_add, nI_1, nI_leI, nI_ltI, nI_eq, nI_clamp, kz_m1, kz_mn, kz_mn2, kz_n0, kz_0n, kz_0, kz_le0, kz_0lt, false_implies, true_implies, not_false_eq_true, not_true_eq_false, Nat.zero_le, kb_0, kz_10, kz_of, ky_sw, kz_mx, kz_mi, hrd1, hT1']) | (refine ⟨vp_in_nI (by omega) (by omega), ?_⟩) | (refine ⟨fun zc => ?_, fun zc => ?_⟩ <;> try (exfalso; omega)) | fail)
  intro f2 hT2 hF2
  simp only [ky_aft, ky_vl, Nat.reduceAdd]
  have hF2' := kfRR hF1' (kf46 hF2)
  have hrd2 : f2 (a 47) = _ := (hF2 47 (by omega)).trans hrd1
  have he0 : kZe kZ0 ⟨0, z1.R, S1⟩ := ⟨rfl, fun i hi => absurd hi (Nat.not_lt_zero i), fun l w1 w6 => by obtain ⟨a0, a1, a2, a3⟩ := hd l w1 w6; exact ⟨a0, a1, a2, a3⟩⟩
  repeat' (first | (refine loop 700 0 f2 kZ0 ⟨0, z1.R, S1⟩ (kTs c L 0) rfl rfl kZ0_ok he0 (kTs_le (Nat.zero_le L)).2 (kB40 hB hF2') hrd2 hT2 ⟨⟨_, kW46 hW2 hF2⟩, kS46 hS2 hF2⟩ ?_ ?_) | (refine ky_ok_stp rfl ?_; simp (disch := first | omega | assumption) only [ky_stp, ky_inv, ky_ldi, ky_ldl, ky_ldd, ky_lda, ky_cl2, ky_st1, ky_st2, ky_s1i, ky_s2i, ky_s1l, ky_s2l, ky_sli, ky_s1f, ky_s2f, ky_s1d, ky_s2d, ky_sr, ky_sai, ky_sasi, ky_sasl, ky_sasr, ky_svr, ky_sv, ky_sv2, ky_s1, ky_cs, ky_pop, ky_nth, ky_snt, ky_obj, ky_ari, ky_arl, ky_arr, ky_arn, ky_fv, ky_rcv, List.map_cons, List.map_nil, List.drop_succ_cons, List.drop_zero, Value.category, Nat.reduceAdd, Nat.reduceSub, true_and, and_true, true_or, or_true, reduceCtorEq, ite_true, ite_false, eq_self, Nat.reduceEqDiff, Nat.reduceLeDiff, nI_add, nI_1, nI_leI, nI_ltI, nI_eq, nI_clamp, kz_m1, kz_mn, kz_mn2, kz_n0, kz_0n, kz_0, kz_le0, kz_0lt, false_implies, true_implies, not_false_eq_true, not_true_eq_false, Nat.zero_le, kb_0, kz_10, kz_of, ky_sw, kz_mx, kz_mi]) | (refine ⟨vp_in_nI (by omega) (by omega), ?_⟩) | (refine ⟨fun zc => ?_, fun zc => ?_⟩ <;> try (exfalso; omega)) | fail)
  · intro f' e s' w1 w2 w3 w4 w5 w6; exact hE f' e s' w1 w2 w3 w4 w5 (kfRR hF2' w6)
  · intro f' z2 z2' w1 w2 w3 w4 w5 w6; exact hO f' z2 z2' w1 w2 w3 w4 w5 (kfRR hF2' w6)
end KXZ
