/-! ## the reference: NUMBERs are laid -/
theorem kLt_P {z : kZ} (ho : kZo z) {l : Nat} (h1 : 1 ≤ l) (h6 : l ≤ 6) : ∀ j, j < z.n → l ≤ kV z.R j → kLt (kV z.R) j (l - 1) = kP (kL z.R) (nI l) j
  | 0, _, _ => rfl
  | j + 1, hj, hl => by
    obtain ⟨l0, v1, v6⟩ := ho.lv j (by omega)
    have hs := ho.ls j hj
    rw [kLt, kP, l0]
    by_cases e : l ≤ kV z.R j
    · rw [if_neg (by omega), if_pos (by rw [nI_leI (by omega) (by omega)]; exact e)]
      exact kLt_P ho h1 h6 j (by omega) e
    · rw [if_pos (by omega), if_neg (by rw [nI_leI (by omega) (by omega)]; exact e)]
/-- numbers laid for the headings ahead of p -/
def kLd (a : Nat → Nat) (f : ky_H) (z : kZ) (p : Nat) : Prop := ∃ M E : Nat → Int32, f (a 178) = some (.inl (1, 3600, .inl M)) ∧ f (a 179) = some (.inl (1, 60, .inl E)) ∧ ∀ i, i < p → E i = nI (kNO z i).length ∧ ∀ t, t < (kNO z i).length → M (60 * i + t) = nI ((kNO z i).getD t 0)
theorem kCn_z (px : Nat → Nat) : ∀ m, kCn px m 0 = []
  | 0 => rfl
  | _ + 1 => rfl
/-- enough steps are enough -/
theorem kCn_m {px V : Nat → Nat} {n : Nat} (hp : ∀ t, t < n → px t ≤ t ∧ 1 ≤ V t ∧ (px t ≠ 0 → V (px t - 1) + 1 = V t)) : ∀ m t, t < n → V t ≤ m → kCn px (m + 1) (t + 1) = kCn px m (t + 1)
  | 0, t, ht, h => by have := (hp t ht).2.1; omega
  | m + 1, t, ht, h => by
    obtain ⟨h1, h2, h3⟩ := hp t ht
    rw [kCn, kCn]
    match hx : px t with
    | 0 => rw [kCn_z, kCn_z]
    | u + 1 =>
      have h3 : V u + 1 = V t := by
        have := h3 (by omega)
        rw [hx] at this
        exact this
      rw [kCn_m hp m u (by omega) (by omega)]
theorem kOl_app (kd ct : Nat → Nat) (x : Nat) : ∀ l, kOl kd ct (l ++ [x]) = (if l = [] then [] else kOl kd ct l ++ [46]) ++ sgn (kd x) (ct x)
  | [] => by simp [kOl]
  | y :: r => by
    have ih := kOl_app kd ct x r
    by_cases e : r = []
    · subst e; simp [kOl]
    · rw [if_neg e] at ih; simp [kOl, ih, e]
theorem kPF_s {z : kZ} (ho : kZo z) {t : Nat} (ht : t < z.n) : kPF z t ≤ t ∧ 1 ≤ kV z.R t ∧ (kPF z t ≠ 0 → kV z.R (kPF z t - 1) + 1 = kV z.R t) := by
  obtain ⟨l0, v1, v6⟩ := ho.lv t ht
  have hl := kLt_le (kV z.R) t (kV z.R t - 1)
  refine ⟨?_, v1, fun h => ?_⟩
  · show kPf _ _ _ _ ≤ t
    unfold kPf
    split <;> omega
  · have hv := kLt_V (kV z.R) t (kV z.R t - 1)
    change kPf (kPl z.R) (kV z.R) z.S t ≠ 0 at h
    show kV z.R (kPf (kPl z.R) (kV z.R) z.S t - 1) + 1 = _
    unfold kPf at h ⊢
    split at h
    · next hc =>
      rw [if_pos hc, hv h]; omega
    · exact absurd rfl h
theorem kNO_s {z : kZ} (ho : kZo z) {p : Nat} (hp : p < z.n) : kNO z p = (if kPF z p = 0 then [] else kNO z (kPF z p - 1) ++ [46]) ++ sgn (kKD z p) (kCO z p) := by
  have hs := fun t (ht : t < z.n) => kPF_s ho ht
  obtain ⟨h1, h2, h3⟩ := hs p hp
  have h6 := (ho.lv p hp).2.2
  show kNo _ _ _ p = (if kPF z p = 0 then [] else kNo (kKD z) (kCO z) (kPF z) (kPF z p - 1) ++ [46]) ++ _
  unfold kNo
  rw [show kCn (kPF z) 6 (p + 1) = p :: kCn (kPF z) 5 (kPF z p) from rfl, List.reverse_cons, kOl_app]
  match hx : kPF z p with
  | 0 =>
    rw [if_pos rfl, kCn_z]
    simp
  | u + 1 =>
    have h3 : kV z.R u + 1 = kV z.R p := by
      have := h3 (by omega)
      rw [hx] at this
      exact this
    rw [if_neg (show ¬ u + 1 = 0 by omega), show u + 1 - 1 = u from rfl, kCn_m hs 5 u (by omega) (by omega), if_neg]
    intro e
    rw [List.reverse_eq_nil_iff] at e
    cases e
/-- who has a NUMBER -/
theorem kNO_0 {z : kZ} {p : Nat} (h : ¬ kNmd z p) : kNO z p = [] := by
  have e : kCO z p = 0 := if_neg h
  have e2 : kPF z p = 0 := if_neg fun w => h w.1
  show kOl _ _ (kCn (kPF z) 6 (p + 1)).reverse = []
  rw [show kCn (kPF z) 6 (p + 1) = p :: kCn (kPF z) 5 (kPF z p) from rfl, e2, kCn_z]
  simp [kOl, sgn, e]
theorem kCO_s {z : kZ} (ho : kZo z) {p : Nat} (hp : p < z.n) (h : kNmd z p) : 1 ≤ kCO z p ∧ kCO z p < 159 := by
  obtain ⟨l0, v1, v6⟩ := ho.lv p hp
  obtain ⟨-, -, -, s1, s99⟩ := ho.st _ v1 v6
  have hb := kNb_le (kPl z.R) (kV z.R) z.S p (kV z.R p)
  have h60 := ho.n60
  have e : kCO z p = kss z.S (kV z.R p) + kNb (kPl z.R) (kV z.R) z.S p (kV z.R p) := if_pos h
  omega
theorem kNO_n {z : kZ} (ho : kZo z) {p : Nat} (hp : p < z.n) (h : kNmd z p) : kNO z p ≠ [] := by
  obtain ⟨h1, h2⟩ := kCO_s ho hp h
  obtain ⟨l0, v1, v6⟩ := ho.lv p hp
  obtain ⟨s0, s5, -⟩ := ho.st _ v1 v6
  have hk5 : ksk z.S (kV z.R p) ≠ 5 := fun w => h.2 (by rw [s0, w]; rfl)
  have hs : sgn (kKD z p) (kCO z p) ≠ [] := by
    unfold sgn
    rw [if_neg (by omega)]
    exact (sg_ok (show kKD z p < 5 by unfold kKD; omega) h2 h1).1
  rw [kNO_s ho hp]
  intro e
  exact hs (List.append_eq_nil_iff.mp e).2
theorem kNO_l {z : kZ} (ho : kZo z) : ∀ m p, p < z.n → kV z.R p ≤ m → (kNO z p).length + 1 ≤ 9 * kV z.R p
  | 0, p, hp, h => by have := (ho.lv p hp).2.1; omega
  | m + 1, p, hp, h => by
    obtain ⟨h1, h2, h3⟩ := kPF_s ho hp
    have hw := kZo_w ho p hp
    have hs := (sgn_ok hw.1 hw.2.1 hw.2.2.1).1
    rw [kNO_s ho hp, List.length_append]
    by_cases e : kPF z p = 0
    · rw [if_pos e, List.length_nil]; omega
    · rw [if_neg e, List.length_append, List.length_singleton]
      have := h3 e
      have hi := kNO_l ho m (kPF z p - 1) (by omega) (by omega)
      omega
theorem ktk {l : List Nat} {i : Nat} (h : i < l.length) : l.take i ++ [l.getD i 0] = l.take (i + 1) := by
  rw [List.take_add_one, List.getD_eq_getElem?_getD, List.getElem?_eq_getElem h]
  rfl
