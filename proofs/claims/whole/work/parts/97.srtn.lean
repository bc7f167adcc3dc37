/-! ## the reference: names in order -/
def kLx : List Nat → List Nat → Prop
  | a :: r, b :: r' => a < b ∨ a = b ∧ kLx r r'
  | [], _ => False
  | _ :: _, [] => False
def kVb (B : Nat) : List Nat → Nat
  | [] => 0
  | a :: r => a * B ^ r.length + kVb B r
theorem kVb_lt {B : Nat} : ∀ l : List Nat, (∀ a ∈ l, a < B) → kVb B l < B ^ l.length
  | [], _ => by show 0 < B ^ 0; simp
  | a :: r, h => by
    have ih := kVb_lt r fun x hx => h x (List.mem_cons_of_mem _ hx)
    have ha := h a List.mem_cons_self
    rw [kVb, List.length_cons, Nat.pow_succ]
    have h1 : (a + 1) * B ^ r.length ≤ B * B ^ r.length := Nat.mul_le_mul_right _ ha
    rw [Nat.add_mul, Nat.one_mul] at h1
    rw [Nat.mul_comm (B ^ r.length) B]
    omega
theorem kVb_lx {B : Nat} : ∀ l l' : List Nat, l.length = l'.length → (∀ a ∈ l, a < B) → (∀ a ∈ l', a < B) → (kVb B l < kVb B l' ↔ kLx l l') ∧ (kVb B l = kVb B l' → l = l')
  | [], [], _, _, _ => ⟨⟨fun w => absurd w (Nat.lt_irrefl _), fun w => absurd w id⟩, fun _ => rfl⟩
  | a :: r, b :: r', hl, h, h' => by
    have hl' : r.length = r'.length := by simpa using hl
    obtain ⟨i1, i2⟩ := kVb_lx r r' hl' (fun x hx => h x (List.mem_cons_of_mem _ hx)) (fun x hx => h' x (List.mem_cons_of_mem _ hx))
    have u := kVb_lt r fun x hx => h x (List.mem_cons_of_mem _ hx)
    have u' := kVb_lt r' fun x hx => h' x (List.mem_cons_of_mem _ hx)
    rw [← hl'] at u'
    rw [kVb, kVb, kLx, ← hl']
    have lt1 : a < b → a * B ^ r.length + kVb B r < b * B ^ r.length + kVb B r' := fun w => by
      have h1 : (a + 1) * B ^ r.length ≤ b * B ^ r.length := Nat.mul_le_mul_right _ w
      rw [Nat.add_mul, Nat.one_mul] at h1
      omega
    have lt2 : b < a → b * B ^ r.length + kVb B r' < a * B ^ r.length + kVb B r := fun w => by
      have h1 : (b + 1) * B ^ r.length ≤ a * B ^ r.length := Nat.mul_le_mul_right _ w
      rw [Nat.add_mul, Nat.one_mul] at h1
      omega
    rcases Nat.lt_trichotomy a b with w | w | w
    · have := lt1 w
      exact ⟨⟨fun _ => .inl w, fun _ => this⟩, fun e => by omega⟩
    · subst w
      refine ⟨⟨fun e => .inr ⟨rfl, i1.mp (by omega)⟩, fun e => ?_⟩, fun e => by rw [i2 (by omega)]⟩
      rcases e with e | ⟨_, e⟩
      · exact absurd e (Nat.lt_irrefl _)
      · have := i1.mpr e; omega
    · have := lt2 w
      refine ⟨⟨fun e => by omega, fun e => ?_⟩, fun e => by omega⟩
      rcases e with e | ⟨e, _⟩ <;> omega
theorem kpN_v (l : List Nat) : kpN l = kVb 256 l := by
  have key : ∀ (l : List Nat) (s : Nat), l.foldl (fun s b => 256 * s + b) s = s * 256 ^ l.length + kVb 256 l := by
    intro l
    induction l with
    | nil => intro s; show s = s * 256 ^ 0 + 0; omega
    | cons a r ih =>
      intro s
      rw [List.foldl_cons, ih, kVb, List.length_cons, Nat.pow_succ, Nat.add_mul]
      rw [Nat.mul_comm 256 s, Nat.mul_assoc, Nat.mul_comm (256 ^ r.length) 256]
      omega
  have := key l 0
  rw [Nat.zero_mul, Nat.zero_add] at this
  exact this
theorem kz_i64 {n : Nat} (h : n < 2 ^ 63) : ((UInt64.ofNat n).toInt64).toInt = n := by
  show (BitVec.ofNat 64 n).toInt = n
  rw [BitVec.toInt_eq_toNat_of_lt (by rw [BitVec.toNat_ofNat]; omega), BitVec.toNat_ofNat]
  omega
theorem kpad_g {w : List Nat} (hw : w.length ≤ 8) : kpad w = [w.getD 0 0, w.getD 1 0, w.getD 2 0, w.getD 3 0] ++ [w.getD 4 0, w.getD 5 0, w.getD 6 0, w.getD 7 0] := by
  have hl : (kpad w).length = 8 := by unfold kpad; simp
  have hg : ∀ t, t < 8 → (kpad w).getD t 0 = w.getD t 0 := by
    intro t ht
    unfold kpad
    rw [List.getD_eq_getElem?_getD, List.getD_eq_getElem?_getD, List.getElem?_take_of_lt ht]
    by_cases e : t < w.length
    · rw [List.getElem?_append_left e]
    · rw [List.getElem?_append_right (by omega), List.getElem?_eq_none (by omega : w.length ≤ t)]
      rw [List.getElem?_replicate]
      split <;> rfl
  refine (kls (by rw [hl]; rfl)).mpr fun t ht => ?_
  rw [hl] at ht
  rw [hg t ht]
  match t, ht with
  | 0, _ => rfl
  | 1, _ => rfl
  | 2, _ => rfl
  | 3, _ => rfl
  | 4, _ => rfl
  | 5, _ => rfl
  | 6, _ => rfl
  | 7, _ => rfl
theorem kLx_app : ∀ (A A' B B' : List Nat), A.length = A'.length → (kLx (A ++ B) (A' ++ B') ↔ kLx A A' ∨ A = A' ∧ kLx B B')
  | [], [], B, B', _ => ⟨fun w => .inr ⟨rfl, w⟩, fun w => w.elim (fun w => absurd w id) fun w => w.2⟩
  | a :: r, b :: r', B, B', h => by
    have ih := kLx_app r r' B B' (by simpa using h)
    rw [List.cons_append, List.cons_append, kLx, kLx, ih]
    constructor
    · rintro (w | ⟨w, w2 | ⟨w2, w3⟩⟩)
      · exact .inl (.inl w)
      · exact .inl (.inr ⟨w, w2⟩)
      · exact .inr ⟨by rw [w, w2], w3⟩
    · rintro ((w | ⟨w, w2⟩) | ⟨w, w3⟩)
      · exact .inl w
      · exact .inr ⟨w, .inl w2⟩
      · injection w with w w2
        exact .inr ⟨w, .inr ⟨w2, w3⟩⟩
/-- a letter or none -/
def kDg (a : Nat) : Prop := a = 0 ∨ 97 ≤ a ∧ a ≤ 122
theorem kLx_map : ∀ (l l' : List Nat), l.length = l'.length → (∀ a ∈ l, kDg a) → (∀ a ∈ l', kDg a) → (kLx (l.map (· - 96)) (l'.map (· - 96)) ↔ kLx l l') ∧ (l.map (· - 96) = l'.map (· - 96) → l = l')
  | [], [], _, _, _ => ⟨Iff.rfl, fun _ => rfl⟩
  | a :: r, b :: r', hl, h, h' => by
    obtain ⟨i1, i2⟩ := kLx_map r r' (by simpa using hl) (fun x hx => h x (List.mem_cons_of_mem _ hx)) (fun x hx => h' x (List.mem_cons_of_mem _ hx))
    have ha : kDg a := h a List.mem_cons_self
    have hb : kDg b := h' b List.mem_cons_self
    unfold kDg at ha hb
    rw [List.map_cons, List.map_cons, kLx, kLx, i1]
    refine ⟨?_, fun w => ?_⟩
    · rw [show a - 96 < b - 96 ↔ a < b by omega, show a - 96 = b - 96 ↔ a = b by omega]
    · injection w with w w2
      rw [i2 w2, show a = b by omega]
theorem kHf_vb (w : List Nat) (t : Nat) : kHf w t = nI (kVb 27 ([w.getD t 0, w.getD (t + 1) 0, w.getD (t + 2) 0, w.getD (t + 3) 0].map (· - 96))) := by
  unfold kHf
  congr 1
  simp only [List.map_cons, List.map_nil, kVb, List.length_cons, List.length_nil]
  omega
theorem kNm_lt {w w' : List Nat} (h : kWd w) (h' : kWd w') : (kNW w < kNW w') ↔ (kHf w 0 < kHf w' 0 ∨ kHf w 0 = kHf w' 0 ∧ kHf w 4 < kHf w' 4) := by
  have dg : ∀ {w : List Nat}, kWd w → ∀ t, kDg (w.getD t 0) := fun h t => by
    have := kWd_get h t
    unfold kDg
    split at this <;> omega
  have q4 : ∀ {w : List Nat}, kWd w → ∀ t, ∀ a ∈ [w.getD t 0, w.getD (t + 1) 0, w.getD (t + 2) 0, w.getD (t + 3) 0], kDg a := fun h t a ha => by
    simp only [List.mem_cons, List.not_mem_nil, or_false] at ha
    rcases ha with rfl | rfl | rfl | rfl <;> exact dg h _
  have m4 : ∀ {w : List Nat}, kWd w → ∀ t, ∀ a ∈ [w.getD t 0, w.getD (t + 1) 0, w.getD (t + 2) 0, w.getD (t + 3) 0].map (· - 96), a < 27 := fun h t a ha => by
    obtain ⟨b, hb, rfl⟩ := List.mem_map.mp ha
    have := q4 h t b hb
    unfold kDg at this
    show b - 96 < 27
    omega
  have q8 : ∀ {w : List Nat}, kWd w → ∀ a ∈ kpad w, a < 256 ∧ kDg a := fun {w} h a ha => by
    rw [kpad_g h.2.1] at ha
    have : kDg a := by
      rcases List.mem_append.mp ha with ha | ha
      · exact q4 h 0 a ha
      · exact q4 h 4 a ha
    refine ⟨?_, this⟩
    unfold kDg at this
    omega
  have b63 : ∀ {w : List Nat}, kWd w → kpN (kpad w) < 2 ^ 63 := fun {w} h => by
    rw [kpN_v, kpad_g h.2.1]
    have := dg h
    have d0 := this 0
    have d1 := this 1
    have d2 := this 2
    have d3 := this 3
    have d4 := this 4
    have d5 := this 5
    have d6 := this 6
    have d7 := this 7
    unfold kDg at d0 d1 d2 d3 d4 d5 d6 d7
    simp only [List.cons_append, List.nil_append, kVb, List.length_cons, List.length_nil]
    omega
  have b27 : ∀ {w : List Nat}, kWd w → ∀ t, kVb 27 ([w.getD t 0, w.getD (t + 1) 0, w.getD (t + 2) 0, w.getD (t + 3) 0].map (· - 96)) < 2 ^ 31 := fun {w} h t => by
    have := kVb_lt _ (m4 h t)
    simp only [List.map_cons, List.map_nil, List.length_cons, List.length_nil] at this ⊢
    omega
  rw [Int64.lt_iff_toInt_lt]
  unfold kNW kpS
  rw [kz_i64 (b63 h), kz_i64 (b63 h'), Int.ofNat_lt, kpN_v, kpN_v, (kVb_lx (kpad w) (kpad w') (by unfold kpad; simp) (fun a ha => (q8 h a ha).1) (fun a ha => (q8 h' a ha).1)).1]
  rw [kpad_g h.2.1, kpad_g h'.2.1, kLx_app [w.getD 0 0, w.getD 1 0, w.getD 2 0, w.getD 3 0] [w'.getD 0 0, w'.getD 1 0, w'.getD 2 0, w'.getD 3 0] _ _ (by simp), kHf_vb, kHf_vb, kHf_vb, kHf_vb, nI_ltI (b27 h 0) (b27 h' 0), nI_ltI (b27 h 4) (b27 h' 4), nI_eq (b27 h 0) (b27 h' 0)]
  obtain ⟨a1, a2⟩ := kVb_lx (B := 27) _ _ (by simp) (m4 h 0) (m4 h' 0)
  obtain ⟨c1, c2⟩ := kVb_lx (B := 27) _ _ (by simp) (m4 h 4) (m4 h' 4)
  obtain ⟨e1, e2⟩ := kLx_map [w.getD 0 0, w.getD (0 + 1) 0, w.getD (0 + 2) 0, w.getD (0 + 3) 0] [w'.getD 0 0, w'.getD (0 + 1) 0, w'.getD (0 + 2) 0, w'.getD (0 + 3) 0] (by simp) (q4 h 0) (q4 h' 0)
  obtain ⟨g1, g2⟩ := kLx_map [w.getD 4 0, w.getD (4 + 1) 0, w.getD (4 + 2) 0, w.getD (4 + 3) 0] [w'.getD 4 0, w'.getD (4 + 1) 0, w'.getD (4 + 2) 0, w'.getD (4 + 3) 0] (by simp) (q4 h 4) (q4 h' 4)
  rw [a1, c1, e1, g1]
  refine or_congr Iff.rfl (and_congr ⟨fun u => ?_, fun u => e2 (a2 u)⟩ Iff.rfl)
  have u : [w.getD 0 0, w.getD (0 + 1) 0, w.getD (0 + 2) 0, w.getD (0 + 3) 0] = [w'.getD 0 0, w'.getD (0 + 1) 0, w'.getD (0 + 2) 0, w'.getD (0 + 3) 0] := u
  rw [u]
