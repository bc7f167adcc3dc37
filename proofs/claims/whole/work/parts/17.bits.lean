/-! ## bytes in long numbers -/
theorem kz_shc {h : Nat} (hh : h < 64) : ((nI h).toInt64.toUInt64 &&& Int64.toUInt64 63) = UInt64.ofNat h := by
  have key : ∀ h, h < 64 → ((nI h).toInt64.toUInt64 &&& Int64.toUInt64 63) = UInt64.ofNat h := by decide +kernel
  exact key h hh
theorem kz_sr {N h : Nat} (hN : N < 2 ^ 64) (hh : h < 64) : ((UInt64.ofNat N) >>> (UInt64.ofNat h)).toInt64.toInt32 &&& 255 = nI (N / 2 ^ h % 256) := by
  apply Int32.toBitVec_inj.mp
  apply BitVec.eq_of_toNat_eq
  simp [nI]
  rw [BitVec.signExtend_eq_setWidth_of_le _ (by decide), BitVec.toNat_setWidth, BitVec.toNat_ushiftRight, Nat.mod_eq_of_lt hh]
  have e1 : (UInt64.ofNat N).toBitVec.toNat = N := by
    show (UInt64.ofNat N).toNat = N
    rw [UInt64.toNat_ofNat']
    exact Nat.mod_eq_of_lt hN
  rw [e1, Nat.shiftRight_eq_div_pow, show (255 : Nat) = 2 ^ 8 - 1 from rfl, Nat.and_two_pow_sub_one_eq_mod]
  generalize N / 2 ^ h = A
  omega
/-- a row of at most 8 bytes, in a long number -/
def kpN (l : List Nat) : Nat := l.foldl (fun s b => 256 * s + b) 0
def kpS (l : List Nat) : Int64 := (UInt64.ofNat (kpN l)).toInt64
theorem kpN_f (l : List Nat) : ∀ s, l.foldl (fun s b => 256 * s + b) s = s * 256 ^ l.length + kpN l := by
  induction l with
  | nil => intro s; simp [kpN]
  | cons b r ih =>
    intro s
    simp only [kpN, List.foldl_cons, List.length_cons]
    rw [ih, ih (256 * 0 + b), Nat.pow_succ]
    simp only [Nat.mul_zero, Nat.zero_add, Nat.add_mul]
    rw [Nat.mul_comm 256 s, Nat.mul_assoc, Nat.mul_comm 256]
    omega
theorem kpN_cons (b : Nat) (r : List Nat) : kpN (b :: r) = b * 256 ^ r.length + kpN r := by
  show List.foldl (fun s b => 256 * s + b) (256 * 0 + b) r = _
  rw [kpN_f, Nat.mul_zero, Nat.zero_add]
theorem kpN_lt : ∀ (l : List Nat), (∀ b ∈ l, b < 256) → kpN l < 256 ^ l.length
  | [], _ => by simp [kpN]
  | b :: r, h => by
    have ih := kpN_lt r fun x hx => h x (List.mem_cons_of_mem _ hx)
    have hb := h b List.mem_cons_self
    rw [kpN_cons, List.length_cons, Nat.pow_succ]
    have : b * 256 ^ r.length ≤ 255 * 256 ^ r.length := Nat.mul_le_mul_right _ (by omega)
    omega
/-- the byte at j from behind -/
theorem kpN_dig : ∀ (l : List Nat) (j : Nat), (∀ b ∈ l, b < 256) → j < l.length → kpN l / 256 ^ j % 256 = l.getD (l.length - 1 - j) 0
  | [], j, _, h => by simp at h
  | b :: r, j, hb, h => by
    have hlt := kpN_lt r fun x hx => hb x (List.mem_cons_of_mem _ hx)
    rw [kpN_cons]
    by_cases e : j = r.length
    · subst e
      rw [List.length_cons, Nat.add_sub_cancel, Nat.sub_self, List.getD_cons_zero, Nat.add_comm, Nat.add_mul_div_right _ _ (Nat.pow_pos (by decide)), Nat.div_eq_of_lt hlt, Nat.zero_add]
      exact Nat.mod_eq_of_lt (hb b List.mem_cons_self)
    · rw [List.length_cons] at h
      have ih := kpN_dig r j (fun x hx => hb x (List.mem_cons_of_mem _ hx)) (by omega)
      rw [List.length_cons, show r.length + 1 - 1 - j = (r.length - 1 - j) + 1 by omega, List.getD_cons_succ, ← ih]
      obtain ⟨d, hd⟩ : ∃ d, r.length = j + 1 + d := ⟨r.length - (j + 1), by omega⟩
      rw [hd, Nat.pow_add, Nat.pow_succ, show b * (256 ^ j * 256 * 256 ^ d) = (b * 256 ^ d * 256) * 256 ^ j by rw [Nat.mul_assoc, Nat.mul_assoc, Nat.mul_comm (256 ^ j), Nat.mul_assoc, Nat.mul_comm (256 ^ d)]; simp only [Nat.mul_assoc, Nat.mul_comm, Nat.mul_left_comm], Nat.add_comm, Nat.add_mul_div_right _ _ (Nat.pow_pos (by decide)), Nat.add_mul_mod_self_right]
theorem kpN_hi (l : List Nat) (j : Nat) (hb : ∀ b ∈ l, b < 256) (h : l.length ≤ j) : kpN l / 256 ^ j = 0 := Nat.div_eq_of_lt (Nat.lt_of_lt_of_le (kpN_lt l hb) (Nat.pow_le_pow_right (by decide) h))
theorem kpS_lt {l : List Nat} (hb : ∀ b ∈ l, b < 256) (hl : l.length ≤ 8) : kpN l < 2 ^ 64 := Nat.lt_of_lt_of_le (kpN_lt l hb) (Nat.le_trans (Nat.pow_le_pow_right (by decide) hl) (by decide))
/-- what the shift by 8 j brings -/
theorem kpS_sh {l : List Nat} {j h : Nat} (hb : ∀ b ∈ l, b < 256) (hl : l.length ≤ 8) (hj : j < 8) (hh : h = 8 * j) : ((kpS l).toUInt64 >>> ((nI h).toInt64.toUInt64 &&& Int64.toUInt64 63)).toInt64.toInt32 &&& 255 = nI (kpN l / 256 ^ j % 256) := by
  rw [kz_shc (by omega)]
  have := kz_sr (N := kpN l) (h := h) (kpS_lt hb hl) (by omega)
  rw [kpS, UInt64.toUInt64_toInt64, this, hh, Nat.pow_mul]
theorem kpS_inj {l l' : List Nat} (hb : ∀ b ∈ l, b < 256) (hl : l.length ≤ 8) (hb' : ∀ b ∈ l', b < 256) (hl' : l'.length ≤ 8) (h : kpS l = kpS l') : kpN l = kpN l' := by
  have h1 : UInt64.ofNat (kpN l) = UInt64.ofNat (kpN l') := by
    have := congrArg Int64.toUInt64 h
    simpa [kpS] using this
  have h2 := congrArg UInt64.toNat h1
  rw [UInt64.toNat_ofNat', UInt64.toNat_ofNat', Nat.mod_eq_of_lt (kpS_lt hb hl), Nat.mod_eq_of_lt (kpS_lt hb' hl')] at h2
  exact h2
theorem kpN_inj : ∀ (l l' : List Nat), (∀ b ∈ l, 0 < b ∧ b < 256) → (∀ b ∈ l', 0 < b ∧ b < 256) → kpN l = kpN l' → l = l' := by
  intro l l' hl hl' h
  have hlen : ∀ l : List Nat, (∀ b ∈ l, 0 < b ∧ b < 256) → l ≠ [] → 256 ^ (l.length - 1) ≤ kpN l := by
    intro l hl hn
    cases l with
    | nil => exact absurd rfl hn
    | cons b r =>
      rw [kpN_cons, List.length_cons, Nat.add_sub_cancel]
      have := Nat.mul_le_mul_right (256 ^ r.length) (hl b List.mem_cons_self).1
      omega
  have e : l.length = l'.length := by
    have key : ∀ l l' : List Nat, (∀ b ∈ l, 0 < b ∧ b < 256) → (∀ b ∈ l', 0 < b ∧ b < 256) → kpN l = kpN l' → ¬ l.length < l'.length := by
      intro l l' hl hl' h hlt
      have h1 := kpN_lt l fun b hb => (hl b hb).2
      have h2 := hlen l' hl' (by intro z; rw [z] at hlt; simp at hlt)
      have h3 : 256 ^ l.length ≤ 256 ^ (l'.length - 1) := Nat.pow_le_pow_right (by decide) (by omega)
      omega
    have h1 := key l l' hl hl' h
    have h2 := key l' l hl' hl h.symm
    omega
  refine List.ext_getElem? fun i => ?_
  by_cases hi : i < l.length
  · have h1 := kpN_dig l (l.length - 1 - i) (fun b hb => (hl b hb).2) (by omega)
    have h2 := kpN_dig l' (l.length - 1 - i) (fun b hb => (hl' b hb).2) (by omega)
    rw [h, h2, show l.length - 1 - (l.length - 1 - i) = i by omega, show l'.length - 1 - (l.length - 1 - i) = i by omega, List.getD_eq_getElem?_getD, List.getD_eq_getElem?_getD, List.getElem?_eq_getElem hi, List.getElem?_eq_getElem (by omega)] at h1
    rw [List.getElem?_eq_getElem hi, List.getElem?_eq_getElem (show i < l'.length by omega)]
    simpa using h1.symm
  · rw [List.getElem?_eq_none (by omega), List.getElem?_eq_none (by omega)]
