/-! STACKS, LOCALS AND WORLDS: what the abstract machine's readers say, and how its heap lies in the real one. -/
theorem ky_s1i_e {st : List Value} {P : Int32 → List Value → Prop} (h : ky_s1i st P) : ∃ x r, st = .int x :: r ∧ P x r := by
  unfold ky_s1i at h; split at h
  · exact ⟨_, _, rfl, h⟩
  · exact h.elim
theorem ky_s2i_e {st : List Value} {P : Int32 → Int32 → List Value → Prop} (h : ky_s2i st P) : ∃ x y r, st = .int y :: .int x :: r ∧ P x y r := by
  unfold ky_s2i at h; split at h
  · exact ⟨_, _, _, rfl, h⟩
  · exact h.elim
theorem ky_s1l_e {st : List Value} {P : Int64 → List Value → Prop} (h : ky_s1l st P) : ∃ x r, st = .long x :: r ∧ P x r := by
  unfold ky_s1l at h; split at h
  · exact ⟨_, _, rfl, h⟩
  · exact h.elim
theorem ky_s2l_e {st : List Value} {P : Int64 → Int64 → List Value → Prop} (h : ky_s2l st P) : ∃ x y r, st = .long y :: .long x :: r ∧ P x y r := by
  unfold ky_s2l at h; split at h
  · exact ⟨_, _, _, rfl, h⟩
  · exact h.elim
theorem ky_sli_e {st : List Value} {P : Int64 → Int32 → List Value → Prop} (h : ky_sli st P) : ∃ x y r, st = .int y :: .long x :: r ∧ P x y r := by
  unfold ky_sli at h; split at h
  · exact ⟨_, _, _, rfl, h⟩
  · exact h.elim
theorem ky_s1f_e {st : List Value} {P : UInt32 → List Value → Prop} (h : ky_s1f st P) : ∃ x r, st = .float x :: r ∧ P x r := by
  unfold ky_s1f at h; split at h
  · exact ⟨_, _, rfl, h⟩
  · exact h.elim
theorem ky_s2f_e {st : List Value} {P : UInt32 → UInt32 → List Value → Prop} (h : ky_s2f st P) : ∃ x y r, st = .float y :: .float x :: r ∧ P x y r := by
  unfold ky_s2f at h; split at h
  · exact ⟨_, _, _, rfl, h⟩
  · exact h.elim
theorem ky_s1d_e {st : List Value} {P : UInt64 → List Value → Prop} (h : ky_s1d st P) : ∃ x r, st = .double x :: r ∧ P x r := by
  unfold ky_s1d at h; split at h
  · exact ⟨_, _, rfl, h⟩
  · exact h.elim
theorem ky_s2d_e {st : List Value} {P : UInt64 → UInt64 → List Value → Prop} (h : ky_s2d st P) : ∃ x y r, st = .double y :: .double x :: r ∧ P x y r := by
  unfold ky_s2d at h; split at h
  · exact ⟨_, _, _, rfl, h⟩
  · exact h.elim
theorem ky_sr_e {st : List Value} {P : Nat → List Value → Prop} (h : ky_sr st P) : ∃ q r, st = .ref q :: r ∧ P q r := by
  unfold ky_sr at h; split at h
  · exact ⟨_, _, rfl, h⟩
  · exact h.elim
theorem ky_sai_e {st : List Value} {P : Nat → Int32 → List Value → Prop} (h : ky_sai st P) : ∃ q i r, st = .int i :: .ref q :: r ∧ P q i r := by
  unfold ky_sai at h; split at h
  · exact ⟨_, _, _, rfl, h⟩
  · exact h.elim
theorem ky_sasi_e {st : List Value} {P : Nat → Int32 → Int32 → List Value → Prop} (h : ky_sasi st P) : ∃ q i x r, st = .int x :: .int i :: .ref q :: r ∧ P q i x r := by
  unfold ky_sasi at h; split at h
  · exact ⟨_, _, _, _, rfl, h⟩
  · exact h.elim
theorem ky_sasl_e {st : List Value} {P : Nat → Int32 → Int64 → List Value → Prop} (h : ky_sasl st P) : ∃ q i x r, st = .long x :: .int i :: .ref q :: r ∧ P q i x r := by
  unfold ky_sasl at h; split at h
  · exact ⟨_, _, _, _, rfl, h⟩
  · exact h.elim
theorem ky_sasr_e {st : List Value} {P : Nat → Int32 → Nat → List Value → Prop} (h : ky_sasr st P) : ∃ q i x r, st = .ref x :: .int i :: .ref q :: r ∧ P q i x r := by
  unfold ky_sasr at h; split at h
  · exact ⟨_, _, _, _, rfl, h⟩
  · exact h.elim
theorem ky_svr_e {st : List Value} {P : Value → Nat → List Value → Prop} (h : ky_svr st P) : ∃ v q r, st = v :: .ref q :: r ∧ P v q r := by
  unfold ky_svr at h; split at h
  · exact ⟨_, _, _, rfl, h⟩
  · exact h.elim
theorem ky_sv_e {st : List Value} {P : Value → List Value → Prop} (h : ky_sv st P) : ∃ v r, st = v :: r ∧ v.category = 1 ∧ P v r := by
  unfold ky_sv at h; split at h
  · exact ⟨_, _, rfl, h⟩
  · exact h.elim
theorem ky_sv2_e {st : List Value} {P : Value → Value → List Value → Prop} (h : ky_sv2 st P) : ∃ v w r, st = v :: w :: r ∧ v.category = 1 ∧ w.category = 1 ∧ P v w r := by
  unfold ky_sv2 at h; split at h
  · exact ⟨_, _, _, rfl, h⟩
  · exact h.elim
theorem ky_s1_e {st : List Value} {P : Value → Prop} (h : ky_s1 st P) : ∃ v, st = [v] ∧ P v := by
  unfold ky_s1 at h; split at h
  · exact ⟨_, rfl, h⟩
  · exact h.elim
theorem ky_pop_e : ∀ (n : Nat) (st acc : List Value) (P : List Value → List Value → Prop), ky_pop n st acc P → ∃ As r, As.length = n ∧ st = As ++ r ∧ P (As.reverse ++ acc) r
  | 0, st, acc, P, h => ⟨[], st, rfl, rfl, h⟩
  | n + 1, v :: st, acc, P, h => by
    obtain ⟨As, r, h1, h2, h3⟩ := ky_pop_e n st (v :: acc) P h
    exact ⟨v :: As, r, by simp [h1], by simp [h2], by simpa using h3⟩
  | _ + 1, [], _, _, h => h.elim
theorem ky_cs_sum : ∀ (r : List Value), (r.map fun v => v.category).sum = ky_cs r
  | [] => rfl
  | v :: r => by simp [ky_cs, ky_cs_sum r]
theorem ky_obj_e {x : Option ky_E} {a : Nat} {P : List Value → Prop} (h : ky_obj x a P) : ∃ fs, x = some (.inr (a, fs)) ∧ P fs := by
  unfold ky_obj at h; split at h
  · obtain ⟨rfl, h⟩ := h; exact ⟨_, rfl, h⟩
  · exact h.elim
theorem ky_ari_e {x : Option ky_E} {P : Nat → Nat → (Nat → Int32) → Prop} (h : ky_ari x P) : ∃ t n g, x = some (.inl (t, n, .inl g)) ∧ P t n g := by
  unfold ky_ari at h; split at h
  · exact ⟨_, _, _, rfl, h⟩
  · exact h.elim
theorem ky_arl_e {x : Option ky_E} {P : Nat → Nat → (Nat → Int64) → Prop} (h : ky_arl x P) : ∃ t n g, x = some (.inl (t, n, .inr (.inl g))) ∧ P t n g := by
  unfold ky_arl at h; split at h
  · exact ⟨_, _, _, rfl, h⟩
  · exact h.elim
theorem ky_arr_e {x : Option ky_E} {P : Nat → Nat → (Nat → Option Nat) → Prop} (h : ky_arr x P) : ∃ t n g, x = some (.inl (t, n, .inr (.inr (.inr (.inr g))))) ∧ P t n g := by
  unfold ky_arr at h; split at h
  · exact ⟨_, _, _, rfl, h⟩
  · exact h.elim
theorem ky_arn_e {x : Option ky_E} {P : Nat → Nat → Prop} (h : ky_arn x P) : ∃ t y, x = some (.inl (t, y)) ∧ P t y.1 := by
  unfold ky_arn at h; split at h
  · exact ⟨_, _, rfl, h⟩
  · exact h.elim
theorem ky_nth_e : ∀ {l : List Value} {k : Nat} {P : Value → Prop}, ky_nth l k P → ∃ v, l[k]? = some v ∧ P v
  | v :: _, 0, _, h => ⟨v, rfl, h⟩
  | _ :: r, k + 1, P, h => by
    obtain ⟨v, h1, h2⟩ := ky_nth_e (l := r) (k := k) h
    exact ⟨v, by simpa using h1, h2⟩
  | [], _, _, h => h.elim
theorem ky_snt_e : ∀ {l : List Value} {k : Nat} {v : Value} {P : List Value → Prop}, ky_snt l k v P → k < l.length ∧ P (l.set k v)
  | _ :: r, 0, v, P, h => ⟨by simp, h⟩
  | x :: r, k + 1, v, P, h => by
    obtain ⟨h1, h2⟩ := ky_snt_e (l := r) (k := k) h
    exact ⟨by simpa using h1, h2⟩
  | [], _, _, _, h => h.elim
theorem ky_fv_e {c : Nat} {v : Value} {ty : FieldType} (h : ky_fv c v) (ht : ky_kd ty = c) : narrow ty v = v ∧ fits ty v = true := by
  subst ht
  cases ty <;> cases v <;> simp [ky_kd, ky_fv] at h <;> first | exact ⟨rfl, rfl⟩ | simp [narrow, fits, Value.isRef]
-- locals
def ky_al : Nat → ky_L → List (Nat × Value)
  | _, [] => []
  | j, some v :: r => (j, v) :: ky_al (j + 1) r
  | j, none :: r => ky_al (j + 1) r
theorem ky_al_ge : ∀ (l : ky_L) (j : Nat) (q : Nat × Value), q ∈ ky_al j l → j ≤ q.1
  | [], _, _, h => by cases h
  | some v :: r, j, q, h => by
    rcases List.mem_cons.mp h with h | h
    · rw [h]; exact Nat.le_refl _
    · exact Nat.le_of_succ_le (ky_al_ge r (j + 1) q h)
  | none :: r, j, q, h => Nat.le_of_succ_le (ky_al_ge r (j + 1) q h)
theorem ky_al_tl {x : Option Value} {r : ky_L} {j : Nat} {q : Nat × Value} (h : q ∈ ky_al (j + 1) r) : q ∈ ky_al j (x :: r) := by
  cases x with
  | none => exact h
  | some v => exact List.mem_cons_of_mem _ h
theorem ky_ldi_e : ∀ {l : ky_L} {k j : Nat} {P : Int32 → Prop}, ky_ldi l k P → ∃ x, (j + k, Value.int x) ∈ ky_al j l ∧ P x
  | some (.int x) :: _, 0, j, P, h => ⟨x, List.mem_cons_self, h⟩
  | x :: r, k + 1, j, P, h => by
    obtain ⟨y, h1, h2⟩ := ky_ldi_e (l := r) (k := k) (j := j + 1) (by simpa [ky_ldi] using h)
    exact ⟨y, ky_al_tl (by rw [show j + (k + 1) = j + 1 + k by omega]; exact h1), h2⟩
  | [], 0, _, _, h => by simp [ky_ldi] at h
  | [], _ + 1, _, _, h => by simp [ky_ldi] at h
  | none :: _, 0, _, _, h => by simp [ky_ldi] at h
  | some (.long _) :: _, 0, _, _, h => by simp [ky_ldi] at h
  | some (.float _) :: _, 0, _, _, h => by simp [ky_ldi] at h
  | some (.double _) :: _, 0, _, _, h => by simp [ky_ldi] at h
  | some .null :: _, 0, _, _, h => by simp [ky_ldi] at h
  | some (.ref _) :: _, 0, _, _, h => by simp [ky_ldi] at h
  | some (.retAddr _) :: _, 0, _, _, h => by simp [ky_ldi] at h
theorem ky_ldl_e : ∀ {l : ky_L} {k j : Nat} {P : Int64 → Prop}, ky_ldl l k P → ∃ x, (j + k, Value.long x) ∈ ky_al j l ∧ P x
  | some (.long x) :: _, 0, j, P, h => ⟨x, List.mem_cons_self, h⟩
  | x :: r, k + 1, j, P, h => by
    obtain ⟨y, h1, h2⟩ := ky_ldl_e (l := r) (k := k) (j := j + 1) (by simpa [ky_ldl] using h)
    exact ⟨y, ky_al_tl (by rw [show j + (k + 1) = j + 1 + k by omega]; exact h1), h2⟩
  | [], 0, _, _, h => by simp [ky_ldl] at h
  | [], _ + 1, _, _, h => by simp [ky_ldl] at h
  | none :: _, 0, _, _, h => by simp [ky_ldl] at h
  | some (.int _) :: _, 0, _, _, h => by simp [ky_ldl] at h
  | some (.float _) :: _, 0, _, _, h => by simp [ky_ldl] at h
  | some (.double _) :: _, 0, _, _, h => by simp [ky_ldl] at h
  | some .null :: _, 0, _, _, h => by simp [ky_ldl] at h
  | some (.ref _) :: _, 0, _, _, h => by simp [ky_ldl] at h
  | some (.retAddr _) :: _, 0, _, _, h => by simp [ky_ldl] at h
theorem ky_ldd_e : ∀ {l : ky_L} {k j : Nat} {P : UInt64 → Prop}, ky_ldd l k P → ∃ x, (j + k, Value.double x) ∈ ky_al j l ∧ P x
  | some (.double x) :: _, 0, j, P, h => ⟨x, List.mem_cons_self, h⟩
  | x :: r, k + 1, j, P, h => by
    obtain ⟨y, h1, h2⟩ := ky_ldd_e (l := r) (k := k) (j := j + 1) (by simpa [ky_ldd] using h)
    exact ⟨y, ky_al_tl (by rw [show j + (k + 1) = j + 1 + k by omega]; exact h1), h2⟩
  | [], 0, _, _, h => by simp [ky_ldd] at h
  | [], _ + 1, _, _, h => by simp [ky_ldd] at h
  | none :: _, 0, _, _, h => by simp [ky_ldd] at h
  | some (.int _) :: _, 0, _, _, h => by simp [ky_ldd] at h
  | some (.float _) :: _, 0, _, _, h => by simp [ky_ldd] at h
  | some (.long _) :: _, 0, _, _, h => by simp [ky_ldd] at h
  | some .null :: _, 0, _, _, h => by simp [ky_ldd] at h
  | some (.ref _) :: _, 0, _, _, h => by simp [ky_ldd] at h
  | some (.retAddr _) :: _, 0, _, _, h => by simp [ky_ldd] at h
theorem ky_lda_e : ∀ {l : ky_L} {k j : Nat} {P : Value → Prop}, ky_lda l k P → ∃ v, (v = .null ∨ ∃ x, v = .ref x) ∧ (j + k, v) ∈ ky_al j l ∧ P v
  | some (.ref x) :: _, 0, j, P, h => ⟨.ref x, Or.inr ⟨x, rfl⟩, List.mem_cons_self, h⟩
  | some .null :: _, 0, j, P, h => ⟨.null, Or.inl rfl, List.mem_cons_self, h⟩
  | x :: r, k + 1, j, P, h => by
    obtain ⟨y, h0, h1, h2⟩ := ky_lda_e (l := r) (k := k) (j := j + 1) (by simpa [ky_lda] using h)
    exact ⟨y, h0, ky_al_tl (by rw [show j + (k + 1) = j + 1 + k by omega]; exact h1), h2⟩
  | [], 0, _, _, h => by simp [ky_lda] at h
  | [], _ + 1, _, _, h => by simp [ky_lda] at h
  | none :: _, 0, _, _, h => by simp [ky_lda] at h
  | some (.int _) :: _, 0, _, _, h => by simp [ky_lda] at h
  | some (.float _) :: _, 0, _, _, h => by simp [ky_lda] at h
  | some (.double _) :: _, 0, _, _, h => by simp [ky_lda] at h
  | some (.long _) :: _, 0, _, _, h => by simp [ky_lda] at h
  | some (.retAddr _) :: _, 0, _, _, h => by simp [ky_lda] at h
/-- the top of the stack, a reference or null -/
theorem ky_top_e {st : List Value} {P : Value → Prop} (h : ky_lda (st.map some) 0 P) : ∃ v r, st = v :: r ∧ (v = .null ∨ ∃ x, v = .ref x) ∧ P v := by
  cases st with
  | nil => simp [ky_lda] at h
  | cons v r =>
    cases v <;> simp [ky_lda] at h
    · exact ⟨_, _, rfl, Or.inl rfl, h⟩
    · exact ⟨_, _, rfl, Or.inr ⟨_, rfl⟩, h⟩
theorem ky_lvm {arr : Array Slot} {n : Nat} {l l' : List (Nat × Value)} (h : lv_has arr n l) (hs : ∀ q ∈ l', q ∈ l) : lv_has arr n l' := ⟨h.1, h.2.1, fun q hq => h.2.2 q (hs q hq)⟩
theorem ky_cl2_m {x : Option Value} {r : ky_L} {j : Nat} {q : Nat × Value} (h : q ∈ ky_al j (ky_cl2 x :: r)) : (q ∈ ky_al (j + 1) r) ∨ (x = some q.2 ∧ q.1 = j ∧ q.2.category ≠ 2) := by
  unfold ky_cl2 at h
  split at h
  · exact Or.inl h
  · exact Or.inl h
  · next n1 n2 =>
    cases x with
    | none => exact Or.inl h
    | some v =>
      rcases List.mem_cons.mp h with h | h
      · refine Or.inr ⟨by rw [h], by rw [h], ?_⟩
        rw [h]
        intro hc
        cases v <;> simp [Value.category] at hc
        · exact n1 _ rfl
        · exact n2 _ rfl
      · exact Or.inl h
theorem ky_st1_sub : ∀ (l : ky_L) (a j : Nat) (v : Value) (q : Nat × Value), q ∈ ky_al j (ky_st1 l a v) → q = (j + a, v) ∨ (q ∈ ky_al j l ∧ q.1 ≠ j + a ∧ ¬ (q.1 + 1 = j + a ∧ q.2.category = 2))
  | [], _, _, _, _, h => by simp [ky_st1, ky_al] at h
  | x :: r, 0, j, v, q, h => by
    rcases List.mem_cons.mp (show q ∈ (j, v) :: ky_al (j + 1) r from h) with h | h
    · exact Or.inl h
    · have := ky_al_ge r (j + 1) q h
      exact Or.inr ⟨ky_al_tl h, by omega, by omega⟩
  | x :: r, 1, j, v, q, h => by
    rcases ky_cl2_m (show q ∈ ky_al j (ky_cl2 x :: ky_st1 r 0 v) from h) with h | ⟨h1, h2, h3⟩
    · rcases ky_st1_sub r 0 (j + 1) v q h with h | ⟨h, h4, h5⟩
      · exact Or.inl h
      · exact Or.inr ⟨ky_al_tl h, h4, h5⟩
    · refine Or.inr ⟨?_, by omega, fun z => h3 z.2⟩
      rw [h1]
      refine List.mem_cons.mpr (Or.inl ?_)
      rw [← h2]
  | x :: r, a + 2, j, v, q, h => by
    have e : ky_st1 (x :: r) (a + 2) v = x :: ky_st1 r (a + 1) v := rfl
    rw [e] at h
    have key : q ∈ ky_al (j + 1) (ky_st1 r (a + 1) v) ∨ (x = some q.2 ∧ q.1 = j) := by
      cases x with
      | none => exact Or.inl h
      | some w =>
        rcases List.mem_cons.mp h with h | h
        · exact Or.inr ⟨by rw [h], by rw [h]⟩
        · exact Or.inl h
    rcases key with h | ⟨h1, h2⟩
    · rcases ky_st1_sub r (a + 1) (j + 1) v q h with h | ⟨h, h4, h5⟩
      · exact Or.inl (by rw [h]; congr 1; omega)
      · exact Or.inr ⟨ky_al_tl h, by omega, by omega⟩
    · refine Or.inr ⟨?_, by omega, by omega⟩
      rw [h1]
      exact List.mem_cons.mpr (Or.inl (by rw [← h2]))
theorem ky_st2_sub : ∀ (l : ky_L) (a j : Nat) (v : Value) (q : Nat × Value), q ∈ ky_al j (ky_st2 l a v) → q = (j + a, v) ∨ (q ∈ ky_al j l ∧ q.1 ≠ j + a ∧ q.1 ≠ j + a + 1 ∧ ¬ (q.1 + 1 = j + a ∧ q.2.category = 2))
  | [], _, _, _, _, h => by simp [ky_st2, ky_al] at h
  | [_], 0, _, _, _, h => by simp [ky_st2, ky_al] at h
  | x :: y :: r, 0, j, v, q, h => by
    rcases List.mem_cons.mp (show q ∈ (j, v) :: ky_al (j + 1 + 1) r from h) with h | h
    · exact Or.inl h
    · have := ky_al_ge r (j + 1 + 1) q h
      exact Or.inr ⟨ky_al_tl (ky_al_tl h), by omega, by omega, by omega⟩
  | x :: r, 1, j, v, q, h => by
    rcases ky_cl2_m (show q ∈ ky_al j (ky_cl2 x :: ky_st2 r 0 v) by cases r <;> exact h) with h | ⟨h1, h2, h3⟩
    · rcases ky_st2_sub r 0 (j + 1) v q h with h | ⟨h, h4, h5, h6⟩
      · exact Or.inl h
      · exact Or.inr ⟨ky_al_tl h, h4, h5, h6⟩
    · refine Or.inr ⟨?_, by omega, by omega, fun z => h3 z.2⟩
      rw [h1]
      refine List.mem_cons.mpr (Or.inl ?_)
      rw [← h2]
  | x :: r, a + 2, j, v, q, h => by
    have e : ky_st2 (x :: r) (a + 2) v = x :: ky_st2 r (a + 1) v := by cases r <;> rfl
    rw [e] at h
    have key : q ∈ ky_al (j + 1) (ky_st2 r (a + 1) v) ∨ (x = some q.2 ∧ q.1 = j) := by
      cases x with
      | none => exact Or.inl h
      | some w =>
        rcases List.mem_cons.mp h with h | h
        · exact Or.inr ⟨by rw [h], by rw [h]⟩
        · exact Or.inl h
    rcases key with h | ⟨h1, h2⟩
    · rcases ky_st2_sub r (a + 1) (j + 1) v q h with h | ⟨h, h4, h5, h6⟩
      · exact Or.inl (by rw [h]; congr 1; omega)
      · exact Or.inr ⟨ky_al_tl h, by omega, by omega, by omega⟩
    · refine Or.inr ⟨?_, by omega, by omega, by omega⟩
      rw [h1]
      exact List.mem_cons.mpr (Or.inl (by rw [← h2]))
theorem ky_non_al : ∀ (n j : Nat) (q : Nat × Value), ¬ q ∈ ky_al j (ky_non n)
  | 0, _, _, h => by cases h
  | n + 1, j, q, h => ky_non_al n (j + 1) q h
theorem ky_ent_sub : ∀ (vs : List Value) (n j : Nat) (q : Nat × Value), q ∈ ky_al j (ky_ent vs n) → q ∈ lv_args j vs
  | [], n, j, q, h => absurd h (ky_non_al n j q)
  | .long x :: r, n, j, q, h => by
    rcases List.mem_cons.mp (show q ∈ (j, Value.long x) :: ky_al (j + 1 + 1) (ky_ent r (n - 2)) from h) with h | h
    · exact List.mem_cons.mpr (Or.inl h)
    · exact List.mem_cons.mpr (Or.inr (ky_ent_sub r (n - 2) (j + 2) q h))
  | .double x :: r, n, j, q, h => by
    rcases List.mem_cons.mp (show q ∈ (j, Value.double x) :: ky_al (j + 1 + 1) (ky_ent r (n - 2)) from h) with h | h
    · exact List.mem_cons.mpr (Or.inl h)
    · exact List.mem_cons.mpr (Or.inr (ky_ent_sub r (n - 2) (j + 2) q h))
  | .int x :: r, n, j, q, h => by
    rcases List.mem_cons.mp (show q ∈ (j, Value.int x) :: ky_al (j + 1) (ky_ent r (n - 1)) from h) with h | h
    · exact List.mem_cons.mpr (Or.inl h)
    · exact List.mem_cons.mpr (Or.inr (ky_ent_sub r (n - 1) (j + 1) q h))
  | .float x :: r, n, j, q, h => by
    rcases List.mem_cons.mp (show q ∈ (j, Value.float x) :: ky_al (j + 1) (ky_ent r (n - 1)) from h) with h | h
    · exact List.mem_cons.mpr (Or.inl h)
    · exact List.mem_cons.mpr (Or.inr (ky_ent_sub r (n - 1) (j + 1) q h))
  | .null :: r, n, j, q, h => by
    rcases List.mem_cons.mp (show q ∈ (j, Value.null) :: ky_al (j + 1) (ky_ent r (n - 1)) from h) with h | h
    · exact List.mem_cons.mpr (Or.inl h)
    · exact List.mem_cons.mpr (Or.inr (ky_ent_sub r (n - 1) (j + 1) q h))
  | .ref x :: r, n, j, q, h => by
    rcases List.mem_cons.mp (show q ∈ (j, Value.ref x) :: ky_al (j + 1) (ky_ent r (n - 1)) from h) with h | h
    · exact List.mem_cons.mpr (Or.inl h)
    · exact List.mem_cons.mpr (Or.inr (ky_ent_sub r (n - 1) (j + 1) q h))
  | .retAddr x :: r, n, j, q, h => by
    rcases List.mem_cons.mp (show q ∈ (j, Value.retAddr x) :: ky_al (j + 1) (ky_ent r (n - 1)) from h) with h | h
    · exact List.mem_cons.mpr (Or.inl h)
    · exact List.mem_cons.mpr (Or.inr (ky_ent_sub r (n - 1) (j + 1) q h))
theorem ky_lst1 {arr : Array Slot} {n a : Nat} {l : ky_L} {v : Value} (h : lv_has arr n ((a, v) :: (ky_al 0 l).filter (fun q => !(q.1 == a) && !(q.1 + 1 == a && q.2.category == 2)))) : lv_has arr n (ky_al 0 (ky_st1 l a v)) := by
  refine ky_lvm h fun q hq => ?_
  rcases ky_st1_sub l a 0 v q hq with h | ⟨h1, h2, h3⟩
  · rw [h, Nat.zero_add]; exact List.mem_cons_self
  · rw [Nat.zero_add] at h2 h3
    refine List.mem_cons_of_mem _ (List.mem_filter.mpr ⟨h1, ?_⟩)
    simp only [Bool.and_eq_true, Bool.not_eq_true', beq_eq_false_iff_ne, ne_eq, h2, not_false_eq_true, true_and]
    cases hb : (q.1 + 1 == a && q.2.category == 2) with
    | false => rfl
    | true =>
      simp only [Bool.and_eq_true, beq_iff_eq] at hb
      exact absurd hb h3
theorem ky_lst2 {arr : Array Slot} {n a : Nat} {l : ky_L} {v : Value} (h : lv_has arr n ((a, v) :: (ky_al 0 l).filter (fun q => !(q.1 == a) && (!(q.1 == a + 1) && !(q.1 + 1 == a && q.2.category == 2))))) : lv_has arr n (ky_al 0 (ky_st2 l a v)) := by
  refine ky_lvm h fun q hq => ?_
  rcases ky_st2_sub l a 0 v q hq with h | ⟨h1, h2, h4, h3⟩
  · rw [h, Nat.zero_add]; exact List.mem_cons_self
  · rw [Nat.zero_add] at h2 h3 h4
    refine List.mem_cons_of_mem _ (List.mem_filter.mpr ⟨h1, ?_⟩)
    simp only [Bool.and_eq_true, Bool.not_eq_true', beq_eq_false_iff_ne, ne_eq, h2, h4, not_false_eq_true, true_and]
    cases hb : (q.1 + 1 == a && q.2.category == 2) with
    | false => rfl
    | true =>
      simp only [Bool.and_eq_true, beq_iff_eq] at hb
      exact absurd hb h3
-- worlds
def ky_tys (c : Nat → ClassId) : List (ClassId × FieldType) := [(c 0, .byte), (c 1, .int), (c 2, .long), (c 3, .boolean), (c 4, .object RX3)]
def ky_re (c : Nat → ClassId) (e : Option ky_E) : va_E := match e with
  | some (.inl (t, x)) => .inl (c t, x)
  | some (.inr y) => .inr y
  | none => .inr (0, [])
def ky_own : Option ky_E → Bool
  | some (.inl (t, _)) => decide (t < 5)
  | some (.inr _) => true
  | none => false
/-- the heap f, as far as its things may be written, lies in H -/
def ky_Wp (D : va_G) (c : Nat → ClassId) (A : Nat → Prop) (f : ky_H) (H : Heap) : Prop :=
  ∃ L : List Nat, va_P D vwCl (va_pl L fun a => ky_re c (f a)) H ∧ va_D A (va_pl L fun a => ky_re c (f a)) ∧ (∀ a, a ∈ L ↔ ky_own (f a) = true) ∧ ∀ a t x, f a = some (.inl (t, x)) → t ≤ 5
/-- the law's script, where f names it -/
def ky_Sc (A : Nat → Prop) (f : ky_H) (s : State) : Prop := ∀ b x, f b = some (.inl (5, x)) → ∃ g, x.2 = .inl g ∧ va_X b x.1 g s s.heap ∧ ¬ A b ∧ b < s.heap.size
/-- no new script -/
def ky_5 (f0 f : ky_H) : Prop := ∀ b x, f b = some (.inl (5, x)) → f0 b = some (.inl (5, x))
theorem ky_5_up {f0 f : ky_H} {q : Nat} {e : ky_E} (h : ky_5 f0 f) (he : ky_own (some e) = true) : ky_5 f0 (ky_up f q e) := by
  intro b x hb
  unfold ky_up at hb
  split at hb
  · cases hb; simp [ky_own] at he
  · exact h b x hb
theorem ky_re_up (c : Nat → ClassId) (f : ky_H) (q : Nat) (e : ky_E) : (fun a => ky_re c (ky_up f q e a)) = va_up (fun a => ky_re c (f a)) q (ky_re c (some e)) := by
  funext a
  unfold ky_up va_up
  split <;> rfl
theorem ky_own_up {f : ky_H} {q : Nat} {e : ky_E} (he : ky_own (some e) = true) (a : Nat) : ky_own (ky_up f q e a) = true ↔ ky_own (f a) = true ∨ a = q := by
  unfold ky_up
  by_cases h : a = q
  · simp [h, he]
  · simp [h]
/-- a thing of the world, by its place -/
theorem ky_Wp_at {D : va_G} {c : Nat → ClassId} {f : ky_H} {L : List Nat} (hL : ∀ a, a ∈ L ↔ ky_own (f a) = true) {q : Nat} {e : ky_E} (he : f q = some e) (ho : ky_own (some e) = true) : ∃ k : Nat, (va_pl L fun a => ky_re c (f a))[k]? = some (q, ky_re c (some e)) := by
  obtain ⟨k, hk⟩ := va_pl_get (X := []) (f := fun a => ky_re c (f a)) ((hL q).mpr (by rw [he]; exact ho))
  exact ⟨k, by rw [List.nil_append] at hk; rw [hk, he]⟩
theorem ky_Wp_put0 {D : va_G} {c : Nat → ClassId} {A : Nat → Prop} {f : ky_H} {L : List Nat} {H1 : Heap} (hD : va_D A (va_pl L fun a => ky_re c (f a))) (hL : ∀ a, a ∈ L ↔ ky_own (f a) = true) {q k : Nat} {e0 e : ky_E} (he : f q = some e0) (ho : ky_own (some e0) = true) (hk : (va_pl L fun a => ky_re c (f a))[k]? = some (q, ky_re c (some e0))) (ho2 : ky_own (some e) = true)
    (hP1 : va_P D vwCl ((va_pl L fun a => ky_re c (f a)).set k (q, ky_re c (some e))) H1) (hD1 : va_D A ((va_pl L fun a => ky_re c (f a)).set k (q, ky_re c (some e)))) (h6 : ∀ a t x, ky_up f q e a = some (.inl (t, x)) → t ≤ 5) : ky_Wp D c A (ky_up f q e) H1 := by
  have hq : q ∈ L := (hL q).mpr (by rw [he]; exact ho)
  have es := va_pl_set (X := []) (f := fun a => ky_re c (f a)) (e := ky_re c (some e)) (by rw [List.nil_append]; exact hD) hq (k := k) (by rw [List.nil_append, hk, he])
  simp only [List.nil_append] at es
  rw [es, ← ky_re_up] at hP1 hD1
  refine ⟨L, hP1, hD1, fun a => ?_, h6⟩
  rw [ky_own_up ho2, hL a]
  constructor
  · exact Or.inl
  · rintro (h | rfl)
    · exact h
    · rw [he]; exact ho
theorem ky_Wp_new0 {D : va_G} {c : Nat → ClassId} {A : Nat → Prop} {f : ky_H} {L : List Nat} {H1 : Heap} (hL : ∀ a, a ∈ L ↔ ky_own (f a) = true) {q : Nat} {e : ky_E} (hq : q ∉ L) (ho2 : ky_own (some e) = true)
    (hP1 : va_P D vwCl ((va_pl L fun a => ky_re c (f a)) ++ [(q, ky_re c (some e))]) H1) (hD1 : va_D A ((va_pl L fun a => ky_re c (f a)) ++ [(q, ky_re c (some e))])) (h6 : ∀ a t x, ky_up f q e a = some (.inl (t, x)) → t ≤ 5) : ky_Wp D c A (ky_up f q e) H1 := by
  rw [va_pl_push hq, ← ky_re_up] at hP1 hD1
  refine ⟨L ++ [q], hP1, hD1, fun a => ?_, h6⟩
  rw [ky_own_up ho2, List.mem_append, hL a, List.mem_singleton]
theorem ky_5_bd {f : ky_H} {q : Nat} {e : ky_E} (h : ∀ a t x, f a = some (.inl (t, x)) → t ≤ 5) (he : ky_own (some e) = true) : ∀ a t x, ky_up f q e a = some (.inl (t, x)) → t ≤ 5 := by
  intro a t x hx
  unfold ky_up at hx
  split at hx
  · cases hx
    simp only [ky_own, decide_eq_true_eq] at he
    omega
  · exact h a t x hx
/-- a new place is not in the world -/
theorem ky_new_no {A : Nat → Prop} {f : Nat → va_E} {L : List Nat} {q : Nat} {e : va_E} (hD : va_D A (va_pl L f ++ [(q, e)])) : q ∉ L := by
  intro hq
  obtain ⟨k, hk⟩ := va_pl_get (X := []) (f := f) hq
  rw [List.nil_append] at hk
  have hlt : k < (va_pl L f).length := (List.getElem?_eq_some_iff.mp hk).1
  have h1 : (va_pl L f ++ [(q, e)])[k]? = some (q, f q) := by rw [List.getElem?_append_left hlt]; exact hk
  have h2 : (va_pl L f ++ [(q, e)])[(va_pl L f).length]? = some (q, e) := by simp
  have := hD.1 k _ _ _ h1 h2 rfl
  omega
