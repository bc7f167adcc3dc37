/-! THE LEAST PREDICATE that is closed under the steps; what it says of a point, the machine does. -/
theorem ky_ldi_m : ∀ (l : ky_L) (a : Nat) (P P' : Int32 → Prop), (∀ x, P x → P' x) → ky_ldi l a P → ky_ldi l a P'
  | [], 0, _, _, _, h => by simp [ky_ldi] at h
  | [], _ + 1, _, _, _, h => by simp [ky_ldi] at h
  | none :: _, 0, _, _, _, h => by simp [ky_ldi] at h
  | some v :: _, 0, P, P', k, h => by cases v <;> simp [ky_ldi] at h ⊢; exact k _ h
  | x :: r, a + 1, P, P', k, h => by simp only [ky_ldi] at h ⊢; exact ky_ldi_m r a P P' k h
theorem ky_ldl_m : ∀ (l : ky_L) (a : Nat) (P P' : Int64 → Prop), (∀ x, P x → P' x) → ky_ldl l a P → ky_ldl l a P'
  | [], 0, _, _, _, h => by simp [ky_ldl] at h
  | [], _ + 1, _, _, _, h => by simp [ky_ldl] at h
  | none :: _, 0, _, _, _, h => by simp [ky_ldl] at h
  | some v :: _, 0, P, P', k, h => by cases v <;> simp [ky_ldl] at h ⊢; exact k _ h
  | x :: r, a + 1, P, P', k, h => by simp only [ky_ldl] at h ⊢; exact ky_ldl_m r a P P' k h
theorem ky_ldd_m : ∀ (l : ky_L) (a : Nat) (P P' : UInt64 → Prop), (∀ x, P x → P' x) → ky_ldd l a P → ky_ldd l a P'
  | [], 0, _, _, _, h => by simp [ky_ldd] at h
  | [], _ + 1, _, _, _, h => by simp [ky_ldd] at h
  | none :: _, 0, _, _, _, h => by simp [ky_ldd] at h
  | some v :: _, 0, P, P', k, h => by cases v <;> simp [ky_ldd] at h ⊢; exact k _ h
  | x :: r, a + 1, P, P', k, h => by simp only [ky_ldd] at h ⊢; exact ky_ldd_m r a P P' k h
theorem ky_lda_m : ∀ (l : ky_L) (a : Nat) (P P' : Value → Prop), (∀ x, P x → P' x) → ky_lda l a P → ky_lda l a P'
  | [], 0, _, _, _, h => by simp [ky_lda] at h
  | [], _ + 1, _, _, _, h => by simp [ky_lda] at h
  | none :: _, 0, _, _, _, h => by simp [ky_lda] at h
  | some v :: _, 0, P, P', k, h => by cases v <;> simp [ky_lda] at h ⊢ <;> exact k _ h
  | x :: r, a + 1, P, P', k, h => by simp only [ky_lda] at h ⊢; exact ky_lda_m r a P P' k h
theorem ky_nth_m : ∀ (l : List Value) (a : Nat) (P P' : Value → Prop), (∀ x, P x → P' x) → ky_nth l a P → ky_nth l a P'
  | [], _, _, _, _, h => h.elim
  | v :: _, 0, P, P', k, h => k v h
  | _ :: r, a + 1, P, P', k, h => ky_nth_m r a P P' k h
theorem ky_snt_m : ∀ (l : List Value) (a : Nat) (v : Value) (P P' : List Value → Prop), (∀ x, P x → P' x) → ky_snt l a v P → ky_snt l a v P'
  | [], _, _, _, _, _, h => h.elim
  | _ :: _, 0, _, P, P', k, h => k _ h
  | x :: r, a + 1, v, P, P', k, h => ky_snt_m r a v (fun r' => P (x :: r')) (fun r' => P' (x :: r')) (fun r' => k (x :: r')) h
theorem ky_pop_m : ∀ (n : Nat) (st acc : List Value) (P P' : List Value → List Value → Prop), (∀ x y, P x y → P' x y) → ky_pop n st acc P → ky_pop n st acc P'
  | 0, st, acc, _, _, k, h => k acc st h
  | n + 1, v :: st, acc, P, P', k, h => ky_pop_m n st (v :: acc) P P' k h
  | _ + 1, [], _, _, _, _, h => h.elim
theorem ky_sw_m : ∀ (cs : List (Int32 × Nat)) (x : Int32) (P P' : Nat → Prop) (d : Nat), (∀ t, P t → P' t) → ky_sw x cs P d → ky_sw x cs P' d
  | [], _, _, _, d, k, h => k d h
  | (v, t) :: r, x, P, P', d, k, h => ⟨fun z => k t (h.1 z), fun z => ky_sw_m r x P P' d k (h.2 z)⟩
theorem ky_hnd_m : ∀ (hs : ky_Hs) (pc E : Nat) (P P' : Nat → Prop) (D D' : Prop), (∀ t, P t → P' t) → (D → D') → ky_hnd hs pc E P D → ky_hnd hs pc E P' D'
  | [], _, _, _, _, _, _, _, kd, h => kd h
  | (a, b, c, d) :: r, pc, E, P, P', D, D', k, kd, h => by
    simp only [ky_hnd] at h ⊢
    split at h
    · next z => rw [if_pos z]; exact k _ h
    · next z => rw [if_neg z]; exact ky_hnd_m r pc E P P' D D' k kd h
theorem ky_s1i_m {st : List Value} {P P' : Int32 → List Value → Prop} (k : ∀ x y, P x y → P' x y) (h : ky_s1i st P) : ky_s1i st P' := by
  unfold ky_s1i at h ⊢
  split at h <;> first | exact k _ _ h | exact ⟨h.1, k _ _ h.2⟩ | exact ⟨h.1, h.2.1, k _ _ h.2.2⟩ | exact h.elim
theorem ky_s2i_m {st : List Value} {P P' : Int32 → Int32 → List Value → Prop} (k : ∀ x y z, P x y z → P' x y z) (h : ky_s2i st P) : ky_s2i st P' := by
  unfold ky_s2i at h ⊢
  split at h <;> first | exact k _ _ _ h | exact ⟨h.1, k _ _ _ h.2⟩ | exact ⟨h.1, h.2.1, k _ _ _ h.2.2⟩ | exact h.elim
theorem ky_s1l_m {st : List Value} {P P' : Int64 → List Value → Prop} (k : ∀ x y, P x y → P' x y) (h : ky_s1l st P) : ky_s1l st P' := by
  unfold ky_s1l at h ⊢
  split at h <;> first | exact k _ _ h | exact ⟨h.1, k _ _ h.2⟩ | exact ⟨h.1, h.2.1, k _ _ h.2.2⟩ | exact h.elim
theorem ky_s2l_m {st : List Value} {P P' : Int64 → Int64 → List Value → Prop} (k : ∀ x y z, P x y z → P' x y z) (h : ky_s2l st P) : ky_s2l st P' := by
  unfold ky_s2l at h ⊢
  split at h <;> first | exact k _ _ _ h | exact ⟨h.1, k _ _ _ h.2⟩ | exact ⟨h.1, h.2.1, k _ _ _ h.2.2⟩ | exact h.elim
theorem ky_sli_m {st : List Value} {P P' : Int64 → Int32 → List Value → Prop} (k : ∀ x y z, P x y z → P' x y z) (h : ky_sli st P) : ky_sli st P' := by
  unfold ky_sli at h ⊢
  split at h <;> first | exact k _ _ _ h | exact ⟨h.1, k _ _ _ h.2⟩ | exact ⟨h.1, h.2.1, k _ _ _ h.2.2⟩ | exact h.elim
theorem ky_s1f_m {st : List Value} {P P' : UInt32 → List Value → Prop} (k : ∀ x y, P x y → P' x y) (h : ky_s1f st P) : ky_s1f st P' := by
  unfold ky_s1f at h ⊢
  split at h <;> first | exact k _ _ h | exact ⟨h.1, k _ _ h.2⟩ | exact ⟨h.1, h.2.1, k _ _ h.2.2⟩ | exact h.elim
theorem ky_s2f_m {st : List Value} {P P' : UInt32 → UInt32 → List Value → Prop} (k : ∀ x y z, P x y z → P' x y z) (h : ky_s2f st P) : ky_s2f st P' := by
  unfold ky_s2f at h ⊢
  split at h <;> first | exact k _ _ _ h | exact ⟨h.1, k _ _ _ h.2⟩ | exact ⟨h.1, h.2.1, k _ _ _ h.2.2⟩ | exact h.elim
theorem ky_s1d_m {st : List Value} {P P' : UInt64 → List Value → Prop} (k : ∀ x y, P x y → P' x y) (h : ky_s1d st P) : ky_s1d st P' := by
  unfold ky_s1d at h ⊢
  split at h <;> first | exact k _ _ h | exact ⟨h.1, k _ _ h.2⟩ | exact ⟨h.1, h.2.1, k _ _ h.2.2⟩ | exact h.elim
theorem ky_s2d_m {st : List Value} {P P' : UInt64 → UInt64 → List Value → Prop} (k : ∀ x y z, P x y z → P' x y z) (h : ky_s2d st P) : ky_s2d st P' := by
  unfold ky_s2d at h ⊢
  split at h <;> first | exact k _ _ _ h | exact ⟨h.1, k _ _ _ h.2⟩ | exact ⟨h.1, h.2.1, k _ _ _ h.2.2⟩ | exact h.elim
theorem ky_sr_m {st : List Value} {P P' : Nat → List Value → Prop} (k : ∀ x y, P x y → P' x y) (h : ky_sr st P) : ky_sr st P' := by
  unfold ky_sr at h ⊢
  split at h <;> first | exact k _ _ h | exact ⟨h.1, k _ _ h.2⟩ | exact ⟨h.1, h.2.1, k _ _ h.2.2⟩ | exact h.elim
theorem ky_sai_m {st : List Value} {P P' : Nat → Int32 → List Value → Prop} (k : ∀ x y z, P x y z → P' x y z) (h : ky_sai st P) : ky_sai st P' := by
  unfold ky_sai at h ⊢
  split at h <;> first | exact k _ _ _ h | exact ⟨h.1, k _ _ _ h.2⟩ | exact ⟨h.1, h.2.1, k _ _ _ h.2.2⟩ | exact h.elim
theorem ky_sasi_m {st : List Value} {P P' : Nat → Int32 → Int32 → List Value → Prop} (k : ∀ x y z u, P x y z u → P' x y z u) (h : ky_sasi st P) : ky_sasi st P' := by
  unfold ky_sasi at h ⊢
  split at h <;> first | exact k _ _ _ _ h | exact ⟨h.1, k _ _ _ _ h.2⟩ | exact ⟨h.1, h.2.1, k _ _ _ _ h.2.2⟩ | exact h.elim
theorem ky_sasl_m {st : List Value} {P P' : Nat → Int32 → Int64 → List Value → Prop} (k : ∀ x y z u, P x y z u → P' x y z u) (h : ky_sasl st P) : ky_sasl st P' := by
  unfold ky_sasl at h ⊢
  split at h <;> first | exact k _ _ _ _ h | exact ⟨h.1, k _ _ _ _ h.2⟩ | exact ⟨h.1, h.2.1, k _ _ _ _ h.2.2⟩ | exact h.elim
theorem ky_sasr_m {st : List Value} {P P' : Nat → Int32 → Nat → List Value → Prop} (k : ∀ x y z u, P x y z u → P' x y z u) (h : ky_sasr st P) : ky_sasr st P' := by
  unfold ky_sasr at h ⊢
  split at h <;> first | exact k _ _ _ _ h | exact ⟨h.1, k _ _ _ _ h.2⟩ | exact ⟨h.1, h.2.1, k _ _ _ _ h.2.2⟩ | exact h.elim
theorem ky_svr_m {st : List Value} {P P' : Value → Nat → List Value → Prop} (k : ∀ x y z, P x y z → P' x y z) (h : ky_svr st P) : ky_svr st P' := by
  unfold ky_svr at h ⊢
  split at h <;> first | exact k _ _ _ h | exact ⟨h.1, k _ _ _ h.2⟩ | exact ⟨h.1, h.2.1, k _ _ _ h.2.2⟩ | exact h.elim
theorem ky_sv_m {st : List Value} {P P' : Value → List Value → Prop} (k : ∀ x y, P x y → P' x y) (h : ky_sv st P) : ky_sv st P' := by
  unfold ky_sv at h ⊢
  split at h <;> first | exact k _ _ h | exact ⟨h.1, k _ _ h.2⟩ | exact ⟨h.1, h.2.1, k _ _ h.2.2⟩ | exact h.elim
theorem ky_sv2_m {st : List Value} {P P' : Value → Value → List Value → Prop} (k : ∀ x y z, P x y z → P' x y z) (h : ky_sv2 st P) : ky_sv2 st P' := by
  unfold ky_sv2 at h ⊢
  split at h <;> first | exact k _ _ _ h | exact ⟨h.1, k _ _ _ h.2⟩ | exact ⟨h.1, h.2.1, k _ _ _ h.2.2⟩ | exact h.elim
theorem ky_s1_m {st : List Value} {P P' : Value → Prop} (k : ∀ x, P x → P' x) (h : ky_s1 st P) : ky_s1 st P' := by
  unfold ky_s1 at h ⊢
  split at h <;> first | exact k _ h | exact ⟨h.1, k _ h.2⟩ | exact ⟨h.1, h.2.1, k _ h.2.2⟩ | exact h.elim
theorem ky_ari_m {e : Option ky_E} {P P' : Nat → Nat → (Nat → Int32) → Prop} (k : ∀ x y z, P x y z → P' x y z) (h : ky_ari e P) : ky_ari e P' := by
  unfold ky_ari at h ⊢
  split at h <;> first | exact k _ _ _ h | exact h.elim
theorem ky_arl_m {e : Option ky_E} {P P' : Nat → Nat → (Nat → Int64) → Prop} (k : ∀ x y z, P x y z → P' x y z) (h : ky_arl e P) : ky_arl e P' := by
  unfold ky_arl at h ⊢
  split at h <;> first | exact k _ _ _ h | exact h.elim
theorem ky_arr_m {e : Option ky_E} {P P' : Nat → Nat → (Nat → Option Nat) → Prop} (k : ∀ x y z, P x y z → P' x y z) (h : ky_arr e P) : ky_arr e P' := by
  unfold ky_arr at h ⊢
  split at h <;> first | exact k _ _ _ h | exact h.elim
theorem ky_arn_m {e : Option ky_E} {P P' : Nat → Nat → Prop} (k : ∀ x y, P x y → P' x y) (h : ky_arn e P) : ky_arn e P' := by
  unfold ky_arn at h ⊢
  split at h <;> first | exact k _ _ h | exact h.elim
theorem ky_obj_m {e : Option ky_E} {a : Nat} {P P' : List Value → Prop} (k : ∀ x, P x → P' x) (h : ky_obj e a P) : ky_obj e a P' := by
  unfold ky_obj at h ⊢
  split at h
  · exact ⟨h.1, k _ h.2⟩
  · exact h.elim
theorem ky_aft_m {hs : ky_Hs} {ex : Bool} {pc : Nat} {ls : ky_L} {r : List Value} {cn sn : Nat} {K K' : ky_K} {Q Q' : ky_Q} (kK : ∀ pc ls st f cn sn, K pc ls st f cn sn → K' pc ls st f cn sn) (kQ : ∀ o g, Q o g → Q' o g) (o : ky_O) (g : ky_H) (h : ky_aft hs ex pc ls r cn sn K Q o g) : ky_aft hs ex pc ls r cn sn K' Q' o g := by
  cases o with
  | inl w => exact kK _ _ _ _ _ _ h
  | inr E =>
    simp only [ky_aft] at h ⊢
    split at h
    · next z => rw [if_pos z]; exact ky_hnd_m _ _ _ _ _ _ _ (fun t k q => kK _ _ _ _ _ _ (k q)) (kQ _ _) h
    · exact h.elim
theorem ky_inv_m {mc ms : Nat} {hs : ky_Hs} {ex : Bool} {a b c1 c2 : Nat} {cs : List (Int32 × Nat)} {pc : Nat} {ls : ky_L} {st : List Value} {f : ky_H} {cn sn : Nat} {K K' : ky_K} {C C' : ky_C} {Q Q' : ky_Q} (kK : ∀ pc ls st f cn sn, K pc ls st f cn sn → K' pc ls st f cn sn) (kC : ∀ m As f R R', (∀ o g, R o g → R' o g) → C m As f R → C' m As f R') (kQ : ∀ o g, Q o g → Q' o g)
    (h : ky_inv mc ms hs ex a b c1 c2 cs pc ls st f cn sn K C Q) : ky_inv mc ms hs ex a b c1 c2 cs pc ls st f cn sn K' C' Q' :=
  ky_pop_m _ _ _ _ _ (fun _ _ z => ⟨z.1, z.2.1, z.2.2.1, z.2.2.2.1, kC _ _ _ _ _ (ky_aft_m kK kQ) z.2.2.2.2⟩) h
set_option maxHeartbeats 4000000 in
theorem ky_stp_m {G : ky_G} {mc ms : Nat} {hs : ky_Hs} {i : Instr} {a b c1 c2 : Nat} {v : Int32} {cs : List (Int32 × Nat)} {pc : Nat} {ls : ky_L} {st : List Value} {f : ky_H} {cn sn : Nat} {K K' : ky_K} {C C' : ky_C} {Q Q' : ky_Q} (kK : ∀ pc ls st f cn sn, K pc ls st f cn sn → K' pc ls st f cn sn) (kC : ∀ m As f R R', (∀ o g, R o g → R' o g) → C m As f R → C' m As f R') (kQ : ∀ o g, Q o g → Q' o g)
    (h : ky_stp G mc ms hs i a b c1 c2 v cs pc ls st f cn sn K C Q) : ky_stp G mc ms hs i a b c1 c2 v cs pc ls st f cn sn K' C' Q' := by
  cases i with
  | iload_n _ =>
    exact ky_ldi_m _ _ _ _ (fun _ z => kK _ _ _ _ _ _ z) h
  | iload _ =>
    exact ky_ldi_m _ _ _ _ (fun _ z => kK _ _ _ _ _ _ z) h
  | iinc _ _ =>
    exact ky_ldi_m _ _ _ _ (fun _ z => kK _ _ _ _ _ _ z) h
  | lload_n _ =>
    exact ky_ldl_m _ _ _ _ (fun _ z => kK _ _ _ _ _ _ z) h
  | lload _ =>
    exact ky_ldl_m _ _ _ _ (fun _ z => kK _ _ _ _ _ _ z) h
  | dload _ =>
    exact ky_ldd_m _ _ _ _ (fun _ z => kK _ _ _ _ _ _ z) h
  | aload_n _ =>
    exact ky_lda_m _ _ _ _ (fun _ z => kK _ _ _ _ _ _ z) h
  | aload _ =>
    exact ky_lda_m _ _ _ _ (fun _ z => kK _ _ _ _ _ _ z) h
  | astore_n _ =>
    exact ky_lda_m _ _ _ _ (fun _ z => kK _ _ _ _ _ _ z) h
  | astore _ =>
    exact ky_lda_m _ _ _ _ (fun _ z => kK _ _ _ _ _ _ z) h
  | istore_n _ =>
    exact ky_s1i_m (fun _ _ z => kK _ _ _ _ _ _ z) h
  | istore _ =>
    exact ky_s1i_m (fun _ _ z => kK _ _ _ _ _ _ z) h
  | ineg =>
    exact ky_s1i_m (fun _ _ z => kK _ _ _ _ _ _ z) h
  | i2l =>
    exact ky_s1i_m (fun _ _ z => kK _ _ _ _ _ _ z) h
  | i2b =>
    exact ky_s1i_m (fun _ _ z => kK _ _ _ _ _ _ z) h
  | i2f =>
    exact ky_s1i_m (fun _ _ z => kK _ _ _ _ _ _ z) h
  | i2d =>
    exact ky_s1i_m (fun _ _ z => kK _ _ _ _ _ _ z) h
  | lstore_n _ =>
    exact ky_s1l_m (fun _ _ z => kK _ _ _ _ _ _ z) h
  | lstore _ =>
    exact ky_s1l_m (fun _ _ z => kK _ _ _ _ _ _ z) h
  | l2i =>
    exact ky_s1l_m (fun _ _ z => kK _ _ _ _ _ _ z) h
  | dstore _ =>
    exact ky_s1d_m (fun _ _ z => kK _ _ _ _ _ _ z) h
  | iconst _ =>
    exact kK _ _ _ _ _ _ h
  | bipush _ =>
    exact kK _ _ _ _ _ _ h
  | sipush _ =>
    exact kK _ _ _ _ _ _ h
  | lconst _ =>
    exact kK _ _ _ _ _ _ h
  | fconst _ =>
    exact kK _ _ _ _ _ _ h
  | dconst _ =>
    exact kK _ _ _ _ _ _ h
  | ldc _ =>
    exact kK _ _ _ _ _ _ h
  | ldc_w _ =>
    exact kK _ _ _ _ _ _ h
  | goto _ =>
    exact kK _ _ _ _ _ _ h
  | iadd =>
    exact ky_s2i_m (fun _ _ _ z => kK _ _ _ _ _ _ z) h
  | isub =>
    exact ky_s2i_m (fun _ _ _ z => kK _ _ _ _ _ _ z) h
  | imul =>
    exact ky_s2i_m (fun _ _ _ z => kK _ _ _ _ _ _ z) h
  | iand =>
    exact ky_s2i_m (fun _ _ _ z => kK _ _ _ _ _ _ z) h
  | ior =>
    exact ky_s2i_m (fun _ _ _ z => kK _ _ _ _ _ _ z) h
  | ixor =>
    exact ky_s2i_m (fun _ _ _ z => kK _ _ _ _ _ _ z) h
  | ishl =>
    exact ky_s2i_m (fun _ _ _ z => kK _ _ _ _ _ _ z) h
  | ishr =>
    exact ky_s2i_m (fun _ _ _ z => kK _ _ _ _ _ _ z) h
  | iushr =>
    exact ky_s2i_m (fun _ _ _ z => kK _ _ _ _ _ _ z) h
  | idiv =>
    exact ky_s2i_m (fun _ _ _ z => ⟨z.1, kK _ _ _ _ _ _ z.2⟩) h
  | irem =>
    exact ky_s2i_m (fun _ _ _ z => ⟨z.1, kK _ _ _ _ _ _ z.2⟩) h
  | lor =>
    exact ky_s2l_m (fun _ _ _ z => kK _ _ _ _ _ _ z) h
  | lcmp =>
    exact ky_s2l_m (fun _ _ _ z => kK _ _ _ _ _ _ z) h
  | lshl =>
    exact ky_sli_m (fun _ _ _ z => kK _ _ _ _ _ _ z) h
  | lushr =>
    exact ky_sli_m (fun _ _ _ z => kK _ _ _ _ _ _ z) h
  | dcmp _ =>
    exact ky_s2d_m (fun _ _ _ z => kK _ _ _ _ _ _ z) h
  | f2d =>
    exact ky_s1f_m (fun _ _ z => ⟨z.1, kK _ _ _ _ _ _ z.2⟩) h
  | fdiv =>
    exact ky_s2f_m (fun _ _ _ z => ⟨z.1, kK _ _ _ _ _ _ z.2⟩) h
  | ddiv =>
    exact ky_s2d_m (fun _ _ _ z => ⟨z.1, kK _ _ _ _ _ _ z.2⟩) h
  | dup =>
    exact ky_sv_m (fun _ _ z => kK _ _ _ _ _ _ z) h
  | pop =>
    exact ky_sv_m (fun _ _ z => kK _ _ _ _ _ _ z) h
  | dup2 =>
    exact ky_sv2_m (fun _ _ _ z => kK _ _ _ _ _ _ z) h
  | getfield _ =>
    exact ky_sr_m (fun _ _ z => ky_obj_m (fun _ z => ky_nth_m _ _ _ _ (fun _ z => kK _ _ _ _ _ _ z) z) z) h
  | putfield _ =>
    exact ky_svr_m (fun _ _ _ z => ⟨z.1, ky_obj_m (fun _ z => ky_snt_m _ _ _ _ _ (fun _ z => kK _ _ _ _ _ _ z) z) z.2⟩) h
  | new _ =>
    simp only [ky_stp] at h ⊢
    split at h
    · next z => rw [if_pos z]; exact ⟨h.1, h.2.1, fun q hq => kK _ _ _ _ _ _ (h.2.2 q hq)⟩
    · next z => rw [if_neg z]; exact ⟨h.1, h.2.1, h.2.2.1, kQ _ _ h.2.2.2⟩
  | newarray _ =>
    exact ky_s1i_m (fun _ _ z => ⟨z.1, z.2.1, z.2.2.1, z.2.2.2.1, fun q hq => kK _ _ _ _ _ _ (z.2.2.2.2 q hq)⟩) h
  | anewarray _ =>
    exact ky_s1i_m (fun _ _ z => ⟨z.1, z.2.1, z.2.2.1, z.2.2.2.1, fun q hq => kK _ _ _ _ _ _ (z.2.2.2.2 q hq)⟩) h
  | arraylength =>
    exact ky_sr_m (fun _ _ z => ky_arn_m (fun _ _ z => kK _ _ _ _ _ _ z) z) h
  | iaload =>
    exact ky_sai_m (fun _ _ _ z => ky_ari_m (fun _ _ _ z => ⟨z.1, z.2.1, kK _ _ _ _ _ _ z.2.2⟩) z) h
  | baload =>
    exact ky_sai_m (fun _ _ _ z => ky_ari_m (fun _ _ _ z => ⟨z.1, z.2.1, kK _ _ _ _ _ _ z.2.2⟩) z) h
  | laload =>
    exact ky_sai_m (fun _ _ _ z => ky_arl_m (fun _ _ _ z => ⟨z.1, z.2.1, kK _ _ _ _ _ _ z.2.2⟩) z) h
  | aaload =>
    exact ky_sai_m (fun _ _ _ z => ky_arr_m (fun _ _ _ z => ⟨z.1, z.2.1, kK _ _ _ _ _ _ z.2.2⟩) z) h
  | iastore =>
    exact ky_sasi_m (fun _ _ _ _ z => ky_ari_m (fun _ _ _ z => ⟨z.1, z.2.1, kK _ _ _ _ _ _ z.2.2⟩) z) h
  | bastore =>
    exact ky_sasi_m (fun _ _ _ _ z => ky_ari_m (fun _ _ _ z => ⟨z.1, z.2.1, kK _ _ _ _ _ _ z.2.2⟩) z) h
  | lastore =>
    exact ky_sasl_m (fun _ _ _ _ z => ky_arl_m (fun _ _ _ z => ⟨z.1, z.2.1, kK _ _ _ _ _ _ z.2.2⟩) z) h
  | aastore =>
    exact ky_sasr_m (fun _ _ _ _ z => ky_arr_m (fun _ _ _ z => ⟨z.1, z.2.1, z.2.2.1, kK _ _ _ _ _ _ z.2.2.2⟩) z) h
  | ifCond co _ =>
    cases co <;> exact ky_s1i_m (fun _ _ z => ⟨fun y => kK _ _ _ _ _ _ (z.1 y), fun y => kK _ _ _ _ _ _ (z.2 y)⟩) h
  | if_icmp co _ =>
    cases co <;> exact ky_s2i_m (fun _ _ _ z => ⟨fun y => kK _ _ _ _ _ _ (z.1 y), fun y => kK _ _ _ _ _ _ (z.2 y)⟩) h
  | ifnull _ =>
    cases st with
    | nil => exact False.elim h
    | cons y r => cases y <;> first | exact kK _ _ _ _ _ _ h | exact False.elim h
  | ifnonnull _ =>
    cases st with
    | nil => exact False.elim h
    | cons y r => cases y <;> first | exact kK _ _ _ _ _ _ h | exact False.elim h
  | tableswitch _ _ _ _ =>
    exact ky_s1i_m (fun _ _ z => ky_sw_m _ _ _ _ _ (fun _ z => kK _ _ _ _ _ _ z) z) h
  | lookupswitch _ _ =>
    exact ky_s1i_m (fun _ _ z => ky_sw_m _ _ _ _ _ (fun _ z => kK _ _ _ _ _ _ z) z) h
  | ireturn =>
    exact ky_s1_m (fun _ z => ky_s1i_m (fun _ _ z => ⟨z.1, kQ _ _ z.2⟩) z) h
  | lreturn =>
    exact ky_s1_m (fun _ z => ky_s1l_m (fun _ _ z => kQ _ _ z) z) h
  | freturn =>
    exact ky_s1_m (fun _ z => ky_s1f_m (fun _ _ z => kQ _ _ z) z) h
  | dreturn =>
    exact ky_s1_m (fun _ z => ky_s1d_m (fun _ _ z => kQ _ _ z) z) h
  | areturn =>
    exact ky_s1_m (fun _ z => ky_sr_m (fun _ _ z => kQ _ _ z) z) h
  | return_ =>
    exact ⟨h.1, kQ _ _ h.2⟩
  | invokespecial _ =>
    simp only [ky_stp] at h ⊢
    split at h
    · next z => rw [if_pos z]; exact ky_sr_m (fun _ _ z => ⟨z.1, kK _ _ _ _ _ _ z.2⟩) h
    · next z => rw [if_neg z]; exact ky_inv_m kK kC kQ h
  | invokestatic _ =>
    simp only [ky_stp] at h ⊢
    split at h
    · next z => rw [if_pos z]; exact ky_s2i_m (fun _ _ _ z => ⟨z.1, kK _ _ _ _ _ _ z.2⟩) h
    · next z =>
      rw [if_neg z]
      split at h
      · next z => rw [if_pos z]; exact ky_s2i_m (fun _ _ _ z => ⟨z.1, kK _ _ _ _ _ _ z.2⟩) h
      · next z =>
        rw [if_neg z]
        split at h
        · next z => rw [if_pos z]; exact ky_s2i_m (fun _ _ _ z => ⟨z.1, z.2.1, kK _ _ _ _ _ _ z.2.2⟩) h
        · next z => rw [if_neg z]; exact ky_inv_m kK kC kQ h
  | invokevirtual _ =>
    simp only [ky_stp] at h ⊢
    split at h
    · next z => rw [if_pos z]; exact ky_sr_m (fun _ _ z => z.imp fun _ z => ⟨z.1, z.2.1, z.2.2.1, kK _ _ _ _ _ _ z.2.2.2⟩) h
    · next z =>
      rw [if_neg z]
      split at h
      · next z => rw [if_pos z]; exact ky_sai_m (fun _ _ _ z => z.imp fun _ z => z.imp fun _ z => ⟨z.1, z.2.1, z.2.2.1, z.2.2.2.1, z.2.2.2.2.1, kK _ _ _ _ _ _ z.2.2.2.2.2⟩) h
      · next z => rw [if_neg z]; exact ky_inv_m kK kC kQ h
  | _ => exact False.elim h
/-- the least predicate -/
def ky_ok (adK : Nat → Nat) (m pc : Nat) (ls : ky_L) (st : List Value) (f : ky_H) (cn sn : Nat) (Q : ky_Q) : Prop :=
  ∀ P : Nat → Nat → ky_L → List Value → ky_H → Nat → Nat → ky_Q → Prop, (∀ m pc ls st f cn sn Q, ky_one (ky_GG adK) P m pc ls st f cn sn Q → P m pc ls st f cn sn Q) → P m pc ls st f cn sn Q
/-- a call -/
def ky_cl (adK : Nat → Nat) : ky_C := fun m As f Q => ky_cs As ≤ ky_ml m ∧ ky_ii m As ∧ ky_ok adK m 0 (ky_ent As (ky_ml m)) [] f 0 0 Q
theorem ky_ok_snd {adK : Nat → Nat} {m pc : Nat} {ls : ky_L} {st : List Value} {f : ky_H} {cn sn : Nat} {Q : ky_Q} (h : ky_ok adK m pc ls st f cn sn Q) (l : Launch) (D : va_G) (c : Nat → ClassId) (adV : Nat → Nat) : ky_Pd l D c adK adV m pc ls st f cn sn Q :=
  h (ky_Pd l D c adK adV) (ky_snd l D c adK adV)
theorem ky_ok_stp {adK : Nat → Nat} {m pc : Nat} {ls : ky_L} {st : List Value} {f : ky_H} {cn sn : Nat} {Q : ky_Q} {i : Instr} {len a b c1 c2 : Nat} {v : Int32} {cs : List (Int32 × Nat)} (hcd : ky_cd m pc = some (i, len, a, b, c1, c2, v, cs))
    (h : ky_stp (ky_GG adK) (ky_ce m) (ky_so m) (ky_hs m) i a b c1 c2 v cs pc ls st f cn sn (fun pc' ls' st' f' cn' sn' => ky_ok adK m pc' ls' st' f' cn' sn' Q) (ky_cl adK) Q) : ky_ok adK m pc ls st f cn sn Q := by
  intro P hP
  refine hP _ _ _ _ _ _ _ _ ?_
  unfold ky_one
  rw [hcd]
  exact ky_stp_m (fun _ _ _ _ _ _ z => z P hP) (fun _ _ _ _ _ k z => ⟨_, z.1, z.2.1, z.2.2 P hP, k⟩) (fun _ _ z => z) h
theorem ky_ok_q {adK : Nat → Nat} {m pc : Nat} {ls : ky_L} {st : List Value} {f : ky_H} {cn sn : Nat} {Q Q' : ky_Q} (h : ky_ok adK m pc ls st f cn sn Q) (k : ∀ o g, Q o g → Q' o g) : ky_ok adK m pc ls st f cn sn Q' := by
  refine h (fun m pc ls st f cn sn Q => ∀ Q' : ky_Q, (∀ o g, Q o g → Q' o g) → ky_ok adK m pc ls st f cn sn Q') ?_ Q' k
  intro m pc ls st f cn sn Q h Q' k
  unfold ky_one at h
  split at h
  · exact h.elim
  next hcd =>
  refine ky_ok_stp hcd (ky_stp_m (fun _ _ _ _ _ _ z => z Q' k) (fun _ _ _ _ _ k2 z => ?_) k h)
  obtain ⟨R, h1, h2, h3, h4⟩ := z
  exact ⟨h1, h2, h3 _ fun o g y => k2 o g (h4 o g y)⟩
theorem ky_cl_q {adK : Nat → Nat} {m : Nat} {As : List Value} {f : ky_H} {R R' : ky_Q} (h : ky_cl adK m As f R) (k : ∀ o g, R o g → R' o g) : ky_cl adK m As f R' := ⟨h.1, h.2.1, ky_ok_q h.2.2 k⟩
/-- a run of at most j steps, up to the places sp -/
noncomputable def ky_exe (adK : Nat → Nat) (m : Nat) (Q : ky_Q) (sp : List Nat) : Nat → ky_K
  | 0, pc, ls, st, f, cn, sn => ky_ok adK m pc ls st f cn sn Q
  | j + 1, pc, ls, st, f, cn, sn => match ky_cd m pc with
    | none => False
    | some (i, _, a, b, c1, c2, v, cs) => ky_stp (ky_GG adK) (ky_ce m) (ky_so m) (ky_hs m) i a b c1 c2 v cs pc ls st f cn sn (fun pc' ls' st' f' cn' sn' => if pc' ∈ sp then ky_ok adK m pc' ls' st' f' cn' sn' Q else ky_exe adK m Q sp j pc' ls' st' f' cn' sn') (ky_cl adK) Q
theorem ky_go {adK : Nat → Nat} {m : Nat} {Q : ky_Q} (sp : List Nat) : ∀ (j pc : Nat) (ls : ky_L) (st : List Value) (f : ky_H) (cn sn : Nat), ky_exe adK m Q sp j pc ls st f cn sn → ky_ok adK m pc ls st f cn sn Q
  | 0, _, _, _, _, _, _, h => h
  | j + 1, pc, ls, st, f, cn, sn, h => by
    unfold ky_exe at h
    split at h
    · exact h.elim
    next hcd =>
    refine ky_ok_stp hcd (ky_stp_m (fun pc' ls' st' f' cn' sn' z => ?_) (fun _ _ _ _ _ k z => ky_cl_q z k) (fun _ _ z => z) h)
    split at z
    · exact z
    · exact ky_go sp j _ _ _ _ _ _ z
