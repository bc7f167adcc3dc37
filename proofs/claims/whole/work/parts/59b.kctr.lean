/-! ## constructors: the keeper -/
def kCP (a : Nat → Nat) (f : ky_H) (T : Nat) : Prop := (1 < T → ∃ z : kZ, z.n = 0 ∧ kZb a 1 f z) ∧ (12 < T → ∃ z, kZb a 12 f z) ∧ (23 < T → kNn a 23 f) ∧ (30 < T → kNn a 30 f) ∧ (37 < T → kHi a f 0 (fun _ => kZ0)) ∧ (39 < T → f (a 39) = some (.inl (4, 2, .inr (.inr (.inr (.inr fun _ => none)))))) ∧ (40 < T → kB a 40 f 700 0 (fun _ => 0)) ∧ (42 < T → kB a 42 f 4260 0 (fun _ => 0)) ∧ (44 < T → kB a 44 f 54 0 (fun _ => 0)) ∧ (46 < T → f (a 46) = some (.inr (7, [.int 0, .int 0, .long 0, .int 0, .int 0, .ref (a 40)]))) ∧ (47 < T → f (a 47) = some (.inr (4, [.ref (a 46)]))) ∧ (48 < T → kSc0 a f) ∧ (53 < T → f (a 53) = some (.inl (1, ky_z 1 8))) ∧ (54 < T → f (a 54) = some (.inl (1, ky_z 1 60))) ∧ (55 < T → f (a 55) = some (.inl (1, ky_z 1 60))) ∧ (56 < T → f (a 56) = some (.inl (3, ky_z 3 61)))
def kCq (a : Nat → Nat) (f : ky_H) (T : Nat) : Prop := f (a 0) = some (.inr (8, [if 1 < T then .ref (a 1) else .null, if 12 < T then .ref (a 12) else .null, if 23 < T then .ref (a 23) else .null, if 30 < T then .ref (a 30) else .null, if 37 < T then .ref (a 37) else .null, if 39 < T then .ref (a 39) else .null, if 40 < T then .ref (a 40) else .null, if 42 < T then .ref (a 42) else .null, if 44 < T then .ref (a 44) else .null, if 46 < T then .ref (a 46) else .null, if 47 < T then .ref (a 47) else .null, if 48 < T then .ref (a 48) else .null, if 53 < T then .ref (a 53) else .null, if 54 < T then .ref (a 54) else .null, if 55 < T then .ref (a 55) else .null, if 56 < T then .ref (a 56) else .null, .int 0, .int 0]))
section KXC
variable {adK a a' : Nat → Nat} {f f' : ky_H} {Q : ky_Q} {T : Nat} {X : Nat → Prop}
theorem kNn_hd {k : Nat} (h : kNn a k f) : ∃ e, f (a k) = some e := by
  obtain ⟨_, _, _, _, _, _, h, -⟩ := h
  exact ⟨_, h⟩
theorem kSc0_hd (h : kSc0 a f) : ∃ e, f (a 48) = some e := by
  obtain ⟨_, _, _, _, _, h, -⟩ := h
  exact ⟨_, h⟩
theorem kSc0_al (h : kSc0 a f) {e46 : ky_E} (h46 : f (a 46) = some e46) (hA : kAl a f a' f' X) (hX : ∀ j, 46 ≤ j → j ≤ 52 → ¬ X j) : kSc0 a' f' := by
  obtain ⟨n, g1, g2, g3, g4, h0, h1, h2, h3, h4⟩ := h
  have w46 := kAl_at hA (hX 46 (by omega) (by omega)) h46
  have w48 := kAl_at hA (hX 48 (by omega) (by omega)) h0
  have w49 := kAl_at hA (hX 49 (by omega) (by omega)) h1
  have w50 := kAl_at hA (hX 50 (by omega) (by omega)) h2
  have w51 := kAl_at hA (hX 51 (by omega) (by omega)) h3
  have w52 := kAl_at hA (hX 52 (by omega) (by omega)) h4
  exact ⟨n, g1, g2, g3, g4, by rw [w48.2, w49.1, w50.1, w51.1, w52.1, w46.1], w49.2, w50.2, w51.2, w52.2⟩
theorem kCP_ad (D : kCP a f T) (hA : kAl a f a' f' X) (hX : ∀ j, X j → j = 0 ∨ T ≤ j ∧ j < 57) : (1 < T → a' 1 = a 1) ∧ (12 < T → a' 12 = a 12) ∧ (23 < T → a' 23 = a 23) ∧ (30 < T → a' 30 = a 30) ∧ (37 < T → a' 37 = a 37) ∧ (39 < T → a' 39 = a 39) ∧ (40 < T → a' 40 = a 40) ∧ (42 < T → a' 42 = a 42) ∧ (44 < T → a' 44 = a 44) ∧ (46 < T → a' 46 = a 46) ∧ (47 < T → a' 47 = a 47) ∧ (48 < T → a' 48 = a 48) ∧ (53 < T → a' 53 = a 53) ∧ (54 < T → a' 54 = a 54) ∧ (55 < T → a' 55 = a 55) ∧ (56 < T → a' 56 = a 56) := by
  obtain ⟨d1, d12, d23, d30, d37, d39, d40, d42, d44, d46, d47, d48, d53, d54, d55, d56⟩ := D
  have hX' : ∀ j, 1 ≤ j → j < T → ¬ X j := fun j h1 h2 w => by have := hX j w; omega
  exact ⟨fun w => (kAl_at hA (hX' 1 (by omega) (by omega)) (d1 w).choose_spec.2.1.choose_spec.1.1).1, fun w => (kAl_at hA (hX' 12 (by omega) (by omega)) (d12 w).choose_spec.1.choose_spec.1.1).1, fun w => (kAl_at hA (hX' 23 (by omega) (by omega)) (kNn_hd (d23 w)).choose_spec).1, fun w => (kAl_at hA (hX' 30 (by omega) (by omega)) (kNn_hd (d30 w)).choose_spec).1, fun w => (kAl_at hA (hX' 37 (by omega) (by omega)) (kHi_z (d37 w)).choose_spec).1, fun w => (kAl_at hA (hX' 39 (by omega) (by omega)) (d39 w)).1, fun w => (kAl_at hA (hX' 40 (by omega) (by omega)) (d40 w).choose_spec.1).1, fun w => (kAl_at hA (hX' 42 (by omega) (by omega)) (d42 w).choose_spec.1).1, fun w => (kAl_at hA (hX' 44 (by omega) (by omega)) (d44 w).choose_spec.1).1, fun w => (kAl_at hA (hX' 46 (by omega) (by omega)) (d46 w)).1, fun w => (kAl_at hA (hX' 47 (by omega) (by omega)) (d47 w)).1, fun w => (kAl_at hA (hX' 48 (by omega) (by omega)) (kSc0_hd (d48 w)).choose_spec).1, fun w => (kAl_at hA (hX' 53 (by omega) (by omega)) (d53 w)).1, fun w => (kAl_at hA (hX' 54 (by omega) (by omega)) (d54 w)).1, fun w => (kAl_at hA (hX' 55 (by omega) (by omega)) (d55 w)).1, fun w => (kAl_at hA (hX' 56 (by omega) (by omega)) (d56 w)).1⟩
theorem kCP_al (D : kCP a f T) (hT : ∀ k, k ∈ [1, 12, 23, 30, 37, 39, 40, 42, 44, 46, 47, 48, 53, 54, 55, 56] → k < T → k + (if k = 1 ∨ k = 12 then 11 else if k = 23 ∨ k = 30 then 7 else if k = 37 ∨ k = 40 ∨ k = 42 ∨ k = 44 then 2 else if k = 48 then 5 else 1) ≤ T) (hA : kAl a f a' f' X) (hX : ∀ j, X j → j = 0 ∨ T ≤ j ∧ j < 57) : kCP a' f' T := by
  have ad := kCP_ad D hA hX
  obtain ⟨e1, e12, e23, e30, e37, e39, e40, e42, e44, e46, e47, e48, e53, e54, e55, e56⟩ := ad
  obtain ⟨d1, d12, d23, d30, d37, d39, d40, d42, d44, d46, d47, d48, d53, d54, d55, d56⟩ := D
  have hX' : ∀ j, 1 ≤ j → j < T → ¬ X j := fun j h1 h2 w => by have := hX j w; omega
  have hX6 : ∀ j, 57 ≤ j → ¬ X j := fun j h1 w => by have := hX j w; omega
  refine ⟨fun w => ?_, fun w => ?_, fun w => ?_, fun w => ?_, fun w => ?_, fun w => ?_, fun w => ?_, fun w => ?_, fun w => ?_, fun w => ?_, fun w => ?_, fun w => ?_, fun w => ?_, fun w => ?_, fun w => ?_, fun w => ?_⟩
  · have hT := hT 1 (by decide) w; simp only [Nat.reduceEqDiff, or_self, or_false, or_true, false_or, true_or, ite_true, ite_false, reduceCtorEq] at hT
    obtain ⟨z, hn, hz⟩ := d1 w
    exact ⟨z, hn, kZb_al hz hA fun j z1 z2 => hX' j (by omega) (by omega)⟩
  · have hT := hT 12 (by decide) w; simp only [Nat.reduceEqDiff, or_self, or_false, or_true, false_or, true_or, ite_true, ite_false, reduceCtorEq] at hT
    obtain ⟨z, hz⟩ := d12 w
    exact ⟨z, kZb_al hz hA fun j z1 z2 => hX' j (by omega) (by omega)⟩
  · have hT := hT 23 (by decide) w; simp only [Nat.reduceEqDiff, or_self, or_false, or_true, false_or, true_or, ite_true, ite_false, reduceCtorEq] at hT
    exact kNn_al (d23 w) hA fun j z1 z2 => hX' j (by omega) (by omega)
  · have hT := hT 30 (by decide) w; simp only [Nat.reduceEqDiff, or_self, or_false, or_true, false_or, true_or, ite_true, ite_false, reduceCtorEq] at hT
    exact kNn_al (d30 w) hA fun j z1 z2 => hX' j (by omega) (by omega)
  · have hT := hT 37 (by decide) w; simp only [Nat.reduceEqDiff, or_self, or_false, or_true, false_or, true_or, ite_true, ite_false, reduceCtorEq] at hT
    exact kHi_al (d37 w) hA (hX' 37 (by omega) (by omega)) (hX' 38 (by omega) (by omega)) fun j z1 z2 => hX6 j (by omega)
  · have hT := hT 39 (by decide) w; simp only [Nat.reduceEqDiff, or_self, or_false, or_true, false_or, true_or, ite_true, ite_false, reduceCtorEq] at hT
    exact (kAl_at hA (hX' 39 (by omega) (by omega)) (d39 w)).2
  · have hT := hT 40 (by decide) w; simp only [Nat.reduceEqDiff, or_self, or_false, or_true, false_or, true_or, ite_true, ite_false, reduceCtorEq] at hT
    exact kB_al (d40 w) hA (hX' 40 (by omega) (by omega)) (hX' 41 (by omega) (by omega))
  · have hT := hT 42 (by decide) w; simp only [Nat.reduceEqDiff, or_self, or_false, or_true, false_or, true_or, ite_true, ite_false, reduceCtorEq] at hT
    exact kB_al (d42 w) hA (hX' 42 (by omega) (by omega)) (hX' 43 (by omega) (by omega))
  · have hT := hT 44 (by decide) w; simp only [Nat.reduceEqDiff, or_self, or_false, or_true, false_or, true_or, ite_true, ite_false, reduceCtorEq] at hT
    exact kB_al (d44 w) hA (hX' 44 (by omega) (by omega)) (hX' 45 (by omega) (by omega))
  · have hT := hT 46 (by decide) w; simp only [Nat.reduceEqDiff, or_self, or_false, or_true, false_or, true_or, ite_true, ite_false, reduceCtorEq] at hT
    rw [(kAl_at hA (hX' 46 (by omega) (by omega)) (d46 w)).2, e40 (by omega)]
  · have hT := hT 47 (by decide) w; simp only [Nat.reduceEqDiff, or_self, or_false, or_true, false_or, true_or, ite_true, ite_false, reduceCtorEq] at hT
    rw [(kAl_at hA (hX' 47 (by omega) (by omega)) (d47 w)).2, e46 (by omega)]
  · have hT := hT 48 (by decide) w; simp only [Nat.reduceEqDiff, or_self, or_false, or_true, false_or, true_or, ite_true, ite_false, reduceCtorEq] at hT
    exact kSc0_al (d48 w) (d46 (by omega)) hA fun j z1 z2 => hX' j (by omega) (by omega)
  · have hT := hT 53 (by decide) w; simp only [Nat.reduceEqDiff, or_self, or_false, or_true, false_or, true_or, ite_true, ite_false, reduceCtorEq] at hT
    exact (kAl_at hA (hX' 53 (by omega) (by omega)) (d53 w)).2
  · have hT := hT 54 (by decide) w; simp only [Nat.reduceEqDiff, or_self, or_false, or_true, false_or, true_or, ite_true, ite_false, reduceCtorEq] at hT
    exact (kAl_at hA (hX' 54 (by omega) (by omega)) (d54 w)).2
  · have hT := hT 55 (by decide) w; simp only [Nat.reduceEqDiff, or_self, or_false, or_true, false_or, true_or, ite_true, ite_false, reduceCtorEq] at hT
    exact (kAl_at hA (hX' 55 (by omega) (by omega)) (d55 w)).2
  · have hT := hT 56 (by decide) w; simp only [Nat.reduceEqDiff, or_self, or_false, or_true, false_or, true_or, ite_true, ite_false, reduceCtorEq] at hT
    exact (kAl_at hA (hX' 56 (by omega) (by omega)) (d56 w)).2
theorem kCq_al (D : kCP a f T) (o : kCq a f T) (hA : kAl a f a' f' X) (h0 : ¬ X 0) (hX : ∀ j, X j → j = 0 ∨ T ≤ j ∧ j < 57) : kCq a' f' T := by
  obtain ⟨e1, e12, e23, e30, e37, e39, e40, e42, e44, e46, e47, e48, e53, e54, e55, e56⟩ := kCP_ad D hA hX
  have w := (kAl_at hA h0 o).2
  unfold kCq
  rw [w]
  have hc : ∀ k, (k < T → a' k = a k) → (if k < T then Value.ref (a k) else .null) = if k < T then .ref (a' k) else .null := fun k e => by
    by_cases hk : k < T
    · rw [if_pos hk, if_pos hk, e hk]
    · rw [if_neg hk, if_neg hk]
  rw [hc 1 e1, hc 12 e12, hc 23 e23, hc 30 e30, hc 37 e37, hc 39 e39, hc 40 e40, hc 42 e42, hc 44 e44, hc 46 e46, hc 47 e47, hc 48 e48, hc 53 e53, hc 54 e54, hc 55 e55, hc 56 e56]
def kSt0 : kSt := ⟨kZ0, 0, fun _ => kZ0, fun _ => none, fun _ => 0, 0, fun _ => 0, 0, fun _ => 0, 0, -1⟩
theorem kx88 (ha : kI a) (h0 : f (a 0) = some (.inr (8, [.null, .null, .null, .null, .null, .null, .null, .null, .null, .null, .null, .null, .null, .null, .null, .null, .int 0, .int 0]))) (hQ : ∀ a' f' s', kSe kSt0 s' → kK a' f' s' → kAl a f a' f' kL8 → Q (.inl none) f') : ky_cl adK 88 [.ref (a 0)] f Q := by
  have q3 : (ky_GG adK).2.2.getD 3 [] = [.int 0, .null, .null, .null, .null, .null, .null] := rfl
  have q2 : (ky_GG adK).2.2.getD 2 [] = [.null, .null, .null, .null, .null, .null] := rfl
  have q1 : (ky_GG adK).2.2.getD 1 [] = [.int 0, .int 0, .null] := rfl
  have q0 : (ky_GG adK).2.2.getD 0 [] = [.int 0, .null] := rfl
  have q7 : (ky_GG adK).2.2.getD 7 [] = [.int 0, .int 0, .long 0, .int 0, .int 0, .null] := rfl
  have q4 : (ky_GG adK).2.2.getD 4 [] = [.null] := rfl
  have q5 : (ky_GG adK).2.2.getD 5 [] = [.int 0, .null, .null, .null, .null, .null] := rfl
  have r : kAl a f a f kL8 := kAl_fr ha kfr_rf
  have o : kCq a f 1 := h0
  have D : kCP a f 1 := ⟨fun w => absurd w (by omega), fun w => absurd w (by omega), fun w => absurd w (by omega), fun w => absurd w (by omega), fun w => absurd w (by omega), fun w => absurd w (by omega), fun w => absurd w (by omega), fun w => absurd w (by omega), fun w => absurd w (by omega), fun w => absurd w (by omega), fun w => absurd w (by omega), fun w => absurd w (by omega), fun w => absurd w (by omega), fun w => absurd w (by omega), fun w => absurd w (by omega), fun w => absurd w (by omega)⟩
  refine ⟨Nat.le_of_ble_eq_true rfl, fun _ => trivial, ?_⟩; show ky_ok adK 88 0 [some (.ref (a 0))] [] f 0 0 _
  have hid := kz_id h0
  have L700 : (700 : Int32) = nI 700 := rfl
  have L4260 : (4260 : Int32) = nI 4260 := rfl
  have L54 : (54 : Int32) = nI 54 := rfl
  have L61 : (61 : Int32) = nI 61 := rfl
  have n2 : Int32.toNatClampNeg 2 = 2 := by decide
  repeat' (first | (refine ky_ok_stp rfl ?_; simp (disch := first | omega | assumption) only [ky_stp, ky_inv, ky_ldi, ky_ldl, ky_ldd, ky_lda, ky_cl2, ky_st1, ky_st2, ky_s1i, ky_s2i, ky_s1l, ky_s2l, ky_sli, ky_s1f, ky_s2f, ky_s1d, ky_s2d, ky_sr, ky_sai, ky_sasi, ky_sasl, ky_sasr, ky_svr, ky_sv, ky_sv2, ky_s1, ky_cs, ky_pop, ky_nth, ky_snt, ky_obj, ky_ari, ky_arl, ky_arr, ky_arn, ky_fv, ky_rcv, List.map_cons, List.map_nil, List.drop_succ_cons, List.drop_zero, Value.category, Nat.reduceAdd, Nat.reduceSub, true_and, and_true, true_or, or_true, reduceCtorEq, ite_true, ite_false, eq_self, Nat.reduceEqDiff, Nat.reduceLeDiff, nI_add, nI_1, nI_leI, nI_ltI, nI_eq, nI_clamp, kz_m1, kz_mn, kz_mn2, kz_n0, kz_0n, kz_0, kz_le0, kz_0lt, false_implies, true_implies, not_false_eq_true, not_true_eq_false, Nat.zero_le, kb_0, kz_10, kz_of, ky_sw, kz_mx, kz_mi, h0, hid, q3]) | (refine ⟨vp_in_nI (by omega) (by omega), ?_⟩) | (rw [if_neg (by decide)]; refine ⟨by decide, by decide, ?_⟩) | (refine ⟨by decide, by decide, ?_⟩) | (refine ⟨fun zc => ?_, fun zc => ?_⟩ <;> try (exfalso; omega)) | fail)
  clear hid
  -- 1
  have h0 : f (a 0) = some (.inr (8, [.null, .null, .null, .null, .null, .null, .null, .null, .null, .null, .null, .null, .null, .null, .null, .null, .int 0, .int 0])) := o
  intro q hq
  obtain ⟨b1, hB, e⟩ := kI_sw (t := 1) r.1 hq h0 (by omega) (.inr (3, [.int 0, .null, .null, .null, .null, .null, .null]))
  subst e
  have r := kAl_tr (Z := kL8) r hB fun j hj => ⟨hj, fun w => hj (by unfold kL8; omega)⟩
  have t0 := kAl_at hB (show ¬ 0 = 1 by omega) h0
  have D1 := kCP_al D (by decide) hB fun j w => by omega
  have o1 := kCq_al D o hB (by omega) fun j w => by omega
  have h1 : (ky_up f (b1 1) (.inr (3, [.int 0, .null, .null, .null, .null, .null, .null]))) (b1 0) = some (.inr (8, [.null, .null, .null, .null, .null, .null, .null, .null, .null, .null, .null, .null, .null, .null, .null, .null, .int 0, .int 0])) := o1
  simp only [← t0.1]
  repeat' (first | (refine kx24 (k := 1) h1 (by omega) hB.1 kz_same ?_) | (refine ⟨Nat.le_of_ble_eq_true rfl, ?_⟩) | (refine ky_ok_stp rfl ?_; simp (disch := first | omega | assumption) only [ky_stp, ky_inv, ky_ldi, ky_ldl, ky_ldd, ky_lda, ky_cl2, ky_st1, ky_st2, ky_s1i, ky_s2i, ky_s1l, ky_s2l, ky_sli, ky_s1f, ky_s2f, ky_s1d, ky_s2d, ky_sr, ky_sai, ky_sasi, ky_sasl, ky_sasr, ky_svr, ky_sv, ky_sv2, ky_s1, ky_cs, ky_pop, ky_nth, ky_snt, ky_obj, ky_ari, ky_arl, ky_arr, ky_arn, ky_fv, ky_rcv, List.map_cons, List.map_nil, List.drop_succ_cons, List.drop_zero, Value.category, Nat.reduceAdd, Nat.reduceSub, true_and, and_true, true_or, or_true, reduceCtorEq, ite_true, ite_false, eq_self, Nat.reduceEqDiff, Nat.reduceLeDiff, nI_add, nI_1, nI_leI, nI_ltI, nI_eq, nI_clamp, kz_m1, kz_mn, kz_mn2, kz_n0, kz_0n, kz_0, kz_le0, kz_0lt, false_implies, true_implies, not_false_eq_true, not_true_eq_false, Nat.zero_le, kb_0, kz_10, kz_of, ky_sw, kz_mx, kz_mi, h1, kz_7, kz_60, kz_same, kz_uu, kz_8, L700, L4260, L54, L61, n2]) | (refine ⟨vp_in_nI (by omega) (by omega), ?_⟩) | (rw [if_neg (by decide)]; refine ⟨by decide, by decide, ?_⟩) | (refine ⟨by decide, by decide, ?_⟩) | (refine ⟨fun zc => ?_, fun zc => ?_⟩ <;> try (exfalso; omega)) | fail)
  intro c1 y1 hC hCk hZ
  simp only [ky_aft, ky_vl, Nat.reduceAdd]
  have r := kAl_tr (Z := kL8) r hC fun j hj => ⟨hj, fun w => hj (by unfold kL8; omega)⟩
  have t0 := kAl_at hC (by omega) h1
  have D2 := kCP_al D1 (by decide) hC fun j w => by omega
  have o2 := kCq_al D1 o1 hC (by omega) fun j w => by omega
  have h2 : y1 (c1 0) = some (.inr (8, [.null, .null, .null, .null, .null, .null, .null, .null, .null, .null, .null, .null, .null, .null, .null, .null, .int 0, .int 0])) := o2
  simp only [← t0.1, ← hCk]
  repeat' (first | (refine ⟨Nat.le_of_ble_eq_true rfl, ?_⟩) | (refine ky_ok_stp rfl ?_; simp (disch := first | omega | assumption) only [ky_stp, ky_inv, ky_ldi, ky_ldl, ky_ldd, ky_lda, ky_cl2, ky_st1, ky_st2, ky_s1i, ky_s2i, ky_s1l, ky_s2l, ky_sli, ky_s1f, ky_s2f, ky_s1d, ky_s2d, ky_sr, ky_sai, ky_sasi, ky_sasl, ky_sasr, ky_svr, ky_sv, ky_sv2, ky_s1, ky_cs, ky_pop, ky_nth, ky_snt, ky_obj, ky_ari, ky_arl, ky_arr, ky_arn, ky_fv, ky_rcv, List.map_cons, List.map_nil, List.drop_succ_cons, List.drop_zero, Value.category, Nat.reduceAdd, Nat.reduceSub, true_and, and_true, true_or, or_true, reduceCtorEq, ite_true, ite_false, eq_self, Nat.reduceEqDiff, Nat.reduceLeDiff, nI_add, nI_1, nI_leI, nI_ltI, nI_eq, nI_clamp, kz_m1, kz_mn, kz_mn2, kz_n0, kz_0n, kz_0, kz_le0, kz_0lt, false_implies, true_implies, not_false_eq_true, not_true_eq_false, Nat.zero_le, kb_0, kz_10, kz_of, ky_sw, kz_mx, kz_mi, h2, kz_7, kz_60, kz_same, kz_uu, kz_8, L700, L4260, L54, L61, n2, q3]) | (refine ⟨vp_in_nI (by omega) (by omega), ?_⟩) | (rw [if_neg (by decide)]; refine ⟨by decide, by decide, ?_⟩) | (refine ⟨by decide, by decide, ?_⟩) | (refine ⟨fun zc => ?_, fun zc => ?_⟩ <;> try (exfalso; omega)) | fail)
  obtain ⟨d1, d12, d23, d30, d37, d39, d40, d42, d44, d46, d47, d48, d53, d54, d55, d56⟩ := D2
  have D3 : kCP c1 y1 12 := ⟨fun _ => hZ, fun w => absurd w (by omega), fun w => absurd w (by omega), fun w => absurd w (by omega), fun w => absurd w (by omega), fun w => absurd w (by omega), fun w => absurd w (by omega), fun w => absurd w (by omega), fun w => absurd w (by omega), fun w => absurd w (by omega), fun w => absurd w (by omega), fun w => absurd w (by omega), fun w => absurd w (by omega), fun w => absurd w (by omega), fun w => absurd w (by omega), fun w => absurd w (by omega)⟩
  have hU : kAl c1 y1 c1 (ky_up y1 (c1 0) (.inr (8, [.ref (c1 1), .null, .null, .null, .null, .null, .null, .null, .null, .null, .null, .null, .null, .null, .null, .null, .int 0, .int 0]))) (fun j => j = 0) := kAl_fr r.1 (kfr_up r.1 kfr_rf rfl)
  have D := kCP_al D3 (by decide) hU fun j w => by omega
  have r := kAl_tr (Z := kL8) r hU fun j hj => ⟨hj, fun w => hj (by unfold kL8; omega)⟩
  have o : kCq c1 (ky_up y1 (c1 0) (.inr (8, [.ref (c1 1), .null, .null, .null, .null, .null, .null, .null, .null, .null, .null, .null, .null, .null, .null, .null, .int 0, .int 0]))) 12 := kz_same
  clear hB hU D3 o1 t0 h1 D1 h2 o2 hC
  generalize (ky_up y1 (c1 0) (.inr (8, [.ref (c1 1), .null, .null, .null, .null, .null, .null, .null, .null, .null, .null, .null, .null, .null, .null, .null, .int 0, .int 0]))) = g1 at o D r ⊢
  -- 12
  have h0 : g1 (c1 0) = some (.inr (8, [.ref (c1 1), .null, .null, .null, .null, .null, .null, .null, .null, .null, .null, .null, .null, .null, .null, .null, .int 0, .int 0])) := o
  intro q hq
  obtain ⟨b12, hB, e⟩ := kI_sw (t := 12) r.1 hq h0 (by omega) (.inr (3, [.int 0, .null, .null, .null, .null, .null, .null]))
  subst e
  have r := kAl_tr (Z := kL8) r hB fun j hj => ⟨hj, fun w => hj (by unfold kL8; omega)⟩
  have t0 := kAl_at hB (show ¬ 0 = 12 by omega) h0
  have D1 := kCP_al D (by decide) hB fun j w => by omega
  have o1 := kCq_al D o hB (by omega) fun j w => by omega
  have h1 : (ky_up g1 (b12 12) (.inr (3, [.int 0, .null, .null, .null, .null, .null, .null]))) (b12 0) = some (.inr (8, [.ref (b12 1), .null, .null, .null, .null, .null, .null, .null, .null, .null, .null, .null, .null, .null, .null, .null, .int 0, .int 0])) := o1
  simp only [← t0.1]
  repeat' (first | (refine kx24 (k := 12) h1 (by omega) hB.1 kz_same ?_) | (refine ⟨Nat.le_of_ble_eq_true rfl, ?_⟩) | (refine ky_ok_stp rfl ?_; simp (disch := first | omega | assumption) only [ky_stp, ky_inv, ky_ldi, ky_ldl, ky_ldd, ky_lda, ky_cl2, ky_st1, ky_st2, ky_s1i, ky_s2i, ky_s1l, ky_s2l, ky_sli, ky_s1f, ky_s2f, ky_s1d, ky_s2d, ky_sr, ky_sai, ky_sasi, ky_sasl, ky_sasr, ky_svr, ky_sv, ky_sv2, ky_s1, ky_cs, ky_pop, ky_nth, ky_snt, ky_obj, ky_ari, ky_arl, ky_arr, ky_arn, ky_fv, ky_rcv, List.map_cons, List.map_nil, List.drop_succ_cons, List.drop_zero, Value.category, Nat.reduceAdd, Nat.reduceSub, true_and, and_true, true_or, or_true, reduceCtorEq, ite_true, ite_false, eq_self, Nat.reduceEqDiff, Nat.reduceLeDiff, nI_add, nI_1, nI_leI, nI_ltI, nI_eq, nI_clamp, kz_m1, kz_mn, kz_mn2, kz_n0, kz_0n, kz_0, kz_le0, kz_0lt, false_implies, true_implies, not_false_eq_true, not_true_eq_false, Nat.zero_le, kb_0, kz_10, kz_of, ky_sw, kz_mx, kz_mi, h1, kz_7, kz_60, kz_same, kz_uu, kz_8, L700, L4260, L54, L61, n2]) | (refine ⟨vp_in_nI (by omega) (by omega), ?_⟩) | (rw [if_neg (by decide)]; refine ⟨by decide, by decide, ?_⟩) | (refine ⟨by decide, by decide, ?_⟩) | (refine ⟨fun zc => ?_, fun zc => ?_⟩ <;> try (exfalso; omega)) | fail)
  intro c12 y12 hC hCk hZ
  simp only [ky_aft, ky_vl, Nat.reduceAdd]
  have r := kAl_tr (Z := kL8) r hC fun j hj => ⟨hj, fun w => hj (by unfold kL8; omega)⟩
  have t0 := kAl_at hC (by omega) h1
  have D2 := kCP_al D1 (by decide) hC fun j w => by omega
  have o2 := kCq_al D1 o1 hC (by omega) fun j w => by omega
  have h2 : y12 (c12 0) = some (.inr (8, [.ref (c12 1), .null, .null, .null, .null, .null, .null, .null, .null, .null, .null, .null, .null, .null, .null, .null, .int 0, .int 0])) := o2
  simp only [← t0.1, ← hCk]
  repeat' (first | (refine ⟨Nat.le_of_ble_eq_true rfl, ?_⟩) | (refine ky_ok_stp rfl ?_; simp (disch := first | omega | assumption) only [ky_stp, ky_inv, ky_ldi, ky_ldl, ky_ldd, ky_lda, ky_cl2, ky_st1, ky_st2, ky_s1i, ky_s2i, ky_s1l, ky_s2l, ky_sli, ky_s1f, ky_s2f, ky_s1d, ky_s2d, ky_sr, ky_sai, ky_sasi, ky_sasl, ky_sasr, ky_svr, ky_sv, ky_sv2, ky_s1, ky_cs, ky_pop, ky_nth, ky_snt, ky_obj, ky_ari, ky_arl, ky_arr, ky_arn, ky_fv, ky_rcv, List.map_cons, List.map_nil, List.drop_succ_cons, List.drop_zero, Value.category, Nat.reduceAdd, Nat.reduceSub, true_and, and_true, true_or, or_true, reduceCtorEq, ite_true, ite_false, eq_self, Nat.reduceEqDiff, Nat.reduceLeDiff, nI_add, nI_1, nI_leI, nI_ltI, nI_eq, nI_clamp, kz_m1, kz_mn, kz_mn2, kz_n0, kz_0n, kz_0, kz_le0, kz_0lt, false_implies, true_implies, not_false_eq_true, not_true_eq_false, Nat.zero_le, kb_0, kz_10, kz_of, ky_sw, kz_mx, kz_mi, h2, kz_7, kz_60, kz_same, kz_uu, kz_8, L700, L4260, L54, L61, n2, q2]) | (refine ⟨vp_in_nI (by omega) (by omega), ?_⟩) | (rw [if_neg (by decide)]; refine ⟨by decide, by decide, ?_⟩) | (refine ⟨by decide, by decide, ?_⟩) | (refine ⟨fun zc => ?_, fun zc => ?_⟩ <;> try (exfalso; omega)) | fail)
  obtain ⟨d1, d12, d23, d30, d37, d39, d40, d42, d44, d46, d47, d48, d53, d54, d55, d56⟩ := D2
  have D3 : kCP c12 y12 23 := ⟨fun _ => d1 (by omega), fun _ => ⟨hZ.choose, hZ.choose_spec.2⟩, fun w => absurd w (by omega), fun w => absurd w (by omega), fun w => absurd w (by omega), fun w => absurd w (by omega), fun w => absurd w (by omega), fun w => absurd w (by omega), fun w => absurd w (by omega), fun w => absurd w (by omega), fun w => absurd w (by omega), fun w => absurd w (by omega), fun w => absurd w (by omega), fun w => absurd w (by omega), fun w => absurd w (by omega), fun w => absurd w (by omega)⟩
  have hU : kAl c12 y12 c12 (ky_up y12 (c12 0) (.inr (8, [.ref (c12 1), .ref (c12 12), .null, .null, .null, .null, .null, .null, .null, .null, .null, .null, .null, .null, .null, .null, .int 0, .int 0]))) (fun j => j = 0) := kAl_fr r.1 (kfr_up r.1 kfr_rf rfl)
  have D := kCP_al D3 (by decide) hU fun j w => by omega
  have r := kAl_tr (Z := kL8) r hU fun j hj => ⟨hj, fun w => hj (by unfold kL8; omega)⟩
  have o : kCq c12 (ky_up y12 (c12 0) (.inr (8, [.ref (c12 1), .ref (c12 12), .null, .null, .null, .null, .null, .null, .null, .null, .null, .null, .null, .null, .null, .null, .int 0, .int 0]))) 23 := kz_same
  clear hB hU D3 o1 t0 h1 D1 h2 o2 hC
  generalize (ky_up y12 (c12 0) (.inr (8, [.ref (c12 1), .ref (c12 12), .null, .null, .null, .null, .null, .null, .null, .null, .null, .null, .null, .null, .null, .null, .int 0, .int 0]))) = g12 at o D r ⊢
  -- 23
  have h0 : g12 (c12 0) = some (.inr (8, [.ref (c12 1), .ref (c12 12), .null, .null, .null, .null, .null, .null, .null, .null, .null, .null, .null, .null, .null, .null, .int 0, .int 0])) := o
  intro q hq
  obtain ⟨b23, hB, e⟩ := kI_sw (t := 23) r.1 hq h0 (by omega) (.inr (2, [.null, .null, .null, .null, .null, .null]))
  subst e
  have r := kAl_tr (Z := kL8) r hB fun j hj => ⟨hj, fun w => hj (by unfold kL8; omega)⟩
  have t0 := kAl_at hB (show ¬ 0 = 23 by omega) h0
  have D1 := kCP_al D (by decide) hB fun j w => by omega
  have o1 := kCq_al D o hB (by omega) fun j w => by omega
  have h1 : (ky_up g12 (b23 23) (.inr (2, [.null, .null, .null, .null, .null, .null]))) (b23 0) = some (.inr (8, [.ref (b23 1), .ref (b23 12), .null, .null, .null, .null, .null, .null, .null, .null, .null, .null, .null, .null, .null, .null, .int 0, .int 0])) := o1
  simp only [← t0.1]
  repeat' (first | (refine kx9 (k := 23) h1 (by omega) hB.1 kz_same ?_) | (refine ⟨Nat.le_of_ble_eq_true rfl, ?_⟩) | (refine ky_ok_stp rfl ?_; simp (disch := first | omega | assumption) only [ky_stp, ky_inv, ky_ldi, ky_ldl, ky_ldd, ky_lda, ky_cl2, ky_st1, ky_st2, ky_s1i, ky_s2i, ky_s1l, ky_s2l, ky_sli, ky_s1f, ky_s2f, ky_s1d, ky_s2d, ky_sr, ky_sai, ky_sasi, ky_sasl, ky_sasr, ky_svr, ky_sv, ky_sv2, ky_s1, ky_cs, ky_pop, ky_nth, ky_snt, ky_obj, ky_ari, ky_arl, ky_arr, ky_arn, ky_fv, ky_rcv, List.map_cons, List.map_nil, List.drop_succ_cons, List.drop_zero, Value.category, Nat.reduceAdd, Nat.reduceSub, true_and, and_true, true_or, or_true, reduceCtorEq, ite_true, ite_false, eq_self, Nat.reduceEqDiff, Nat.reduceLeDiff, nI_add, nI_1, nI_leI, nI_ltI, nI_eq, nI_clamp, kz_m1, kz_mn, kz_mn2, kz_n0, kz_0n, kz_0, kz_le0, kz_0lt, false_implies, true_implies, not_false_eq_true, not_true_eq_false, Nat.zero_le, kb_0, kz_10, kz_of, ky_sw, kz_mx, kz_mi, h1, kz_7, kz_60, kz_same, kz_uu, kz_8, L700, L4260, L54, L61, n2]) | (refine ⟨vp_in_nI (by omega) (by omega), ?_⟩) | (rw [if_neg (by decide)]; refine ⟨by decide, by decide, ?_⟩) | (refine ⟨by decide, by decide, ?_⟩) | (refine ⟨fun zc => ?_, fun zc => ?_⟩ <;> try (exfalso; omega)) | fail)
  intro c23 y23 hC hCk hZ
  simp only [ky_aft, ky_vl, Nat.reduceAdd]
  have r := kAl_tr (Z := kL8) r hC fun j hj => ⟨hj, fun w => hj (by unfold kL8; omega)⟩
  have t0 := kAl_at hC (by omega) h1
  have D2 := kCP_al D1 (by decide) hC fun j w => by omega
  have o2 := kCq_al D1 o1 hC (by omega) fun j w => by omega
  have h2 : y23 (c23 0) = some (.inr (8, [.ref (c23 1), .ref (c23 12), .null, .null, .null, .null, .null, .null, .null, .null, .null, .null, .null, .null, .null, .null, .int 0, .int 0])) := o2
  simp only [← t0.1, ← hCk]
  repeat' (first | (refine ⟨Nat.le_of_ble_eq_true rfl, ?_⟩) | (refine ky_ok_stp rfl ?_; simp (disch := first | omega | assumption) only [ky_stp, ky_inv, ky_ldi, ky_ldl, ky_ldd, ky_lda, ky_cl2, ky_st1, ky_st2, ky_s1i, ky_s2i, ky_s1l, ky_s2l, ky_sli, ky_s1f, ky_s2f, ky_s1d, ky_s2d, ky_sr, ky_sai, ky_sasi, ky_sasl, ky_sasr, ky_svr, ky_sv, ky_sv2, ky_s1, ky_cs, ky_pop, ky_nth, ky_snt, ky_obj, ky_ari, ky_arl, ky_arr, ky_arn, ky_fv, ky_rcv, List.map_cons, List.map_nil, List.drop_succ_cons, List.drop_zero, Value.category, Nat.reduceAdd, Nat.reduceSub, true_and, and_true, true_or, or_true, reduceCtorEq, ite_true, ite_false, eq_self, Nat.reduceEqDiff, Nat.reduceLeDiff, nI_add, nI_1, nI_leI, nI_ltI, nI_eq, nI_clamp, kz_m1, kz_mn, kz_mn2, kz_n0, kz_0n, kz_0, kz_le0, kz_0lt, false_implies, true_implies, not_false_eq_true, not_true_eq_false, Nat.zero_le, kb_0, kz_10, kz_of, ky_sw, kz_mx, kz_mi, h2, kz_7, kz_60, kz_same, kz_uu, kz_8, L700, L4260, L54, L61, n2, q2]) | (refine ⟨vp_in_nI (by omega) (by omega), ?_⟩) | (rw [if_neg (by decide)]; refine ⟨by decide, by decide, ?_⟩) | (refine ⟨by decide, by decide, ?_⟩) | (refine ⟨fun zc => ?_, fun zc => ?_⟩ <;> try (exfalso; omega)) | fail)
  obtain ⟨d1, d12, d23, d30, d37, d39, d40, d42, d44, d46, d47, d48, d53, d54, d55, d56⟩ := D2
  have D3 : kCP c23 y23 30 := ⟨fun _ => d1 (by omega), fun _ => d12 (by omega), fun _ => hZ, fun w => absurd w (by omega), fun w => absurd w (by omega), fun w => absurd w (by omega), fun w => absurd w (by omega), fun w => absurd w (by omega), fun w => absurd w (by omega), fun w => absurd w (by omega), fun w => absurd w (by omega), fun w => absurd w (by omega), fun w => absurd w (by omega), fun w => absurd w (by omega), fun w => absurd w (by omega), fun w => absurd w (by omega)⟩
  have hU : kAl c23 y23 c23 (ky_up y23 (c23 0) (.inr (8, [.ref (c23 1), .ref (c23 12), .ref (c23 23), .null, .null, .null, .null, .null, .null, .null, .null, .null, .null, .null, .null, .null, .int 0, .int 0]))) (fun j => j = 0) := kAl_fr r.1 (kfr_up r.1 kfr_rf rfl)
  have D := kCP_al D3 (by decide) hU fun j w => by omega
  have r := kAl_tr (Z := kL8) r hU fun j hj => ⟨hj, fun w => hj (by unfold kL8; omega)⟩
  have o : kCq c23 (ky_up y23 (c23 0) (.inr (8, [.ref (c23 1), .ref (c23 12), .ref (c23 23), .null, .null, .null, .null, .null, .null, .null, .null, .null, .null, .null, .null, .null, .int 0, .int 0]))) 30 := kz_same
  clear hB hU D3 o1 t0 h1 D1 h2 o2 hC
  generalize (ky_up y23 (c23 0) (.inr (8, [.ref (c23 1), .ref (c23 12), .ref (c23 23), .null, .null, .null, .null, .null, .null, .null, .null, .null, .null, .null, .null, .null, .int 0, .int 0]))) = g23 at o D r ⊢
  -- 30
  have h0 : g23 (c23 0) = some (.inr (8, [.ref (c23 1), .ref (c23 12), .ref (c23 23), .null, .null, .null, .null, .null, .null, .null, .null, .null, .null, .null, .null, .null, .int 0, .int 0])) := o
  intro q hq
  obtain ⟨b30, hB, e⟩ := kI_sw (t := 30) r.1 hq h0 (by omega) (.inr (2, [.null, .null, .null, .null, .null, .null]))
  subst e
  have r := kAl_tr (Z := kL8) r hB fun j hj => ⟨hj, fun w => hj (by unfold kL8; omega)⟩
  have t0 := kAl_at hB (show ¬ 0 = 30 by omega) h0
  have D1 := kCP_al D (by decide) hB fun j w => by omega
  have o1 := kCq_al D o hB (by omega) fun j w => by omega
  have h1 : (ky_up g23 (b30 30) (.inr (2, [.null, .null, .null, .null, .null, .null]))) (b30 0) = some (.inr (8, [.ref (b30 1), .ref (b30 12), .ref (b30 23), .null, .null, .null, .null, .null, .null, .null, .null, .null, .null, .null, .null, .null, .int 0, .int 0])) := o1
  simp only [← t0.1]
  repeat' (first | (refine kx9 (k := 30) h1 (by omega) hB.1 kz_same ?_) | (refine ⟨Nat.le_of_ble_eq_true rfl, ?_⟩) | (refine ky_ok_stp rfl ?_; simp (disch := first | omega | assumption) only [ky_stp, ky_inv, ky_ldi, ky_ldl, ky_ldd, ky_lda, ky_cl2, ky_st1, ky_st2, ky_s1i, ky_s2i, ky_s1l, ky_s2l, ky_sli, ky_s1f, ky_s2f, ky_s1d, ky_s2d, ky_sr, ky_sai, ky_sasi, ky_sasl, ky_sasr, ky_svr, ky_sv, ky_sv2, ky_s1, ky_cs, ky_pop, ky_nth, ky_snt, ky_obj, ky_ari, ky_arl, ky_arr, ky_arn, ky_fv, ky_rcv, List.map_cons, List.map_nil, List.drop_succ_cons, List.drop_zero, Value.category, Nat.reduceAdd, Nat.reduceSub, true_and, and_true, true_or, or_true, reduceCtorEq, ite_true, ite_false, eq_self, Nat.reduceEqDiff, Nat.reduceLeDiff, nI_add, nI_1, nI_leI, nI_ltI, nI_eq, nI_clamp, kz_m1, kz_mn, kz_mn2, kz_n0, kz_0n, kz_0, kz_le0, kz_0lt, false_implies, true_implies, not_false_eq_true, not_true_eq_false, Nat.zero_le, kb_0, kz_10, kz_of, ky_sw, kz_mx, kz_mi, h1, kz_7, kz_60, kz_same, kz_uu, kz_8, L700, L4260, L54, L61, n2]) | (refine ⟨vp_in_nI (by omega) (by omega), ?_⟩) | (rw [if_neg (by decide)]; refine ⟨by decide, by decide, ?_⟩) | (refine ⟨by decide, by decide, ?_⟩) | (refine ⟨fun zc => ?_, fun zc => ?_⟩ <;> try (exfalso; omega)) | fail)
  intro c30 y30 hC hCk hZ
  simp only [ky_aft, ky_vl, Nat.reduceAdd]
  have r := kAl_tr (Z := kL8) r hC fun j hj => ⟨hj, fun w => hj (by unfold kL8; omega)⟩
  have t0 := kAl_at hC (by omega) h1
  have D2 := kCP_al D1 (by decide) hC fun j w => by omega
  have o2 := kCq_al D1 o1 hC (by omega) fun j w => by omega
  have h2 : y30 (c30 0) = some (.inr (8, [.ref (c30 1), .ref (c30 12), .ref (c30 23), .null, .null, .null, .null, .null, .null, .null, .null, .null, .null, .null, .null, .null, .int 0, .int 0])) := o2
  simp only [← t0.1, ← hCk]
  repeat' (first | (refine ⟨Nat.le_of_ble_eq_true rfl, ?_⟩) | (refine ky_ok_stp rfl ?_; simp (disch := first | omega | assumption) only [ky_stp, ky_inv, ky_ldi, ky_ldl, ky_ldd, ky_lda, ky_cl2, ky_st1, ky_st2, ky_s1i, ky_s2i, ky_s1l, ky_s2l, ky_sli, ky_s1f, ky_s2f, ky_s1d, ky_s2d, ky_sr, ky_sai, ky_sasi, ky_sasl, ky_sasr, ky_svr, ky_sv, ky_sv2, ky_s1, ky_cs, ky_pop, ky_nth, ky_snt, ky_obj, ky_ari, ky_arl, ky_arr, ky_arn, ky_fv, ky_rcv, List.map_cons, List.map_nil, List.drop_succ_cons, List.drop_zero, Value.category, Nat.reduceAdd, Nat.reduceSub, true_and, and_true, true_or, or_true, reduceCtorEq, ite_true, ite_false, eq_self, Nat.reduceEqDiff, Nat.reduceLeDiff, nI_add, nI_1, nI_leI, nI_ltI, nI_eq, nI_clamp, kz_m1, kz_mn, kz_mn2, kz_n0, kz_0n, kz_0, kz_le0, kz_0lt, false_implies, true_implies, not_false_eq_true, not_true_eq_false, Nat.zero_le, kb_0, kz_10, kz_of, ky_sw, kz_mx, kz_mi, h2, kz_7, kz_60, kz_same, kz_uu, kz_8, L700, L4260, L54, L61, n2, q1]) | (refine ⟨vp_in_nI (by omega) (by omega), ?_⟩) | (rw [if_neg (by decide)]; refine ⟨by decide, by decide, ?_⟩) | (refine ⟨by decide, by decide, ?_⟩) | (refine ⟨fun zc => ?_, fun zc => ?_⟩ <;> try (exfalso; omega)) | fail)
  obtain ⟨d1, d12, d23, d30, d37, d39, d40, d42, d44, d46, d47, d48, d53, d54, d55, d56⟩ := D2
  have D3 : kCP c30 y30 37 := ⟨fun _ => d1 (by omega), fun _ => d12 (by omega), fun _ => d23 (by omega), fun _ => hZ, fun w => absurd w (by omega), fun w => absurd w (by omega), fun w => absurd w (by omega), fun w => absurd w (by omega), fun w => absurd w (by omega), fun w => absurd w (by omega), fun w => absurd w (by omega), fun w => absurd w (by omega), fun w => absurd w (by omega), fun w => absurd w (by omega), fun w => absurd w (by omega), fun w => absurd w (by omega)⟩
  have hU : kAl c30 y30 c30 (ky_up y30 (c30 0) (.inr (8, [.ref (c30 1), .ref (c30 12), .ref (c30 23), .ref (c30 30), .null, .null, .null, .null, .null, .null, .null, .null, .null, .null, .null, .null, .int 0, .int 0]))) (fun j => j = 0) := kAl_fr r.1 (kfr_up r.1 kfr_rf rfl)
  have D := kCP_al D3 (by decide) hU fun j w => by omega
  have r := kAl_tr (Z := kL8) r hU fun j hj => ⟨hj, fun w => hj (by unfold kL8; omega)⟩
  have o : kCq c30 (ky_up y30 (c30 0) (.inr (8, [.ref (c30 1), .ref (c30 12), .ref (c30 23), .ref (c30 30), .null, .null, .null, .null, .null, .null, .null, .null, .null, .null, .null, .null, .int 0, .int 0]))) 37 := kz_same
  clear hB hU D3 o1 t0 h1 D1 h2 o2 hC
  generalize (ky_up y30 (c30 0) (.inr (8, [.ref (c30 1), .ref (c30 12), .ref (c30 23), .ref (c30 30), .null, .null, .null, .null, .null, .null, .null, .null, .null, .null, .null, .null, .int 0, .int 0]))) = g30 at o D r ⊢
  -- 37
  have h0 : g30 (c30 0) = some (.inr (8, [.ref (c30 1), .ref (c30 12), .ref (c30 23), .ref (c30 30), .null, .null, .null, .null, .null, .null, .null, .null, .null, .null, .null, .null, .int 0, .int 0])) := o
  intro q hq
  obtain ⟨b37, hB, e⟩ := kI_sw (t := 37) r.1 hq h0 (by omega) (.inr (1, [.int 0, .int 0, .null]))
  subst e
  have r := kAl_tr (Z := kL8) r hB fun j hj => ⟨hj, fun w => hj (by unfold kL8; omega)⟩
  have t0 := kAl_at hB (show ¬ 0 = 37 by omega) h0
  have D1 := kCP_al D (by decide) hB fun j w => by omega
  have o1 := kCq_al D o hB (by omega) fun j w => by omega
  have h1 : (ky_up g30 (b37 37) (.inr (1, [.int 0, .int 0, .null]))) (b37 0) = some (.inr (8, [.ref (b37 1), .ref (b37 12), .ref (b37 23), .ref (b37 30), .null, .null, .null, .null, .null, .null, .null, .null, .null, .null, .null, .null, .int 0, .int 0])) := o1
  simp only [← t0.1]
  repeat' (first | (refine kx5 (u := fun _ => kZ0) h1 hB.1 kz_same ?_) | (refine ⟨Nat.le_of_ble_eq_true rfl, ?_⟩) | (refine ky_ok_stp rfl ?_; simp (disch := first | omega | assumption) only [ky_stp, ky_inv, ky_ldi, ky_ldl, ky_ldd, ky_lda, ky_cl2, ky_st1, ky_st2, ky_s1i, ky_s2i, ky_s1l, ky_s2l, ky_sli, ky_s1f, ky_s2f, ky_s1d, ky_s2d, ky_sr, ky_sai, ky_sasi, ky_sasl, ky_sasr, ky_svr, ky_sv, ky_sv2, ky_s1, ky_cs, ky_pop, ky_nth, ky_snt, ky_obj, ky_ari, ky_arl, ky_arr, ky_arn, ky_fv, ky_rcv, List.map_cons, List.map_nil, List.drop_succ_cons, List.drop_zero, Value.category, Nat.reduceAdd, Nat.reduceSub, true_and, and_true, true_or, or_true, reduceCtorEq, ite_true, ite_false, eq_self, Nat.reduceEqDiff, Nat.reduceLeDiff, nI_add, nI_1, nI_leI, nI_ltI, nI_eq, nI_clamp, kz_m1, kz_mn, kz_mn2, kz_n0, kz_0n, kz_0, kz_le0, kz_0lt, false_implies, true_implies, not_false_eq_true, not_true_eq_false, Nat.zero_le, kb_0, kz_10, kz_of, ky_sw, kz_mx, kz_mi, h1, kz_7, kz_60, kz_same, kz_uu, kz_8, L700, L4260, L54, L61, n2]) | (refine ⟨vp_in_nI (by omega) (by omega), ?_⟩) | (rw [if_neg (by decide)]; refine ⟨by decide, by decide, ?_⟩) | (refine ⟨by decide, by decide, ?_⟩) | (refine ⟨fun zc => ?_, fun zc => ?_⟩ <;> try (exfalso; omega)) | fail)
  intro c37 y37 hC hCk hZ
  simp only [ky_aft, ky_vl, Nat.reduceAdd]
  have r := kAl_tr (Z := kL8) r hC fun j hj => ⟨hj, fun w => hj (by unfold kL8; omega)⟩
  have t0 := kAl_at hC (by omega) h1
  have D2 := kCP_al D1 (by decide) hC fun j w => by omega
  have o2 := kCq_al D1 o1 hC (by omega) fun j w => by omega
  have h2 : y37 (c37 0) = some (.inr (8, [.ref (c37 1), .ref (c37 12), .ref (c37 23), .ref (c37 30), .null, .null, .null, .null, .null, .null, .null, .null, .null, .null, .null, .null, .int 0, .int 0])) := o2
  simp only [← t0.1, ← hCk]
  repeat' (first | (refine ⟨Nat.le_of_ble_eq_true rfl, ?_⟩) | (refine ky_ok_stp rfl ?_; simp (disch := first | omega | assumption) only [ky_stp, ky_inv, ky_ldi, ky_ldl, ky_ldd, ky_lda, ky_cl2, ky_st1, ky_st2, ky_s1i, ky_s2i, ky_s1l, ky_s2l, ky_sli, ky_s1f, ky_s2f, ky_s1d, ky_s2d, ky_sr, ky_sai, ky_sasi, ky_sasl, ky_sasr, ky_svr, ky_sv, ky_sv2, ky_s1, ky_cs, ky_pop, ky_nth, ky_snt, ky_obj, ky_ari, ky_arl, ky_arr, ky_arn, ky_fv, ky_rcv, List.map_cons, List.map_nil, List.drop_succ_cons, List.drop_zero, Value.category, Nat.reduceAdd, Nat.reduceSub, true_and, and_true, true_or, or_true, reduceCtorEq, ite_true, ite_false, eq_self, Nat.reduceEqDiff, Nat.reduceLeDiff, nI_add, nI_1, nI_leI, nI_ltI, nI_eq, nI_clamp, kz_m1, kz_mn, kz_mn2, kz_n0, kz_0n, kz_0, kz_le0, kz_0lt, false_implies, true_implies, not_false_eq_true, not_true_eq_false, Nat.zero_le, kb_0, kz_10, kz_of, ky_sw, kz_mx, kz_mi, h2, kz_7, kz_60, kz_same, kz_uu, kz_8, L700, L4260, L54, L61, n2]) | (refine ⟨vp_in_nI (by omega) (by omega), ?_⟩) | (rw [if_neg (by decide)]; refine ⟨by decide, by decide, ?_⟩) | (refine ⟨by decide, by decide, ?_⟩) | (refine ⟨fun zc => ?_, fun zc => ?_⟩ <;> try (exfalso; omega)) | fail)
  obtain ⟨d1, d12, d23, d30, d37, d39, d40, d42, d44, d46, d47, d48, d53, d54, d55, d56⟩ := D2
  have D3 : kCP c37 y37 39 := ⟨fun _ => d1 (by omega), fun _ => d12 (by omega), fun _ => d23 (by omega), fun _ => d30 (by omega), fun _ => hZ, fun w => absurd w (by omega), fun w => absurd w (by omega), fun w => absurd w (by omega), fun w => absurd w (by omega), fun w => absurd w (by omega), fun w => absurd w (by omega), fun w => absurd w (by omega), fun w => absurd w (by omega), fun w => absurd w (by omega), fun w => absurd w (by omega), fun w => absurd w (by omega)⟩
  have hU : kAl c37 y37 c37 (ky_up y37 (c37 0) (.inr (8, [.ref (c37 1), .ref (c37 12), .ref (c37 23), .ref (c37 30), .ref (c37 37), .null, .null, .null, .null, .null, .null, .null, .null, .null, .null, .null, .int 0, .int 0]))) (fun j => j = 0) := kAl_fr r.1 (kfr_up r.1 kfr_rf rfl)
  have D := kCP_al D3 (by decide) hU fun j w => by omega
  have r := kAl_tr (Z := kL8) r hU fun j hj => ⟨hj, fun w => hj (by unfold kL8; omega)⟩
  have o : kCq c37 (ky_up y37 (c37 0) (.inr (8, [.ref (c37 1), .ref (c37 12), .ref (c37 23), .ref (c37 30), .ref (c37 37), .null, .null, .null, .null, .null, .null, .null, .null, .null, .null, .null, .int 0, .int 0]))) 39 := kz_same
  clear hB hU D3 o1 t0 h1 D1 h2 o2 hC
  generalize (ky_up y37 (c37 0) (.inr (8, [.ref (c37 1), .ref (c37 12), .ref (c37 23), .ref (c37 30), .ref (c37 37), .null, .null, .null, .null, .null, .null, .null, .null, .null, .null, .null, .int 0, .int 0]))) = g37 at o D r ⊢
  -- 39
  have h0 : g37 (c37 0) = some (.inr (8, [.ref (c37 1), .ref (c37 12), .ref (c37 23), .ref (c37 30), .ref (c37 37), .null, .null, .null, .null, .null, .null, .null, .null, .null, .null, .null, .int 0, .int 0])) := o
  intro q hq
  obtain ⟨b39, hB, e⟩ := kI_sw (t := 39) r.1 hq h0 (by omega) (.inl (4, 2, .inr (.inr (.inr (.inr fun _ => none)))))
  subst e
  have r := kAl_tr (Z := kL8) r hB fun j hj => ⟨hj, fun w => hj (by unfold kL8; omega)⟩
  have t0 := kAl_at hB (show ¬ 0 = 39 by omega) h0
  have D1 := kCP_al D (by decide) hB fun j w => by omega
  have o1 := kCq_al D o hB (by omega) fun j w => by omega
  have h1 : (ky_up g37 (b39 39) (.inl (4, 2, .inr (.inr (.inr (.inr fun _ => none)))))) (b39 0) = some (.inr (8, [.ref (b39 1), .ref (b39 12), .ref (b39 23), .ref (b39 30), .ref (b39 37), .null, .null, .null, .null, .null, .null, .null, .null, .null, .null, .null, .int 0, .int 0])) := o1
  simp only [← t0.1]
  repeat' (first | (refine ⟨Nat.le_of_ble_eq_true rfl, ?_⟩) | (refine ky_ok_stp rfl ?_; simp (disch := first | omega | assumption) only [ky_stp, ky_inv, ky_ldi, ky_ldl, ky_ldd, ky_lda, ky_cl2, ky_st1, ky_st2, ky_s1i, ky_s2i, ky_s1l, ky_s2l, ky_sli, ky_s1f, ky_s2f, ky_s1d, ky_s2d, ky_sr, ky_sai, ky_sasi, ky_sasl, ky_sasr, ky_svr, ky_sv, ky_sv2, ky_s1, ky_cs, ky_pop, ky_nth, ky_snt, ky_obj, ky_ari, ky_arl, ky_arr, ky_arn, ky_fv, ky_rcv, List.map_cons, List.map_nil, List.drop_succ_cons, List.drop_zero, Value.category, Nat.reduceAdd, Nat.reduceSub, true_and, and_true, true_or, or_true, reduceCtorEq, ite_true, ite_false, eq_self, Nat.reduceEqDiff, Nat.reduceLeDiff, nI_add, nI_1, nI_leI, nI_ltI, nI_eq, nI_clamp, kz_m1, kz_mn, kz_mn2, kz_n0, kz_0n, kz_0, kz_le0, kz_0lt, false_implies, true_implies, not_false_eq_true, not_true_eq_false, Nat.zero_le, kb_0, kz_10, kz_of, ky_sw, kz_mx, kz_mi, h1, kz_7, kz_60, kz_same, kz_uu, kz_8, L700, L4260, L54, L61, n2, q0]) | (refine ⟨vp_in_nI (by omega) (by omega), ?_⟩) | (rw [if_neg (by decide)]; refine ⟨by decide, by decide, ?_⟩) | (refine ⟨by decide, by decide, ?_⟩) | (refine ⟨fun zc => ?_, fun zc => ?_⟩ <;> try (exfalso; omega)) | fail)
  obtain ⟨d1, d12, d23, d30, d37, d39, d40, d42, d44, d46, d47, d48, d53, d54, d55, d56⟩ := D1
  have D3 : kCP b39 (ky_up g37 (b39 39) (.inl (4, 2, .inr (.inr (.inr (.inr fun _ => none)))))) 40 := ⟨fun _ => d1 (by omega), fun _ => d12 (by omega), fun _ => d23 (by omega), fun _ => d30 (by omega), fun _ => d37 (by omega), fun _ => kz_same, fun w => absurd w (by omega), fun w => absurd w (by omega), fun w => absurd w (by omega), fun w => absurd w (by omega), fun w => absurd w (by omega), fun w => absurd w (by omega), fun w => absurd w (by omega), fun w => absurd w (by omega), fun w => absurd w (by omega), fun w => absurd w (by omega)⟩
  have hU : kAl b39 (ky_up g37 (b39 39) (.inl (4, 2, .inr (.inr (.inr (.inr fun _ => none)))))) b39 (ky_up (ky_up g37 (b39 39) (.inl (4, 2, .inr (.inr (.inr (.inr fun _ => none)))))) (b39 0) (.inr (8, [.ref (b39 1), .ref (b39 12), .ref (b39 23), .ref (b39 30), .ref (b39 37), .ref (b39 39), .null, .null, .null, .null, .null, .null, .null, .null, .null, .null, .int 0, .int 0]))) (fun j => j = 0) := kAl_fr r.1 (kfr_up r.1 kfr_rf rfl)
  have D := kCP_al D3 (by decide) hU fun j w => by omega
  have r := kAl_tr (Z := kL8) r hU fun j hj => ⟨hj, fun w => hj (by unfold kL8; omega)⟩
  have o : kCq b39 (ky_up (ky_up g37 (b39 39) (.inl (4, 2, .inr (.inr (.inr (.inr fun _ => none)))))) (b39 0) (.inr (8, [.ref (b39 1), .ref (b39 12), .ref (b39 23), .ref (b39 30), .ref (b39 37), .ref (b39 39), .null, .null, .null, .null, .null, .null, .null, .null, .null, .null, .int 0, .int 0]))) 40 := kz_same
  clear hB hU D3 o1 t0 h1
  generalize (ky_up (ky_up g37 (b39 39) (.inl (4, 2, .inr (.inr (.inr (.inr fun _ => none)))))) (b39 0) (.inr (8, [.ref (b39 1), .ref (b39 12), .ref (b39 23), .ref (b39 30), .ref (b39 37), .ref (b39 39), .null, .null, .null, .null, .null, .null, .null, .null, .null, .null, .int 0, .int 0]))) = g39 at o D r ⊢
  -- 40
  have h0 : g39 (b39 0) = some (.inr (8, [.ref (b39 1), .ref (b39 12), .ref (b39 23), .ref (b39 30), .ref (b39 37), .ref (b39 39), .null, .null, .null, .null, .null, .null, .null, .null, .null, .null, .int 0, .int 0])) := o
  intro q hq
  obtain ⟨b40, hB, e⟩ := kI_sw (t := 40) r.1 hq h0 (by omega) (.inr (0, [.int 0, .null]))
  subst e
  have r := kAl_tr (Z := kL8) r hB fun j hj => ⟨hj, fun w => hj (by unfold kL8; omega)⟩
  have t0 := kAl_at hB (show ¬ 0 = 40 by omega) h0
  have D1 := kCP_al D (by decide) hB fun j w => by omega
  have o1 := kCq_al D o hB (by omega) fun j w => by omega
  have h1 : (ky_up g39 (b40 40) (.inr (0, [.int 0, .null]))) (b40 0) = some (.inr (8, [.ref (b40 1), .ref (b40 12), .ref (b40 23), .ref (b40 30), .ref (b40 37), .ref (b40 39), .null, .null, .null, .null, .null, .null, .null, .null, .null, .null, .int 0, .int 0])) := o1
  simp only [← t0.1]
  repeat' (first | (refine kx0 (k := 40) (lim := 700) h1 hB.1 (by omega) (by omega) kz_same ?_) | (refine ⟨Nat.le_of_ble_eq_true rfl, ?_⟩) | (refine ky_ok_stp rfl ?_; simp (disch := first | omega | assumption) only [ky_stp, ky_inv, ky_ldi, ky_ldl, ky_ldd, ky_lda, ky_cl2, ky_st1, ky_st2, ky_s1i, ky_s2i, ky_s1l, ky_s2l, ky_sli, ky_s1f, ky_s2f, ky_s1d, ky_s2d, ky_sr, ky_sai, ky_sasi, ky_sasl, ky_sasr, ky_svr, ky_sv, ky_sv2, ky_s1, ky_cs, ky_pop, ky_nth, ky_snt, ky_obj, ky_ari, ky_arl, ky_arr, ky_arn, ky_fv, ky_rcv, List.map_cons, List.map_nil, List.drop_succ_cons, List.drop_zero, Value.category, Nat.reduceAdd, Nat.reduceSub, true_and, and_true, true_or, or_true, reduceCtorEq, ite_true, ite_false, eq_self, Nat.reduceEqDiff, Nat.reduceLeDiff, nI_add, nI_1, nI_leI, nI_ltI, nI_eq, nI_clamp, kz_m1, kz_mn, kz_mn2, kz_n0, kz_0n, kz_0, kz_le0, kz_0lt, false_implies, true_implies, not_false_eq_true, not_true_eq_false, Nat.zero_le, kb_0, kz_10, kz_of, ky_sw, kz_mx, kz_mi, h1, kz_7, kz_60, kz_same, kz_uu, kz_8, L700, L4260, L54, L61, n2]) | (refine ⟨vp_in_nI (by omega) (by omega), ?_⟩) | (rw [if_neg (by decide)]; refine ⟨by decide, by decide, ?_⟩) | (refine ⟨by decide, by decide, ?_⟩) | (refine ⟨fun zc => ?_, fun zc => ?_⟩ <;> try (exfalso; omega)) | fail)
  intro c40 y40 hC hCk hZ
  simp only [ky_aft, ky_vl, Nat.reduceAdd]
  have r := kAl_tr (Z := kL8) r hC fun j hj => ⟨hj, fun w => hj (by unfold kL8; omega)⟩
  have t0 := kAl_at hC (by omega) h1
  have D2 := kCP_al D1 (by decide) hC fun j w => by omega
  have o2 := kCq_al D1 o1 hC (by omega) fun j w => by omega
  have h2 : y40 (c40 0) = some (.inr (8, [.ref (c40 1), .ref (c40 12), .ref (c40 23), .ref (c40 30), .ref (c40 37), .ref (c40 39), .null, .null, .null, .null, .null, .null, .null, .null, .null, .null, .int 0, .int 0])) := o2
  simp only [← t0.1, ← hCk]
  repeat' (first | (refine ⟨Nat.le_of_ble_eq_true rfl, ?_⟩) | (refine ky_ok_stp rfl ?_; simp (disch := first | omega | assumption) only [ky_stp, ky_inv, ky_ldi, ky_ldl, ky_ldd, ky_lda, ky_cl2, ky_st1, ky_st2, ky_s1i, ky_s2i, ky_s1l, ky_s2l, ky_sli, ky_s1f, ky_s2f, ky_s1d, ky_s2d, ky_sr, ky_sai, ky_sasi, ky_sasl, ky_sasr, ky_svr, ky_sv, ky_sv2, ky_s1, ky_cs, ky_pop, ky_nth, ky_snt, ky_obj, ky_ari, ky_arl, ky_arr, ky_arn, ky_fv, ky_rcv, List.map_cons, List.map_nil, List.drop_succ_cons, List.drop_zero, Value.category, Nat.reduceAdd, Nat.reduceSub, true_and, and_true, true_or, or_true, reduceCtorEq, ite_true, ite_false, eq_self, Nat.reduceEqDiff, Nat.reduceLeDiff, nI_add, nI_1, nI_leI, nI_ltI, nI_eq, nI_clamp, kz_m1, kz_mn, kz_mn2, kz_n0, kz_0n, kz_0, kz_le0, kz_0lt, false_implies, true_implies, not_false_eq_true, not_true_eq_false, Nat.zero_le, kb_0, kz_10, kz_of, ky_sw, kz_mx, kz_mi, h2, kz_7, kz_60, kz_same, kz_uu, kz_8, L700, L4260, L54, L61, n2, q0]) | (refine ⟨vp_in_nI (by omega) (by omega), ?_⟩) | (rw [if_neg (by decide)]; refine ⟨by decide, by decide, ?_⟩) | (refine ⟨by decide, by decide, ?_⟩) | (refine ⟨fun zc => ?_, fun zc => ?_⟩ <;> try (exfalso; omega)) | fail)
  obtain ⟨d1, d12, d23, d30, d37, d39, d40, d42, d44, d46, d47, d48, d53, d54, d55, d56⟩ := D2
  have D3 : kCP c40 y40 42 := ⟨fun _ => d1 (by omega), fun _ => d12 (by omega), fun _ => d23 (by omega), fun _ => d30 (by omega), fun _ => d37 (by omega), fun _ => d39 (by omega), fun _ => hZ, fun w => absurd w (by omega), fun w => absurd w (by omega), fun w => absurd w (by omega), fun w => absurd w (by omega), fun w => absurd w (by omega), fun w => absurd w (by omega), fun w => absurd w (by omega), fun w => absurd w (by omega), fun w => absurd w (by omega)⟩
  have hU : kAl c40 y40 c40 (ky_up y40 (c40 0) (.inr (8, [.ref (c40 1), .ref (c40 12), .ref (c40 23), .ref (c40 30), .ref (c40 37), .ref (c40 39), .ref (c40 40), .null, .null, .null, .null, .null, .null, .null, .null, .null, .int 0, .int 0]))) (fun j => j = 0) := kAl_fr r.1 (kfr_up r.1 kfr_rf rfl)
  have D := kCP_al D3 (by decide) hU fun j w => by omega
  have r := kAl_tr (Z := kL8) r hU fun j hj => ⟨hj, fun w => hj (by unfold kL8; omega)⟩
  have o : kCq c40 (ky_up y40 (c40 0) (.inr (8, [.ref (c40 1), .ref (c40 12), .ref (c40 23), .ref (c40 30), .ref (c40 37), .ref (c40 39), .ref (c40 40), .null, .null, .null, .null, .null, .null, .null, .null, .null, .int 0, .int 0]))) 42 := kz_same
  clear hB hU D3 o1 t0 h1 D1 h2 o2 hC
  generalize (ky_up y40 (c40 0) (.inr (8, [.ref (c40 1), .ref (c40 12), .ref (c40 23), .ref (c40 30), .ref (c40 37), .ref (c40 39), .ref (c40 40), .null, .null, .null, .null, .null, .null, .null, .null, .null, .int 0, .int 0]))) = g40 at o D r ⊢
  -- 42
  have h0 : g40 (c40 0) = some (.inr (8, [.ref (c40 1), .ref (c40 12), .ref (c40 23), .ref (c40 30), .ref (c40 37), .ref (c40 39), .ref (c40 40), .null, .null, .null, .null, .null, .null, .null, .null, .null, .int 0, .int 0])) := o
  intro q hq
  obtain ⟨b42, hB, e⟩ := kI_sw (t := 42) r.1 hq h0 (by omega) (.inr (0, [.int 0, .null]))
  subst e
  have r := kAl_tr (Z := kL8) r hB fun j hj => ⟨hj, fun w => hj (by unfold kL8; omega)⟩
  have t0 := kAl_at hB (show ¬ 0 = 42 by omega) h0
  have D1 := kCP_al D (by decide) hB fun j w => by omega
  have o1 := kCq_al D o hB (by omega) fun j w => by omega
  have h1 : (ky_up g40 (b42 42) (.inr (0, [.int 0, .null]))) (b42 0) = some (.inr (8, [.ref (b42 1), .ref (b42 12), .ref (b42 23), .ref (b42 30), .ref (b42 37), .ref (b42 39), .ref (b42 40), .null, .null, .null, .null, .null, .null, .null, .null, .null, .int 0, .int 0])) := o1
  simp only [← t0.1]
  repeat' (first | (refine kx0 (k := 42) (lim := 4260) h1 hB.1 (by omega) (by omega) kz_same ?_) | (refine ⟨Nat.le_of_ble_eq_true rfl, ?_⟩) | (refine ky_ok_stp rfl ?_; simp (disch := first | omega | assumption) only [ky_stp, ky_inv, ky_ldi, ky_ldl, ky_ldd, ky_lda, ky_cl2, ky_st1, ky_st2, ky_s1i, ky_s2i, ky_s1l, ky_s2l, ky_sli, ky_s1f, ky_s2f, ky_s1d, ky_s2d, ky_sr, ky_sai, ky_sasi, ky_sasl, ky_sasr, ky_svr, ky_sv, ky_sv2, ky_s1, ky_cs, ky_pop, ky_nth, ky_snt, ky_obj, ky_ari, ky_arl, ky_arr, ky_arn, ky_fv, ky_rcv, List.map_cons, List.map_nil, List.drop_succ_cons, List.drop_zero, Value.category, Nat.reduceAdd, Nat.reduceSub, true_and, and_true, true_or, or_true, reduceCtorEq, ite_true, ite_false, eq_self, Nat.reduceEqDiff, Nat.reduceLeDiff, nI_add, nI_1, nI_leI, nI_ltI, nI_eq, nI_clamp, kz_m1, kz_mn, kz_mn2, kz_n0, kz_0n, kz_0, kz_le0, kz_0lt, false_implies, true_implies, not_false_eq_true, not_true_eq_false, Nat.zero_le, kb_0, kz_10, kz_of, ky_sw, kz_mx, kz_mi, h1, kz_7, kz_60, kz_same, kz_uu, kz_8, L700, L4260, L54, L61, n2]) | (refine ⟨vp_in_nI (by omega) (by omega), ?_⟩) | (rw [if_neg (by decide)]; refine ⟨by decide, by decide, ?_⟩) | (refine ⟨by decide, by decide, ?_⟩) | (refine ⟨fun zc => ?_, fun zc => ?_⟩ <;> try (exfalso; omega)) | fail)
  intro c42 y42 hC hCk hZ
  simp only [ky_aft, ky_vl, Nat.reduceAdd]
  have r := kAl_tr (Z := kL8) r hC fun j hj => ⟨hj, fun w => hj (by unfold kL8; omega)⟩
  have t0 := kAl_at hC (by omega) h1
  have D2 := kCP_al D1 (by decide) hC fun j w => by omega
  have o2 := kCq_al D1 o1 hC (by omega) fun j w => by omega
  have h2 : y42 (c42 0) = some (.inr (8, [.ref (c42 1), .ref (c42 12), .ref (c42 23), .ref (c42 30), .ref (c42 37), .ref (c42 39), .ref (c42 40), .null, .null, .null, .null, .null, .null, .null, .null, .null, .int 0, .int 0])) := o2
  simp only [← t0.1, ← hCk]
  repeat' (first | (refine ⟨Nat.le_of_ble_eq_true rfl, ?_⟩) | (refine ky_ok_stp rfl ?_; simp (disch := first | omega | assumption) only [ky_stp, ky_inv, ky_ldi, ky_ldl, ky_ldd, ky_lda, ky_cl2, ky_st1, ky_st2, ky_s1i, ky_s2i, ky_s1l, ky_s2l, ky_sli, ky_s1f, ky_s2f, ky_s1d, ky_s2d, ky_sr, ky_sai, ky_sasi, ky_sasl, ky_sasr, ky_svr, ky_sv, ky_sv2, ky_s1, ky_cs, ky_pop, ky_nth, ky_snt, ky_obj, ky_ari, ky_arl, ky_arr, ky_arn, ky_fv, ky_rcv, List.map_cons, List.map_nil, List.drop_succ_cons, List.drop_zero, Value.category, Nat.reduceAdd, Nat.reduceSub, true_and, and_true, true_or, or_true, reduceCtorEq, ite_true, ite_false, eq_self, Nat.reduceEqDiff, Nat.reduceLeDiff, nI_add, nI_1, nI_leI, nI_ltI, nI_eq, nI_clamp, kz_m1, kz_mn, kz_mn2, kz_n0, kz_0n, kz_0, kz_le0, kz_0lt, false_implies, true_implies, not_false_eq_true, not_true_eq_false, Nat.zero_le, kb_0, kz_10, kz_of, ky_sw, kz_mx, kz_mi, h2, kz_7, kz_60, kz_same, kz_uu, kz_8, L700, L4260, L54, L61, n2, q0]) | (refine ⟨vp_in_nI (by omega) (by omega), ?_⟩) | (rw [if_neg (by decide)]; refine ⟨by decide, by decide, ?_⟩) | (refine ⟨by decide, by decide, ?_⟩) | (refine ⟨fun zc => ?_, fun zc => ?_⟩ <;> try (exfalso; omega)) | fail)
  obtain ⟨d1, d12, d23, d30, d37, d39, d40, d42, d44, d46, d47, d48, d53, d54, d55, d56⟩ := D2
  have D3 : kCP c42 y42 44 := ⟨fun _ => d1 (by omega), fun _ => d12 (by omega), fun _ => d23 (by omega), fun _ => d30 (by omega), fun _ => d37 (by omega), fun _ => d39 (by omega), fun _ => d40 (by omega), fun _ => hZ, fun w => absurd w (by omega), fun w => absurd w (by omega), fun w => absurd w (by omega), fun w => absurd w (by omega), fun w => absurd w (by omega), fun w => absurd w (by omega), fun w => absurd w (by omega), fun w => absurd w (by omega)⟩
  have hU : kAl c42 y42 c42 (ky_up y42 (c42 0) (.inr (8, [.ref (c42 1), .ref (c42 12), .ref (c42 23), .ref (c42 30), .ref (c42 37), .ref (c42 39), .ref (c42 40), .ref (c42 42), .null, .null, .null, .null, .null, .null, .null, .null, .int 0, .int 0]))) (fun j => j = 0) := kAl_fr r.1 (kfr_up r.1 kfr_rf rfl)
  have D := kCP_al D3 (by decide) hU fun j w => by omega
  have r := kAl_tr (Z := kL8) r hU fun j hj => ⟨hj, fun w => hj (by unfold kL8; omega)⟩
  have o : kCq c42 (ky_up y42 (c42 0) (.inr (8, [.ref (c42 1), .ref (c42 12), .ref (c42 23), .ref (c42 30), .ref (c42 37), .ref (c42 39), .ref (c42 40), .ref (c42 42), .null, .null, .null, .null, .null, .null, .null, .null, .int 0, .int 0]))) 44 := kz_same
  clear hB hU D3 o1 t0 h1 D1 h2 o2 hC
  generalize (ky_up y42 (c42 0) (.inr (8, [.ref (c42 1), .ref (c42 12), .ref (c42 23), .ref (c42 30), .ref (c42 37), .ref (c42 39), .ref (c42 40), .ref (c42 42), .null, .null, .null, .null, .null, .null, .null, .null, .int 0, .int 0]))) = g42 at o D r ⊢
  -- 44
  have h0 : g42 (c42 0) = some (.inr (8, [.ref (c42 1), .ref (c42 12), .ref (c42 23), .ref (c42 30), .ref (c42 37), .ref (c42 39), .ref (c42 40), .ref (c42 42), .null, .null, .null, .null, .null, .null, .null, .null, .int 0, .int 0])) := o
  intro q hq
  obtain ⟨b44, hB, e⟩ := kI_sw (t := 44) r.1 hq h0 (by omega) (.inr (0, [.int 0, .null]))
  subst e
  have r := kAl_tr (Z := kL8) r hB fun j hj => ⟨hj, fun w => hj (by unfold kL8; omega)⟩
  have t0 := kAl_at hB (show ¬ 0 = 44 by omega) h0
  have D1 := kCP_al D (by decide) hB fun j w => by omega
  have o1 := kCq_al D o hB (by omega) fun j w => by omega
  have h1 : (ky_up g42 (b44 44) (.inr (0, [.int 0, .null]))) (b44 0) = some (.inr (8, [.ref (b44 1), .ref (b44 12), .ref (b44 23), .ref (b44 30), .ref (b44 37), .ref (b44 39), .ref (b44 40), .ref (b44 42), .null, .null, .null, .null, .null, .null, .null, .null, .int 0, .int 0])) := o1
  simp only [← t0.1]
  repeat' (first | (refine kx0 (k := 44) (lim := 54) h1 hB.1 (by omega) (by omega) kz_same ?_) | (refine ⟨Nat.le_of_ble_eq_true rfl, ?_⟩) | (refine ky_ok_stp rfl ?_; simp (disch := first | omega | assumption) only [ky_stp, ky_inv, ky_ldi, ky_ldl, ky_ldd, ky_lda, ky_cl2, ky_st1, ky_st2, ky_s1i, ky_s2i, ky_s1l, ky_s2l, ky_sli, ky_s1f, ky_s2f, ky_s1d, ky_s2d, ky_sr, ky_sai, ky_sasi, ky_sasl, ky_sasr, ky_svr, ky_sv, ky_sv2, ky_s1, ky_cs, ky_pop, ky_nth, ky_snt, ky_obj, ky_ari, ky_arl, ky_arr, ky_arn, ky_fv, ky_rcv, List.map_cons, List.map_nil, List.drop_succ_cons, List.drop_zero, Value.category, Nat.reduceAdd, Nat.reduceSub, true_and, and_true, true_or, or_true, reduceCtorEq, ite_true, ite_false, eq_self, Nat.reduceEqDiff, Nat.reduceLeDiff, nI_add, nI_1, nI_leI, nI_ltI, nI_eq, nI_clamp, kz_m1, kz_mn, kz_mn2, kz_n0, kz_0n, kz_0, kz_le0, kz_0lt, false_implies, true_implies, not_false_eq_true, not_true_eq_false, Nat.zero_le, kb_0, kz_10, kz_of, ky_sw, kz_mx, kz_mi, h1, kz_7, kz_60, kz_same, kz_uu, kz_8, L700, L4260, L54, L61, n2]) | (refine ⟨vp_in_nI (by omega) (by omega), ?_⟩) | (rw [if_neg (by decide)]; refine ⟨by decide, by decide, ?_⟩) | (refine ⟨by decide, by decide, ?_⟩) | (refine ⟨fun zc => ?_, fun zc => ?_⟩ <;> try (exfalso; omega)) | fail)
  intro c44 y44 hC hCk hZ
  simp only [ky_aft, ky_vl, Nat.reduceAdd]
  have r := kAl_tr (Z := kL8) r hC fun j hj => ⟨hj, fun w => hj (by unfold kL8; omega)⟩
  have t0 := kAl_at hC (by omega) h1
  have D2 := kCP_al D1 (by decide) hC fun j w => by omega
  have o2 := kCq_al D1 o1 hC (by omega) fun j w => by omega
  have h2 : y44 (c44 0) = some (.inr (8, [.ref (c44 1), .ref (c44 12), .ref (c44 23), .ref (c44 30), .ref (c44 37), .ref (c44 39), .ref (c44 40), .ref (c44 42), .null, .null, .null, .null, .null, .null, .null, .null, .int 0, .int 0])) := o2
  simp only [← t0.1, ← hCk]
  repeat' (first | (refine ⟨Nat.le_of_ble_eq_true rfl, ?_⟩) | (refine ky_ok_stp rfl ?_; simp (disch := first | omega | assumption) only [ky_stp, ky_inv, ky_ldi, ky_ldl, ky_ldd, ky_lda, ky_cl2, ky_st1, ky_st2, ky_s1i, ky_s2i, ky_s1l, ky_s2l, ky_sli, ky_s1f, ky_s2f, ky_s1d, ky_s2d, ky_sr, ky_sai, ky_sasi, ky_sasl, ky_sasr, ky_svr, ky_sv, ky_sv2, ky_s1, ky_cs, ky_pop, ky_nth, ky_snt, ky_obj, ky_ari, ky_arl, ky_arr, ky_arn, ky_fv, ky_rcv, List.map_cons, List.map_nil, List.drop_succ_cons, List.drop_zero, Value.category, Nat.reduceAdd, Nat.reduceSub, true_and, and_true, true_or, or_true, reduceCtorEq, ite_true, ite_false, eq_self, Nat.reduceEqDiff, Nat.reduceLeDiff, nI_add, nI_1, nI_leI, nI_ltI, nI_eq, nI_clamp, kz_m1, kz_mn, kz_mn2, kz_n0, kz_0n, kz_0, kz_le0, kz_0lt, false_implies, true_implies, not_false_eq_true, not_true_eq_false, Nat.zero_le, kb_0, kz_10, kz_of, ky_sw, kz_mx, kz_mi, h2, kz_7, kz_60, kz_same, kz_uu, kz_8, L700, L4260, L54, L61, n2, q7]) | (refine ⟨vp_in_nI (by omega) (by omega), ?_⟩) | (rw [if_neg (by decide)]; refine ⟨by decide, by decide, ?_⟩) | (refine ⟨by decide, by decide, ?_⟩) | (refine ⟨fun zc => ?_, fun zc => ?_⟩ <;> try (exfalso; omega)) | fail)
  obtain ⟨d1, d12, d23, d30, d37, d39, d40, d42, d44, d46, d47, d48, d53, d54, d55, d56⟩ := D2
  have D3 : kCP c44 y44 46 := ⟨fun _ => d1 (by omega), fun _ => d12 (by omega), fun _ => d23 (by omega), fun _ => d30 (by omega), fun _ => d37 (by omega), fun _ => d39 (by omega), fun _ => d40 (by omega), fun _ => d42 (by omega), fun _ => hZ, fun w => absurd w (by omega), fun w => absurd w (by omega), fun w => absurd w (by omega), fun w => absurd w (by omega), fun w => absurd w (by omega), fun w => absurd w (by omega), fun w => absurd w (by omega)⟩
  have hU : kAl c44 y44 c44 (ky_up y44 (c44 0) (.inr (8, [.ref (c44 1), .ref (c44 12), .ref (c44 23), .ref (c44 30), .ref (c44 37), .ref (c44 39), .ref (c44 40), .ref (c44 42), .ref (c44 44), .null, .null, .null, .null, .null, .null, .null, .int 0, .int 0]))) (fun j => j = 0) := kAl_fr r.1 (kfr_up r.1 kfr_rf rfl)
  have D := kCP_al D3 (by decide) hU fun j w => by omega
  have r := kAl_tr (Z := kL8) r hU fun j hj => ⟨hj, fun w => hj (by unfold kL8; omega)⟩
  have o : kCq c44 (ky_up y44 (c44 0) (.inr (8, [.ref (c44 1), .ref (c44 12), .ref (c44 23), .ref (c44 30), .ref (c44 37), .ref (c44 39), .ref (c44 40), .ref (c44 42), .ref (c44 44), .null, .null, .null, .null, .null, .null, .null, .int 0, .int 0]))) 46 := kz_same
  clear hB hU D3 o1 t0 h1 D1 h2 o2 hC
  generalize (ky_up y44 (c44 0) (.inr (8, [.ref (c44 1), .ref (c44 12), .ref (c44 23), .ref (c44 30), .ref (c44 37), .ref (c44 39), .ref (c44 40), .ref (c44 42), .ref (c44 44), .null, .null, .null, .null, .null, .null, .null, .int 0, .int 0]))) = g44 at o D r ⊢
  -- 46
  have h0 : g44 (c44 0) = some (.inr (8, [.ref (c44 1), .ref (c44 12), .ref (c44 23), .ref (c44 30), .ref (c44 37), .ref (c44 39), .ref (c44 40), .ref (c44 42), .ref (c44 44), .null, .null, .null, .null, .null, .null, .null, .int 0, .int 0])) := o
  intro q hq
  obtain ⟨b46, hB, e⟩ := kI_sw (t := 46) r.1 hq h0 (by omega) (.inr (7, [.int 0, .int 0, .long 0, .int 0, .int 0, .null]))
  subst e
  have r := kAl_tr (Z := kL8) r hB fun j hj => ⟨hj, fun w => hj (by unfold kL8; omega)⟩
  have t0 := kAl_at hB (show ¬ 0 = 46 by omega) h0
  have D1 := kCP_al D (by decide) hB fun j w => by omega
  have o1 := kCq_al D o hB (by omega) fun j w => by omega
  have e40 := (kCP_ad D hB fun j w => by omega).2.2.2.2.2.2.1 (by omega)
  have h1 : (ky_up g44 (b46 46) (.inr (7, [.int 0, .int 0, .long 0, .int 0, .int 0, .null]))) (b46 0) = some (.inr (8, [.ref (b46 1), .ref (b46 12), .ref (b46 23), .ref (b46 30), .ref (b46 37), .ref (b46 39), .ref (b46 40), .ref (b46 42), .ref (b46 44), .null, .null, .null, .null, .null, .null, .null, .int 0, .int 0])) := o1
  simp only [← t0.1]
  have hC : kAl b46 (ky_up g44 (b46 46) (.inr (7, [.int 0, .int 0, .long 0, .int 0, .int 0, .null]))) b46 (ky_up g44 (b46 46) (.inr (7, [.int 0, .int 0, .long 0, .int 0, .int 0, .ref (b46 40)]))) (fun j => j = 46) := by
    have w : kAl b46 (ky_up g44 (b46 46) (.inr (7, [.int 0, .int 0, .long 0, .int 0, .int 0, .null]))) b46 (ky_up (ky_up g44 (b46 46) (.inr (7, [.int 0, .int 0, .long 0, .int 0, .int 0, .null]))) (b46 46) (.inr (7, [.int 0, .int 0, .long 0, .int 0, .int 0, .ref (b46 40)]))) (fun j => j = 46) := kAl_fr hB.1 (kfr_up hB.1 kfr_rf rfl)
    rw [kz_uu] at w
    exact w
  have r := kAl_tr (Z := kL8) r hC fun j hj => ⟨hj, fun w => hj (by unfold kL8; omega)⟩
  have D2 := kCP_al D1 (by decide) hC fun j w => by omega
  have o2 := kCq_al D1 o1 hC (by omega) fun j w => by omega
  have h2 : (ky_up g44 (b46 46) (.inr (7, [.int 0, .int 0, .long 0, .int 0, .int 0, .ref (b46 40)]))) (b46 0) = some (.inr (8, [.ref (b46 1), .ref (b46 12), .ref (b46 23), .ref (b46 30), .ref (b46 37), .ref (b46 39), .ref (b46 40), .ref (b46 42), .ref (b46 44), .null, .null, .null, .null, .null, .null, .null, .int 0, .int 0])) := o2
  repeat' (first | ((refine kx75 hB.1 kz_same ?_; simp only [ky_aft, ky_vl, Nat.reduceAdd])) | (refine ⟨Nat.le_of_ble_eq_true rfl, ?_⟩) | (refine ky_ok_stp rfl ?_; simp (disch := first | omega | assumption) only [ky_stp, ky_inv, ky_ldi, ky_ldl, ky_ldd, ky_lda, ky_cl2, ky_st1, ky_st2, ky_s1i, ky_s2i, ky_s1l, ky_s2l, ky_sli, ky_s1f, ky_s2f, ky_s1d, ky_s2d, ky_sr, ky_sai, ky_sasi, ky_sasl, ky_sasr, ky_svr, ky_sv, ky_sv2, ky_s1, ky_cs, ky_pop, ky_nth, ky_snt, ky_obj, ky_ari, ky_arl, ky_arr, ky_arn, ky_fv, ky_rcv, List.map_cons, List.map_nil, List.drop_succ_cons, List.drop_zero, Value.category, Nat.reduceAdd, Nat.reduceSub, true_and, and_true, true_or, or_true, reduceCtorEq, ite_true, ite_false, eq_self, Nat.reduceEqDiff, Nat.reduceLeDiff, nI_add, nI_1, nI_leI, nI_ltI, nI_eq, nI_clamp, kz_m1, kz_mn, kz_mn2, kz_n0, kz_0n, kz_0, kz_le0, kz_0lt, false_implies, true_implies, not_false_eq_true, not_true_eq_false, Nat.zero_le, kb_0, kz_10, kz_of, ky_sw, kz_mx, kz_mi, h1, h2, kz_7, kz_60, kz_same, kz_uu, kz_8, L700, L4260, L54, L61, n2, q4]) | (refine ⟨vp_in_nI (by omega) (by omega), ?_⟩) | (rw [if_neg (by decide)]; refine ⟨by decide, by decide, ?_⟩) | (refine ⟨by decide, by decide, ?_⟩) | (refine ⟨fun zc => ?_, fun zc => ?_⟩ <;> try (exfalso; omega)) | fail)
  obtain ⟨d1, d12, d23, d30, d37, d39, d40, d42, d44, d46, d47, d48, d53, d54, d55, d56⟩ := D2
  have D3 : kCP b46 (ky_up g44 (b46 46) (.inr (7, [.int 0, .int 0, .long 0, .int 0, .int 0, .ref (b46 40)]))) 47 := ⟨fun _ => d1 (by omega), fun _ => d12 (by omega), fun _ => d23 (by omega), fun _ => d30 (by omega), fun _ => d37 (by omega), fun _ => d39 (by omega), fun _ => d40 (by omega), fun _ => d42 (by omega), fun _ => d44 (by omega), fun _ => kz_same, fun w => absurd w (by omega), fun w => absurd w (by omega), fun w => absurd w (by omega), fun w => absurd w (by omega), fun w => absurd w (by omega), fun w => absurd w (by omega)⟩
  have hU : kAl b46 (ky_up g44 (b46 46) (.inr (7, [.int 0, .int 0, .long 0, .int 0, .int 0, .ref (b46 40)]))) b46 (ky_up (ky_up g44 (b46 46) (.inr (7, [.int 0, .int 0, .long 0, .int 0, .int 0, .ref (b46 40)]))) (b46 0) (.inr (8, [.ref (b46 1), .ref (b46 12), .ref (b46 23), .ref (b46 30), .ref (b46 37), .ref (b46 39), .ref (b46 40), .ref (b46 42), .ref (b46 44), .ref (b46 46), .null, .null, .null, .null, .null, .null, .int 0, .int 0]))) (fun j => j = 0) := kAl_fr r.1 (kfr_up r.1 kfr_rf rfl)
  have D := kCP_al D3 (by decide) hU fun j w => by omega
  have r := kAl_tr (Z := kL8) r hU fun j hj => ⟨hj, fun w => hj (by unfold kL8; omega)⟩
  have o : kCq b46 (ky_up (ky_up g44 (b46 46) (.inr (7, [.int 0, .int 0, .long 0, .int 0, .int 0, .ref (b46 40)]))) (b46 0) (.inr (8, [.ref (b46 1), .ref (b46 12), .ref (b46 23), .ref (b46 30), .ref (b46 37), .ref (b46 39), .ref (b46 40), .ref (b46 42), .ref (b46 44), .ref (b46 46), .null, .null, .null, .null, .null, .null, .int 0, .int 0]))) 47 := kz_same
  clear hB hU D3 o1 t0 h1 D1 h2 o2 hC
  generalize (ky_up (ky_up g44 (b46 46) (.inr (7, [.int 0, .int 0, .long 0, .int 0, .int 0, .ref (b46 40)]))) (b46 0) (.inr (8, [.ref (b46 1), .ref (b46 12), .ref (b46 23), .ref (b46 30), .ref (b46 37), .ref (b46 39), .ref (b46 40), .ref (b46 42), .ref (b46 44), .ref (b46 46), .null, .null, .null, .null, .null, .null, .int 0, .int 0]))) = g46 at o D r ⊢
  -- 47
  have h0 : g46 (b46 0) = some (.inr (8, [.ref (b46 1), .ref (b46 12), .ref (b46 23), .ref (b46 30), .ref (b46 37), .ref (b46 39), .ref (b46 40), .ref (b46 42), .ref (b46 44), .ref (b46 46), .null, .null, .null, .null, .null, .null, .int 0, .int 0])) := o
  intro q hq
  obtain ⟨b47, hB, e⟩ := kI_sw (t := 47) r.1 hq h0 (by omega) (.inr (4, [.null]))
  subst e
  have r := kAl_tr (Z := kL8) r hB fun j hj => ⟨hj, fun w => hj (by unfold kL8; omega)⟩
  have t0 := kAl_at hB (show ¬ 0 = 47 by omega) h0
  have D1 := kCP_al D (by decide) hB fun j w => by omega
  have o1 := kCq_al D o hB (by omega) fun j w => by omega
  have e46 := (kCP_ad D hB fun j w => by omega).2.2.2.2.2.2.2.2.2.1 (by omega)
  have h1 : (ky_up g46 (b47 47) (.inr (4, [.null]))) (b47 0) = some (.inr (8, [.ref (b47 1), .ref (b47 12), .ref (b47 23), .ref (b47 30), .ref (b47 37), .ref (b47 39), .ref (b47 40), .ref (b47 42), .ref (b47 44), .ref (b47 46), .null, .null, .null, .null, .null, .null, .int 0, .int 0])) := o1
  simp only [← t0.1]
  have hC : kAl b47 (ky_up g46 (b47 47) (.inr (4, [.null]))) b47 (ky_up g46 (b47 47) (.inr (4, [.ref (b47 46)]))) (fun j => j = 47) := by
    have w : kAl b47 (ky_up g46 (b47 47) (.inr (4, [.null]))) b47 (ky_up (ky_up g46 (b47 47) (.inr (4, [.null]))) (b47 47) (.inr (4, [.ref (b47 46)]))) (fun j => j = 47) := kAl_fr hB.1 (kfr_up hB.1 kfr_rf rfl)
    rw [kz_uu] at w
    exact w
  have r := kAl_tr (Z := kL8) r hC fun j hj => ⟨hj, fun w => hj (by unfold kL8; omega)⟩
  have D2 := kCP_al D1 (by decide) hC fun j w => by omega
  have o2 := kCq_al D1 o1 hC (by omega) fun j w => by omega
  have h2 : (ky_up g46 (b47 47) (.inr (4, [.ref (b47 46)]))) (b47 0) = some (.inr (8, [.ref (b47 1), .ref (b47 12), .ref (b47 23), .ref (b47 30), .ref (b47 37), .ref (b47 39), .ref (b47 40), .ref (b47 42), .ref (b47 44), .ref (b47 46), .null, .null, .null, .null, .null, .null, .int 0, .int 0])) := o2
  repeat' (first | ((refine kx52 hB.1 kz_same ?_; simp only [ky_aft, ky_vl, Nat.reduceAdd])) | (refine ⟨Nat.le_of_ble_eq_true rfl, ?_⟩) | (refine ky_ok_stp rfl ?_; simp (disch := first | omega | assumption) only [ky_stp, ky_inv, ky_ldi, ky_ldl, ky_ldd, ky_lda, ky_cl2, ky_st1, ky_st2, ky_s1i, ky_s2i, ky_s1l, ky_s2l, ky_sli, ky_s1f, ky_s2f, ky_s1d, ky_s2d, ky_sr, ky_sai, ky_sasi, ky_sasl, ky_sasr, ky_svr, ky_sv, ky_sv2, ky_s1, ky_cs, ky_pop, ky_nth, ky_snt, ky_obj, ky_ari, ky_arl, ky_arr, ky_arn, ky_fv, ky_rcv, List.map_cons, List.map_nil, List.drop_succ_cons, List.drop_zero, Value.category, Nat.reduceAdd, Nat.reduceSub, true_and, and_true, true_or, or_true, reduceCtorEq, ite_true, ite_false, eq_self, Nat.reduceEqDiff, Nat.reduceLeDiff, nI_add, nI_1, nI_leI, nI_ltI, nI_eq, nI_clamp, kz_m1, kz_mn, kz_mn2, kz_n0, kz_0n, kz_0, kz_le0, kz_0lt, false_implies, true_implies, not_false_eq_true, not_true_eq_false, Nat.zero_le, kb_0, kz_10, kz_of, ky_sw, kz_mx, kz_mi, h1, h2, kz_7, kz_60, kz_same, kz_uu, kz_8, L700, L4260, L54, L61, n2, q5]) | (refine ⟨vp_in_nI (by omega) (by omega), ?_⟩) | (rw [if_neg (by decide)]; refine ⟨by decide, by decide, ?_⟩) | (refine ⟨by decide, by decide, ?_⟩) | (refine ⟨fun zc => ?_, fun zc => ?_⟩ <;> try (exfalso; omega)) | fail)
  obtain ⟨d1, d12, d23, d30, d37, d39, d40, d42, d44, d46, d47, d48, d53, d54, d55, d56⟩ := D2
  have D3 : kCP b47 (ky_up g46 (b47 47) (.inr (4, [.ref (b47 46)]))) 48 := ⟨fun _ => d1 (by omega), fun _ => d12 (by omega), fun _ => d23 (by omega), fun _ => d30 (by omega), fun _ => d37 (by omega), fun _ => d39 (by omega), fun _ => d40 (by omega), fun _ => d42 (by omega), fun _ => d44 (by omega), fun _ => d46 (by omega), fun _ => kz_same, fun w => absurd w (by omega), fun w => absurd w (by omega), fun w => absurd w (by omega), fun w => absurd w (by omega), fun w => absurd w (by omega)⟩
  have hU : kAl b47 (ky_up g46 (b47 47) (.inr (4, [.ref (b47 46)]))) b47 (ky_up (ky_up g46 (b47 47) (.inr (4, [.ref (b47 46)]))) (b47 0) (.inr (8, [.ref (b47 1), .ref (b47 12), .ref (b47 23), .ref (b47 30), .ref (b47 37), .ref (b47 39), .ref (b47 40), .ref (b47 42), .ref (b47 44), .ref (b47 46), .ref (b47 47), .null, .null, .null, .null, .null, .int 0, .int 0]))) (fun j => j = 0) := kAl_fr r.1 (kfr_up r.1 kfr_rf rfl)
  have D := kCP_al D3 (by decide) hU fun j w => by omega
  have r := kAl_tr (Z := kL8) r hU fun j hj => ⟨hj, fun w => hj (by unfold kL8; omega)⟩
  have o : kCq b47 (ky_up (ky_up g46 (b47 47) (.inr (4, [.ref (b47 46)]))) (b47 0) (.inr (8, [.ref (b47 1), .ref (b47 12), .ref (b47 23), .ref (b47 30), .ref (b47 37), .ref (b47 39), .ref (b47 40), .ref (b47 42), .ref (b47 44), .ref (b47 46), .ref (b47 47), .null, .null, .null, .null, .null, .int 0, .int 0]))) 48 := kz_same
  clear hB hU D3 o1 t0 h1 D1 h2 o2 hC
  generalize (ky_up (ky_up g46 (b47 47) (.inr (4, [.ref (b47 46)]))) (b47 0) (.inr (8, [.ref (b47 1), .ref (b47 12), .ref (b47 23), .ref (b47 30), .ref (b47 37), .ref (b47 39), .ref (b47 40), .ref (b47 42), .ref (b47 44), .ref (b47 46), .ref (b47 47), .null, .null, .null, .null, .null, .int 0, .int 0]))) = g47 at o D r ⊢
  -- 48
  have h0 : g47 (b47 0) = some (.inr (8, [.ref (b47 1), .ref (b47 12), .ref (b47 23), .ref (b47 30), .ref (b47 37), .ref (b47 39), .ref (b47 40), .ref (b47 42), .ref (b47 44), .ref (b47 46), .ref (b47 47), .null, .null, .null, .null, .null, .int 0, .int 0])) := o
  intro q hq
  obtain ⟨b48, hB, e⟩ := kI_sw (t := 48) r.1 hq h0 (by omega) (.inr (5, [.int 0, .null, .null, .null, .null, .null]))
  subst e
  have r := kAl_tr (Z := kL8) r hB fun j hj => ⟨hj, fun w => hj (by unfold kL8; omega)⟩
  have t0 := kAl_at hB (show ¬ 0 = 48 by omega) h0
  have D1 := kCP_al D (by decide) hB fun j w => by omega
  have o1 := kCq_al D o hB (by omega) fun j w => by omega
  have e46 := (kCP_ad D hB fun j w => by omega).2.2.2.2.2.2.2.2.2.1 (by omega)
  have h1 : (ky_up g47 (b48 48) (.inr (5, [.int 0, .null, .null, .null, .null, .null]))) (b48 0) = some (.inr (8, [.ref (b48 1), .ref (b48 12), .ref (b48 23), .ref (b48 30), .ref (b48 37), .ref (b48 39), .ref (b48 40), .ref (b48 42), .ref (b48 44), .ref (b48 46), .ref (b48 47), .null, .null, .null, .null, .null, .int 0, .int 0])) := o1
  simp only [← t0.1]
  repeat' (first | (refine kx56 h1 (D1.2.2.2.2.2.2.2.2.2.1 (by omega)) hB.1 kz_same ?_) | (refine ⟨Nat.le_of_ble_eq_true rfl, ?_⟩) | (refine ky_ok_stp rfl ?_; simp (disch := first | omega | assumption) only [ky_stp, ky_inv, ky_ldi, ky_ldl, ky_ldd, ky_lda, ky_cl2, ky_st1, ky_st2, ky_s1i, ky_s2i, ky_s1l, ky_s2l, ky_sli, ky_s1f, ky_s2f, ky_s1d, ky_s2d, ky_sr, ky_sai, ky_sasi, ky_sasl, ky_sasr, ky_svr, ky_sv, ky_sv2, ky_s1, ky_cs, ky_pop, ky_nth, ky_snt, ky_obj, ky_ari, ky_arl, ky_arr, ky_arn, ky_fv, ky_rcv, List.map_cons, List.map_nil, List.drop_succ_cons, List.drop_zero, Value.category, Nat.reduceAdd, Nat.reduceSub, true_and, and_true, true_or, or_true, reduceCtorEq, ite_true, ite_false, eq_self, Nat.reduceEqDiff, Nat.reduceLeDiff, nI_add, nI_1, nI_leI, nI_ltI, nI_eq, nI_clamp, kz_m1, kz_mn, kz_mn2, kz_n0, kz_0n, kz_0, kz_le0, kz_0lt, false_implies, true_implies, not_false_eq_true, not_true_eq_false, Nat.zero_le, kb_0, kz_10, kz_of, ky_sw, kz_mx, kz_mi, h1, kz_7, kz_60, kz_same, kz_uu, kz_8, L700, L4260, L54, L61, n2]) | (refine ⟨vp_in_nI (by omega) (by omega), ?_⟩) | (rw [if_neg (by decide)]; refine ⟨by decide, by decide, ?_⟩) | (refine ⟨by decide, by decide, ?_⟩) | (refine ⟨fun zc => ?_, fun zc => ?_⟩ <;> try (exfalso; omega)) | fail)
  intro c48 y48 hC hCk hZ
  simp only [ky_aft, ky_vl, Nat.reduceAdd]
  have r := kAl_tr (Z := kL8) r hC fun j hj => ⟨hj, fun w => hj (by unfold kL8; omega)⟩
  have t0 := kAl_at hC (by omega) h1
  have D2 := kCP_al D1 (by decide) hC fun j w => by omega
  have o2 := kCq_al D1 o1 hC (by omega) fun j w => by omega
  have h2 : y48 (c48 0) = some (.inr (8, [.ref (c48 1), .ref (c48 12), .ref (c48 23), .ref (c48 30), .ref (c48 37), .ref (c48 39), .ref (c48 40), .ref (c48 42), .ref (c48 44), .ref (c48 46), .ref (c48 47), .null, .null, .null, .null, .null, .int 0, .int 0])) := o2
  simp only [← t0.1, ← hCk]
  repeat' (first | (refine ⟨Nat.le_of_ble_eq_true rfl, ?_⟩) | (refine ky_ok_stp rfl ?_; simp (disch := first | omega | assumption) only [ky_stp, ky_inv, ky_ldi, ky_ldl, ky_ldd, ky_lda, ky_cl2, ky_st1, ky_st2, ky_s1i, ky_s2i, ky_s1l, ky_s2l, ky_sli, ky_s1f, ky_s2f, ky_s1d, ky_s2d, ky_sr, ky_sai, ky_sasi, ky_sasl, ky_sasr, ky_svr, ky_sv, ky_sv2, ky_s1, ky_cs, ky_pop, ky_nth, ky_snt, ky_obj, ky_ari, ky_arl, ky_arr, ky_arn, ky_fv, ky_rcv, List.map_cons, List.map_nil, List.drop_succ_cons, List.drop_zero, Value.category, Nat.reduceAdd, Nat.reduceSub, true_and, and_true, true_or, or_true, reduceCtorEq, ite_true, ite_false, eq_self, Nat.reduceEqDiff, Nat.reduceLeDiff, nI_add, nI_1, nI_leI, nI_ltI, nI_eq, nI_clamp, kz_m1, kz_mn, kz_mn2, kz_n0, kz_0n, kz_0, kz_le0, kz_0lt, false_implies, true_implies, not_false_eq_true, not_true_eq_false, Nat.zero_le, kb_0, kz_10, kz_of, ky_sw, kz_mx, kz_mi, h2, kz_7, kz_60, kz_same, kz_uu, kz_8, L700, L4260, L54, L61, n2]) | (refine ⟨vp_in_nI (by omega) (by omega), ?_⟩) | (rw [if_neg (by decide)]; refine ⟨by decide, by decide, ?_⟩) | (refine ⟨by decide, by decide, ?_⟩) | (refine ⟨fun zc => ?_, fun zc => ?_⟩ <;> try (exfalso; omega)) | fail)
  obtain ⟨d1, d12, d23, d30, d37, d39, d40, d42, d44, d46, d47, d48, d53, d54, d55, d56⟩ := D2
  have D3 : kCP c48 y48 53 := ⟨fun _ => d1 (by omega), fun _ => d12 (by omega), fun _ => d23 (by omega), fun _ => d30 (by omega), fun _ => d37 (by omega), fun _ => d39 (by omega), fun _ => d40 (by omega), fun _ => d42 (by omega), fun _ => d44 (by omega), fun _ => d46 (by omega), fun _ => d47 (by omega), fun _ => hZ.2, fun w => absurd w (by omega), fun w => absurd w (by omega), fun w => absurd w (by omega), fun w => absurd w (by omega)⟩
  have hU : kAl c48 y48 c48 (ky_up y48 (c48 0) (.inr (8, [.ref (c48 1), .ref (c48 12), .ref (c48 23), .ref (c48 30), .ref (c48 37), .ref (c48 39), .ref (c48 40), .ref (c48 42), .ref (c48 44), .ref (c48 46), .ref (c48 47), .ref (c48 48), .null, .null, .null, .null, .int 0, .int 0]))) (fun j => j = 0) := kAl_fr r.1 (kfr_up r.1 kfr_rf rfl)
  have D := kCP_al D3 (by decide) hU fun j w => by omega
  have r := kAl_tr (Z := kL8) r hU fun j hj => ⟨hj, fun w => hj (by unfold kL8; omega)⟩
  have o : kCq c48 (ky_up y48 (c48 0) (.inr (8, [.ref (c48 1), .ref (c48 12), .ref (c48 23), .ref (c48 30), .ref (c48 37), .ref (c48 39), .ref (c48 40), .ref (c48 42), .ref (c48 44), .ref (c48 46), .ref (c48 47), .ref (c48 48), .null, .null, .null, .null, .int 0, .int 0]))) 53 := kz_same
  clear hB hU D3 o1 t0 h1 D1 h2 o2 hC
  generalize (ky_up y48 (c48 0) (.inr (8, [.ref (c48 1), .ref (c48 12), .ref (c48 23), .ref (c48 30), .ref (c48 37), .ref (c48 39), .ref (c48 40), .ref (c48 42), .ref (c48 44), .ref (c48 46), .ref (c48 47), .ref (c48 48), .null, .null, .null, .null, .int 0, .int 0]))) = g48 at o D r ⊢
  -- 53
  have h0 : g48 (c48 0) = some (.inr (8, [.ref (c48 1), .ref (c48 12), .ref (c48 23), .ref (c48 30), .ref (c48 37), .ref (c48 39), .ref (c48 40), .ref (c48 42), .ref (c48 44), .ref (c48 46), .ref (c48 47), .ref (c48 48), .null, .null, .null, .null, .int 0, .int 0])) := o
  intro q hq
  obtain ⟨b53, hB, e⟩ := kI_sw (t := 53) r.1 hq h0 (by omega) (.inl (1, ky_z 1 8))
  subst e
  have r := kAl_tr (Z := kL8) r hB fun j hj => ⟨hj, fun w => hj (by unfold kL8; omega)⟩
  have t0 := kAl_at hB (show ¬ 0 = 53 by omega) h0
  have D1 := kCP_al D (by decide) hB fun j w => by omega
  have o1 := kCq_al D o hB (by omega) fun j w => by omega
  have h1 : (ky_up g48 (b53 53) (.inl (1, ky_z 1 8))) (b53 0) = some (.inr (8, [.ref (b53 1), .ref (b53 12), .ref (b53 23), .ref (b53 30), .ref (b53 37), .ref (b53 39), .ref (b53 40), .ref (b53 42), .ref (b53 44), .ref (b53 46), .ref (b53 47), .ref (b53 48), .null, .null, .null, .null, .int 0, .int 0])) := o1
  simp only [← t0.1]
  repeat' (first | (refine ⟨Nat.le_of_ble_eq_true rfl, ?_⟩) | (refine ky_ok_stp rfl ?_; simp (disch := first | omega | assumption) only [ky_stp, ky_inv, ky_ldi, ky_ldl, ky_ldd, ky_lda, ky_cl2, ky_st1, ky_st2, ky_s1i, ky_s2i, ky_s1l, ky_s2l, ky_sli, ky_s1f, ky_s2f, ky_s1d, ky_s2d, ky_sr, ky_sai, ky_sasi, ky_sasl, ky_sasr, ky_svr, ky_sv, ky_sv2, ky_s1, ky_cs, ky_pop, ky_nth, ky_snt, ky_obj, ky_ari, ky_arl, ky_arr, ky_arn, ky_fv, ky_rcv, List.map_cons, List.map_nil, List.drop_succ_cons, List.drop_zero, Value.category, Nat.reduceAdd, Nat.reduceSub, true_and, and_true, true_or, or_true, reduceCtorEq, ite_true, ite_false, eq_self, Nat.reduceEqDiff, Nat.reduceLeDiff, nI_add, nI_1, nI_leI, nI_ltI, nI_eq, nI_clamp, kz_m1, kz_mn, kz_mn2, kz_n0, kz_0n, kz_0, kz_le0, kz_0lt, false_implies, true_implies, not_false_eq_true, not_true_eq_false, Nat.zero_le, kb_0, kz_10, kz_of, ky_sw, kz_mx, kz_mi, h1, kz_7, kz_60, kz_same, kz_uu, kz_8, L700, L4260, L54, L61, n2]) | (refine ⟨vp_in_nI (by omega) (by omega), ?_⟩) | (rw [if_neg (by decide)]; refine ⟨by decide, by decide, ?_⟩) | (refine ⟨by decide, by decide, ?_⟩) | (refine ⟨fun zc => ?_, fun zc => ?_⟩ <;> try (exfalso; omega)) | fail)
  obtain ⟨d1, d12, d23, d30, d37, d39, d40, d42, d44, d46, d47, d48, d53, d54, d55, d56⟩ := D1
  have D3 : kCP b53 (ky_up g48 (b53 53) (.inl (1, ky_z 1 8))) 54 := ⟨fun _ => d1 (by omega), fun _ => d12 (by omega), fun _ => d23 (by omega), fun _ => d30 (by omega), fun _ => d37 (by omega), fun _ => d39 (by omega), fun _ => d40 (by omega), fun _ => d42 (by omega), fun _ => d44 (by omega), fun _ => d46 (by omega), fun _ => d47 (by omega), fun _ => d48 (by omega), fun _ => kz_same, fun w => absurd w (by omega), fun w => absurd w (by omega), fun w => absurd w (by omega)⟩
  have hU : kAl b53 (ky_up g48 (b53 53) (.inl (1, ky_z 1 8))) b53 (ky_up (ky_up g48 (b53 53) (.inl (1, ky_z 1 8))) (b53 0) (.inr (8, [.ref (b53 1), .ref (b53 12), .ref (b53 23), .ref (b53 30), .ref (b53 37), .ref (b53 39), .ref (b53 40), .ref (b53 42), .ref (b53 44), .ref (b53 46), .ref (b53 47), .ref (b53 48), .ref (b53 53), .null, .null, .null, .int 0, .int 0]))) (fun j => j = 0) := kAl_fr r.1 (kfr_up r.1 kfr_rf rfl)
  have D := kCP_al D3 (by decide) hU fun j w => by omega
  have r := kAl_tr (Z := kL8) r hU fun j hj => ⟨hj, fun w => hj (by unfold kL8; omega)⟩
  have o : kCq b53 (ky_up (ky_up g48 (b53 53) (.inl (1, ky_z 1 8))) (b53 0) (.inr (8, [.ref (b53 1), .ref (b53 12), .ref (b53 23), .ref (b53 30), .ref (b53 37), .ref (b53 39), .ref (b53 40), .ref (b53 42), .ref (b53 44), .ref (b53 46), .ref (b53 47), .ref (b53 48), .ref (b53 53), .null, .null, .null, .int 0, .int 0]))) 54 := kz_same
  clear hB hU D3 o1 t0 h1
  generalize (ky_up (ky_up g48 (b53 53) (.inl (1, ky_z 1 8))) (b53 0) (.inr (8, [.ref (b53 1), .ref (b53 12), .ref (b53 23), .ref (b53 30), .ref (b53 37), .ref (b53 39), .ref (b53 40), .ref (b53 42), .ref (b53 44), .ref (b53 46), .ref (b53 47), .ref (b53 48), .ref (b53 53), .null, .null, .null, .int 0, .int 0]))) = g53 at o D r ⊢
  -- 54
  have h0 : g53 (b53 0) = some (.inr (8, [.ref (b53 1), .ref (b53 12), .ref (b53 23), .ref (b53 30), .ref (b53 37), .ref (b53 39), .ref (b53 40), .ref (b53 42), .ref (b53 44), .ref (b53 46), .ref (b53 47), .ref (b53 48), .ref (b53 53), .null, .null, .null, .int 0, .int 0])) := o
  intro q hq
  obtain ⟨b54, hB, e⟩ := kI_sw (t := 54) r.1 hq h0 (by omega) (.inl (1, ky_z 1 60))
  subst e
  have r := kAl_tr (Z := kL8) r hB fun j hj => ⟨hj, fun w => hj (by unfold kL8; omega)⟩
  have t0 := kAl_at hB (show ¬ 0 = 54 by omega) h0
  have D1 := kCP_al D (by decide) hB fun j w => by omega
  have o1 := kCq_al D o hB (by omega) fun j w => by omega
  have h1 : (ky_up g53 (b54 54) (.inl (1, ky_z 1 60))) (b54 0) = some (.inr (8, [.ref (b54 1), .ref (b54 12), .ref (b54 23), .ref (b54 30), .ref (b54 37), .ref (b54 39), .ref (b54 40), .ref (b54 42), .ref (b54 44), .ref (b54 46), .ref (b54 47), .ref (b54 48), .ref (b54 53), .null, .null, .null, .int 0, .int 0])) := o1
  simp only [← t0.1]
  repeat' (first | (refine ⟨Nat.le_of_ble_eq_true rfl, ?_⟩) | (refine ky_ok_stp rfl ?_; simp (disch := first | omega | assumption) only [ky_stp, ky_inv, ky_ldi, ky_ldl, ky_ldd, ky_lda, ky_cl2, ky_st1, ky_st2, ky_s1i, ky_s2i, ky_s1l, ky_s2l, ky_sli, ky_s1f, ky_s2f, ky_s1d, ky_s2d, ky_sr, ky_sai, ky_sasi, ky_sasl, ky_sasr, ky_svr, ky_sv, ky_sv2, ky_s1, ky_cs, ky_pop, ky_nth, ky_snt, ky_obj, ky_ari, ky_arl, ky_arr, ky_arn, ky_fv, ky_rcv, List.map_cons, List.map_nil, List.drop_succ_cons, List.drop_zero, Value.category, Nat.reduceAdd, Nat.reduceSub, true_and, and_true, true_or, or_true, reduceCtorEq, ite_true, ite_false, eq_self, Nat.reduceEqDiff, Nat.reduceLeDiff, nI_add, nI_1, nI_leI, nI_ltI, nI_eq, nI_clamp, kz_m1, kz_mn, kz_mn2, kz_n0, kz_0n, kz_0, kz_le0, kz_0lt, false_implies, true_implies, not_false_eq_true, not_true_eq_false, Nat.zero_le, kb_0, kz_10, kz_of, ky_sw, kz_mx, kz_mi, h1, kz_7, kz_60, kz_same, kz_uu, kz_8, L700, L4260, L54, L61, n2]) | (refine ⟨vp_in_nI (by omega) (by omega), ?_⟩) | (rw [if_neg (by decide)]; refine ⟨by decide, by decide, ?_⟩) | (refine ⟨by decide, by decide, ?_⟩) | (refine ⟨fun zc => ?_, fun zc => ?_⟩ <;> try (exfalso; omega)) | fail)
  obtain ⟨d1, d12, d23, d30, d37, d39, d40, d42, d44, d46, d47, d48, d53, d54, d55, d56⟩ := D1
  have D3 : kCP b54 (ky_up g53 (b54 54) (.inl (1, ky_z 1 60))) 55 := ⟨fun _ => d1 (by omega), fun _ => d12 (by omega), fun _ => d23 (by omega), fun _ => d30 (by omega), fun _ => d37 (by omega), fun _ => d39 (by omega), fun _ => d40 (by omega), fun _ => d42 (by omega), fun _ => d44 (by omega), fun _ => d46 (by omega), fun _ => d47 (by omega), fun _ => d48 (by omega), fun _ => d53 (by omega), fun _ => kz_same, fun w => absurd w (by omega), fun w => absurd w (by omega)⟩
  have hU : kAl b54 (ky_up g53 (b54 54) (.inl (1, ky_z 1 60))) b54 (ky_up (ky_up g53 (b54 54) (.inl (1, ky_z 1 60))) (b54 0) (.inr (8, [.ref (b54 1), .ref (b54 12), .ref (b54 23), .ref (b54 30), .ref (b54 37), .ref (b54 39), .ref (b54 40), .ref (b54 42), .ref (b54 44), .ref (b54 46), .ref (b54 47), .ref (b54 48), .ref (b54 53), .ref (b54 54), .null, .null, .int 0, .int 0]))) (fun j => j = 0) := kAl_fr r.1 (kfr_up r.1 kfr_rf rfl)
  have D := kCP_al D3 (by decide) hU fun j w => by omega
  have r := kAl_tr (Z := kL8) r hU fun j hj => ⟨hj, fun w => hj (by unfold kL8; omega)⟩
  have o : kCq b54 (ky_up (ky_up g53 (b54 54) (.inl (1, ky_z 1 60))) (b54 0) (.inr (8, [.ref (b54 1), .ref (b54 12), .ref (b54 23), .ref (b54 30), .ref (b54 37), .ref (b54 39), .ref (b54 40), .ref (b54 42), .ref (b54 44), .ref (b54 46), .ref (b54 47), .ref (b54 48), .ref (b54 53), .ref (b54 54), .null, .null, .int 0, .int 0]))) 55 := kz_same
  clear hB hU D3 o1 t0 h1
  generalize (ky_up (ky_up g53 (b54 54) (.inl (1, ky_z 1 60))) (b54 0) (.inr (8, [.ref (b54 1), .ref (b54 12), .ref (b54 23), .ref (b54 30), .ref (b54 37), .ref (b54 39), .ref (b54 40), .ref (b54 42), .ref (b54 44), .ref (b54 46), .ref (b54 47), .ref (b54 48), .ref (b54 53), .ref (b54 54), .null, .null, .int 0, .int 0]))) = g54 at o D r ⊢
  -- 55
  have h0 : g54 (b54 0) = some (.inr (8, [.ref (b54 1), .ref (b54 12), .ref (b54 23), .ref (b54 30), .ref (b54 37), .ref (b54 39), .ref (b54 40), .ref (b54 42), .ref (b54 44), .ref (b54 46), .ref (b54 47), .ref (b54 48), .ref (b54 53), .ref (b54 54), .null, .null, .int 0, .int 0])) := o
  intro q hq
  obtain ⟨b55, hB, e⟩ := kI_sw (t := 55) r.1 hq h0 (by omega) (.inl (1, ky_z 1 60))
  subst e
  have r := kAl_tr (Z := kL8) r hB fun j hj => ⟨hj, fun w => hj (by unfold kL8; omega)⟩
  have t0 := kAl_at hB (show ¬ 0 = 55 by omega) h0
  have D1 := kCP_al D (by decide) hB fun j w => by omega
  have o1 := kCq_al D o hB (by omega) fun j w => by omega
  have h1 : (ky_up g54 (b55 55) (.inl (1, ky_z 1 60))) (b55 0) = some (.inr (8, [.ref (b55 1), .ref (b55 12), .ref (b55 23), .ref (b55 30), .ref (b55 37), .ref (b55 39), .ref (b55 40), .ref (b55 42), .ref (b55 44), .ref (b55 46), .ref (b55 47), .ref (b55 48), .ref (b55 53), .ref (b55 54), .null, .null, .int 0, .int 0])) := o1
  simp only [← t0.1]
  repeat' (first | (refine ⟨Nat.le_of_ble_eq_true rfl, ?_⟩) | (refine ky_ok_stp rfl ?_; simp (disch := first | omega | assumption) only [ky_stp, ky_inv, ky_ldi, ky_ldl, ky_ldd, ky_lda, ky_cl2, ky_st1, ky_st2, ky_s1i, ky_s2i, ky_s1l, ky_s2l, ky_sli, ky_s1f, ky_s2f, ky_s1d, ky_s2d, ky_sr, ky_sai, ky_sasi, ky_sasl, ky_sasr, ky_svr, ky_sv, ky_sv2, ky_s1, ky_cs, ky_pop, ky_nth, ky_snt, ky_obj, ky_ari, ky_arl, ky_arr, ky_arn, ky_fv, ky_rcv, List.map_cons, List.map_nil, List.drop_succ_cons, List.drop_zero, Value.category, Nat.reduceAdd, Nat.reduceSub, true_and, and_true, true_or, or_true, reduceCtorEq, ite_true, ite_false, eq_self, Nat.reduceEqDiff, Nat.reduceLeDiff, nI_add, nI_1, nI_leI, nI_ltI, nI_eq, nI_clamp, kz_m1, kz_mn, kz_mn2, kz_n0, kz_0n, kz_0, kz_le0, kz_0lt, false_implies, true_implies, not_false_eq_true, not_true_eq_false, Nat.zero_le, kb_0, kz_10, kz_of, ky_sw, kz_mx, kz_mi, h1, kz_7, kz_60, kz_same, kz_uu, kz_8, L700, L4260, L54, L61, n2]) | (refine ⟨vp_in_nI (by omega) (by omega), ?_⟩) | (rw [if_neg (by decide)]; refine ⟨by decide, by decide, ?_⟩) | (refine ⟨by decide, by decide, ?_⟩) | (refine ⟨fun zc => ?_, fun zc => ?_⟩ <;> try (exfalso; omega)) | fail)
  obtain ⟨d1, d12, d23, d30, d37, d39, d40, d42, d44, d46, d47, d48, d53, d54, d55, d56⟩ := D1
  have D3 : kCP b55 (ky_up g54 (b55 55) (.inl (1, ky_z 1 60))) 56 := ⟨fun _ => d1 (by omega), fun _ => d12 (by omega), fun _ => d23 (by omega), fun _ => d30 (by omega), fun _ => d37 (by omega), fun _ => d39 (by omega), fun _ => d40 (by omega), fun _ => d42 (by omega), fun _ => d44 (by omega), fun _ => d46 (by omega), fun _ => d47 (by omega), fun _ => d48 (by omega), fun _ => d53 (by omega), fun _ => d54 (by omega), fun _ => kz_same, fun w => absurd w (by omega)⟩
  have hU : kAl b55 (ky_up g54 (b55 55) (.inl (1, ky_z 1 60))) b55 (ky_up (ky_up g54 (b55 55) (.inl (1, ky_z 1 60))) (b55 0) (.inr (8, [.ref (b55 1), .ref (b55 12), .ref (b55 23), .ref (b55 30), .ref (b55 37), .ref (b55 39), .ref (b55 40), .ref (b55 42), .ref (b55 44), .ref (b55 46), .ref (b55 47), .ref (b55 48), .ref (b55 53), .ref (b55 54), .ref (b55 55), .null, .int 0, .int 0]))) (fun j => j = 0) := kAl_fr r.1 (kfr_up r.1 kfr_rf rfl)
  have D := kCP_al D3 (by decide) hU fun j w => by omega
  have r := kAl_tr (Z := kL8) r hU fun j hj => ⟨hj, fun w => hj (by unfold kL8; omega)⟩
  have o : kCq b55 (ky_up (ky_up g54 (b55 55) (.inl (1, ky_z 1 60))) (b55 0) (.inr (8, [.ref (b55 1), .ref (b55 12), .ref (b55 23), .ref (b55 30), .ref (b55 37), .ref (b55 39), .ref (b55 40), .ref (b55 42), .ref (b55 44), .ref (b55 46), .ref (b55 47), .ref (b55 48), .ref (b55 53), .ref (b55 54), .ref (b55 55), .null, .int 0, .int 0]))) 56 := kz_same
  clear hB hU D3 o1 t0 h1
  generalize (ky_up (ky_up g54 (b55 55) (.inl (1, ky_z 1 60))) (b55 0) (.inr (8, [.ref (b55 1), .ref (b55 12), .ref (b55 23), .ref (b55 30), .ref (b55 37), .ref (b55 39), .ref (b55 40), .ref (b55 42), .ref (b55 44), .ref (b55 46), .ref (b55 47), .ref (b55 48), .ref (b55 53), .ref (b55 54), .ref (b55 55), .null, .int 0, .int 0]))) = g55 at o D r ⊢
  -- 56
  have h0 : g55 (b55 0) = some (.inr (8, [.ref (b55 1), .ref (b55 12), .ref (b55 23), .ref (b55 30), .ref (b55 37), .ref (b55 39), .ref (b55 40), .ref (b55 42), .ref (b55 44), .ref (b55 46), .ref (b55 47), .ref (b55 48), .ref (b55 53), .ref (b55 54), .ref (b55 55), .null, .int 0, .int 0])) := o
  intro q hq
  obtain ⟨b56, hB, e⟩ := kI_sw (t := 56) r.1 hq h0 (by omega) (.inl (3, ky_z 3 61))
  subst e
  have r := kAl_tr (Z := kL8) r hB fun j hj => ⟨hj, fun w => hj (by unfold kL8; omega)⟩
  have t0 := kAl_at hB (show ¬ 0 = 56 by omega) h0
  have D1 := kCP_al D (by decide) hB fun j w => by omega
  have o1 := kCq_al D o hB (by omega) fun j w => by omega
  have h1 : (ky_up g55 (b56 56) (.inl (3, ky_z 3 61))) (b56 0) = some (.inr (8, [.ref (b56 1), .ref (b56 12), .ref (b56 23), .ref (b56 30), .ref (b56 37), .ref (b56 39), .ref (b56 40), .ref (b56 42), .ref (b56 44), .ref (b56 46), .ref (b56 47), .ref (b56 48), .ref (b56 53), .ref (b56 54), .ref (b56 55), .null, .int 0, .int 0])) := o1
  simp only [← t0.1]
  repeat' (first | (refine ⟨Nat.le_of_ble_eq_true rfl, ?_⟩) | (refine ky_ok_stp rfl ?_; simp (disch := first | omega | assumption) only [ky_stp, ky_inv, ky_ldi, ky_ldl, ky_ldd, ky_lda, ky_cl2, ky_st1, ky_st2, ky_s1i, ky_s2i, ky_s1l, ky_s2l, ky_sli, ky_s1f, ky_s2f, ky_s1d, ky_s2d, ky_sr, ky_sai, ky_sasi, ky_sasl, ky_sasr, ky_svr, ky_sv, ky_sv2, ky_s1, ky_cs, ky_pop, ky_nth, ky_snt, ky_obj, ky_ari, ky_arl, ky_arr, ky_arn, ky_fv, ky_rcv, List.map_cons, List.map_nil, List.drop_succ_cons, List.drop_zero, Value.category, Nat.reduceAdd, Nat.reduceSub, true_and, and_true, true_or, or_true, reduceCtorEq, ite_true, ite_false, eq_self, Nat.reduceEqDiff, Nat.reduceLeDiff, nI_add, nI_1, nI_leI, nI_ltI, nI_eq, nI_clamp, kz_m1, kz_mn, kz_mn2, kz_n0, kz_0n, kz_0, kz_le0, kz_0lt, false_implies, true_implies, not_false_eq_true, not_true_eq_false, Nat.zero_le, kb_0, kz_10, kz_of, ky_sw, kz_mx, kz_mi, h1, kz_7, kz_60, kz_same, kz_uu, kz_8, L700, L4260, L54, L61, n2]) | (refine ⟨vp_in_nI (by omega) (by omega), ?_⟩) | (rw [if_neg (by decide)]; refine ⟨by decide, by decide, ?_⟩) | (refine ⟨by decide, by decide, ?_⟩) | (refine ⟨fun zc => ?_, fun zc => ?_⟩ <;> try (exfalso; omega)) | fail)
  obtain ⟨d1, d12, d23, d30, d37, d39, d40, d42, d44, d46, d47, d48, d53, d54, d55, d56⟩ := D1
  have D3 : kCP b56 (ky_up g55 (b56 56) (.inl (3, ky_z 3 61))) 57 := ⟨fun _ => d1 (by omega), fun _ => d12 (by omega), fun _ => d23 (by omega), fun _ => d30 (by omega), fun _ => d37 (by omega), fun _ => d39 (by omega), fun _ => d40 (by omega), fun _ => d42 (by omega), fun _ => d44 (by omega), fun _ => d46 (by omega), fun _ => d47 (by omega), fun _ => d48 (by omega), fun _ => d53 (by omega), fun _ => d54 (by omega), fun _ => d55 (by omega), fun _ => kz_same⟩
  have hU : kAl b56 (ky_up g55 (b56 56) (.inl (3, ky_z 3 61))) b56 (ky_up (ky_up g55 (b56 56) (.inl (3, ky_z 3 61))) (b56 0) (.inr (8, [.ref (b56 1), .ref (b56 12), .ref (b56 23), .ref (b56 30), .ref (b56 37), .ref (b56 39), .ref (b56 40), .ref (b56 42), .ref (b56 44), .ref (b56 46), .ref (b56 47), .ref (b56 48), .ref (b56 53), .ref (b56 54), .ref (b56 55), .ref (b56 56), .int 0, .int (-1)]))) (fun j => j = 0) := kAl_fr r.1 (kfr_up r.1 kfr_rf rfl)
  have D := kCP_al D3 (by decide) hU fun j w => by omega
  have r := kAl_tr (Z := kL8) r hU fun j hj => ⟨hj, fun w => hj (by unfold kL8; omega)⟩
  have ho : (ky_up (ky_up g55 (b56 56) (.inl (3, ky_z 3 61))) (b56 0) (.inr (8, [.ref (b56 1), .ref (b56 12), .ref (b56 23), .ref (b56 30), .ref (b56 37), .ref (b56 39), .ref (b56 40), .ref (b56 42), .ref (b56 44), .ref (b56 46), .ref (b56 47), .ref (b56 48), .ref (b56 53), .ref (b56 54), .ref (b56 55), .ref (b56 56), .int 0, .int (-1)]))) (b56 0) = some (.inr (8, [.ref (b56 1), .ref (b56 12), .ref (b56 23), .ref (b56 30), .ref (b56 37), .ref (b56 39), .ref (b56 40), .ref (b56 42), .ref (b56 44), .ref (b56 46), .ref (b56 47), .ref (b56 48), .ref (b56 53), .ref (b56 54), .ref (b56 55), .ref (b56 56), .int 0, .int (-1)])) := kz_same
  generalize (ky_up (ky_up g55 (b56 56) (.inl (3, ky_z 3 61))) (b56 0) (.inr (8, [.ref (b56 1), .ref (b56 12), .ref (b56 23), .ref (b56 30), .ref (b56 37), .ref (b56 39), .ref (b56 40), .ref (b56 42), .ref (b56 44), .ref (b56 46), .ref (b56 47), .ref (b56 48), .ref (b56 53), .ref (b56 54), .ref (b56 55), .ref (b56 56), .int 0, .int (-1)]))) = g0 at ho D r ⊢
  obtain ⟨d1, d12, d23, d30, d37, d39, d40, d42, d44, d46, d47, d48, d53, d54, d55, d56⟩ := D
  obtain ⟨z1, hn1, ⟨G1, hW1⟩, hS1⟩ := d1 (by decide)
  have y1 := kW_lv hW1
  simp (disch := first | omega | assumption) only [ky_stp, ky_inv, ky_ldi, ky_ldl, ky_ldd, ky_lda, ky_cl2, ky_st1, ky_st2, ky_s1i, ky_s2i, ky_s1l, ky_s2l, ky_sli, ky_s1f, ky_s2f, ky_s1d, ky_s2d, ky_sr, ky_sai, ky_sasi, ky_sasl, ky_sasr, ky_svr, ky_sv, ky_sv2, ky_s1, ky_cs, ky_pop, ky_nth, ky_snt, ky_obj, ky_ari, ky_arl, ky_arr, ky_arn, ky_fv, ky_rcv, List.map_cons, List.map_nil, List.drop_succ_cons, List.drop_zero, Value.category, Nat.reduceAdd, Nat.reduceSub, true_and, and_true, true_or, or_true, reduceCtorEq, ite_true, ite_false, eq_self, Nat.reduceEqDiff, Nat.reduceLeDiff, nI_add, nI_1, nI_leI, nI_ltI, nI_eq, nI_clamp, kz_m1, kz_mn, kz_mn2, kz_n0, kz_0n, kz_0, kz_le0, kz_0lt, false_implies, true_implies, not_false_eq_true, not_true_eq_false, Nat.zero_le, kb_0, kz_10, kz_of, ky_sw, kz_mx, kz_mi, ho, y1]
  refine kx43 (k := 1) r.1 hW1 hS1 ?_
  intro f2 S2 hW2 hS2 hF2 hS0
  simp only [ky_aft, ky_vl, Nat.reduceAdd]
  repeat' (first | (refine ky_ok_stp rfl ?_; simp (disch := first | omega | assumption) only [ky_stp, ky_inv, ky_ldi, ky_ldl, ky_ldd, ky_lda, ky_cl2, ky_st1, ky_st2, ky_s1i, ky_s2i, ky_s1l, ky_s2l, ky_sli, ky_s1f, ky_s2f, ky_s1d, ky_s2d, ky_sr, ky_sai, ky_sasi, ky_sasl, ky_sasr, ky_svr, ky_sv, ky_sv2, ky_s1, ky_cs, ky_pop, ky_nth, ky_snt, ky_obj, ky_ari, ky_arl, ky_arr, ky_arn, ky_fv, ky_rcv, List.map_cons, List.map_nil, List.drop_succ_cons, List.drop_zero, Value.category, Nat.reduceAdd, Nat.reduceSub, true_and, and_true, true_or, or_true, reduceCtorEq, ite_true, ite_false, eq_self, Nat.reduceEqDiff, Nat.reduceLeDiff, nI_add, nI_1, nI_leI, nI_ltI, nI_eq, nI_clamp, kz_m1, kz_mn, kz_mn2, kz_n0, kz_0n, kz_0, kz_le0, kz_0lt, false_implies, true_implies, not_false_eq_true, not_true_eq_false, Nat.zero_le, kb_0, kz_10, kz_of, ky_sw, kz_mx, kz_mi]) | (refine ⟨vp_in_nI (by omega) (by omega), ?_⟩) | (refine ⟨fun zc => ?_, fun zc => ?_⟩ <;> try (exfalso; omega)) | fail)
  have hF : ∀ j, ¬ (1 ≤ j ∧ j ≤ 11) → f2 (b56 j) = g0 (b56 j) := fun j hj => hF2 j fun w => by unfold kBl at w; omega
  have he : kZe kZ0 ⟨0, z1.R, S2⟩ := ⟨rfl, fun i hi => absurd hi (Nat.not_lt_zero i), fun l z1 z6 => hS0 l z1 z6⟩
  refine hQ b56 f2 ⟨⟨0, z1.R, S2⟩, 0, fun _ => kZ0, fun _ => none, fun _ => 0, 0, fun _ => 0, 0, fun _ => 0, 0, -1⟩ ⟨he, rfl, fun j hj => absurd hj (Nat.not_lt_zero j), fun i _ => Or.inl ⟨rfl, rfl⟩, rfl, rfl, fun _ _ => rfl, rfl, fun _ _ => rfl, rfl, rfl⟩ ⟨r.1, ⟨(hF 0 (by omega)).trans ho, ⟨⟨_, hW2⟩, hS2⟩, kHi_fr (d37 (by decide)) fun j hj => hF j (by omega), ⟨fun _ => none, (hF 39 (by omega)).trans (d39 (by decide)), fun i _ => Or.inl ⟨rfl, rfl⟩⟩, kB_fr (d40 (by decide)) (hF 40 (by omega)) (hF 41 (by omega)), kB_fr (d42 (by decide)) (hF 42 (by omega)) (hF 43 (by omega)), (hF 47 (by omega)).trans (d47 (by decide)), (hF 53 (by omega)).trans (d53 (by decide))⟩, ⟨?_, ?_, ?_, ⟨_, _, kB_fr (d44 (by decide)) (hF 44 (by omega)) (hF 45 (by omega))⟩, ⟨0, 0, 0, 0, 0, (hF 46 (by omega)).trans (d46 (by decide))⟩, kSc0_fr (d48 (by decide)) fun j z1 z2 => hF j (by omega), ⟨fun _ => 0, (hF 54 (by omega)).trans (d54 (by decide))⟩, ⟨fun _ => 0, (hF 55 (by omega)).trans (d55 (by decide))⟩, ⟨fun _ => 0, (hF 56 (by omega)).trans (d56 (by decide))⟩⟩, ⟨kZo_e he kZ0_ok, fun j hj => absurd hj (Nat.not_lt_zero j), fun i z _ hz => by cases hz⟩⟩ (kAl_tr r (kAl_fr r.1 hF2) fun j hj => ⟨hj, fun w => hj (by unfold kBl at w; unfold kL8; omega)⟩)
  · obtain ⟨z, hz⟩ := d12 (by decide)
    exact ⟨z, kZb_fr hz fun j z1 z2 => hF j (by omega)⟩
  · exact kNn_fr (d23 (by decide)) fun j z1 z2 => hF j (by omega)
  · exact kNn_fr (d30 (by decide)) fun j z1 z2 => hF j (by omega)
end KXC
