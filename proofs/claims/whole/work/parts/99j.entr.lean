/-! ## the law, from its entry -/
section KXM
variable {adK : Nat → Nat} {Q : ky_Q} {sc : Nat → Int32} {n : Nat}
theorem kI_put {a : Nat → Nat} (ha : kI a) (t q : Nat) : ∃ a', kI a' ∧ a' t = q ∧ ∀ j, j ≠ t → a j ≠ q → a' j = a j := by
  refine ⟨fun j => if j = t then q else if a j = q then a t else a j, fun i j h => ?_, if_pos rfl, fun j h1 h2 => by simp only; rw [if_neg h1, if_neg h2]⟩
  simp only at h
  by_cases i1 : i = t
  · rw [if_pos i1] at h
    by_cases j1 : j = t
    · rw [i1, j1]
    · rw [if_neg j1] at h
      by_cases j2 : a j = q
      · rw [if_pos j2] at h; exact absurd (ha _ _ (j2.trans h)) j1
      · rw [if_neg j2] at h; exact absurd h.symm j2
  · rw [if_neg i1] at h
    by_cases j1 : j = t
    · rw [if_pos j1] at h
      by_cases i2 : a i = q
      · rw [if_pos i2] at h; exact absurd (ha _ _ (i2.trans h.symm)) i1
      · rw [if_neg i2] at h; exact absurd h i2
    · rw [if_neg j1] at h
      by_cases i2 : a i = q
      · rw [if_pos i2] at h
        by_cases j2 : a j = q
        · exact ha _ _ (i2.trans j2.symm)
        · rw [if_neg j2] at h; exact absurd (ha _ _ h).symm j1
      · rw [if_neg i2] at h
        by_cases j2 : a j = q
        · rw [if_pos j2] at h; exact absurd (ha _ _ h) i1
        · rw [if_neg j2] at h; exact ha _ _ h
def kO8 : ky_E := .inr (8, [.null, .null, .null, .null, .null, .null, .null, .null, .null, .null, .null, .null, .null, .null, .null, .null, .int 0, .int 0])
def kO9 : ky_E := .inr (9, [.int 0, .null, .null, .null, .null, .null, .null, .null, .int 0, .null, .null, .null, .null, .int 0, .null, .int 0, .int 0, .int 0, .int 0, .int 0, .int 0, .int 0, .int 0, .null, .int 0, .null, .null, .null, .int 0])
set_option maxRecDepth 20000 in
theorem kx327 : ky_law := by
  intro adK sc n b hn
  obtain ⟨f0, hf0⟩ : ∃ f0 : ky_H, (fun q : Nat => if q = b then (some (.inl (5, n, .inl sc)) : Option ky_E) else none) = f0 := ⟨_, rfl⟩
  have hb : f0 b = some (.inl (5, n, .inl sc)) := by
    rw [← hf0]
    exact if_pos rfl
  show ky_ok adK 327 0 [some (.ref b), none, none, none, none, none, none, none, none] [] _ 0 0 _
  rw [hf0]
  clear hf0
  have q8 : (ky_GG adK).2.2.getD 8 [] = [.null, .null, .null, .null, .null, .null, .null, .null, .null, .null, .null, .null, .null, .null, .null, .null, .int 0, .int 0] := rfl
  have q9 : (ky_GG adK).2.2.getD 9 [] = [.int 0, .null, .null, .null, .null, .null, .null, .null, .int 0, .null, .null, .null, .null, .int 0, .null, .int 0, .int 0, .int 0, .int 0, .int 0, .int 0, .int 0, .int 0, .null, .int 0, .null, .null, .null, .int 0] := rfl
  repeat' (first | (refine ky_ok_stp rfl ?_; simp (disch := first | omega | assumption) only [ky_stp, ky_inv, ky_ldi, ky_ldl, ky_ldd, ky_lda, ky_cl2, ky_st1, ky_st2, ky_s1i, ky_s2i, ky_s1l, ky_s2l, ky_sli, ky_s1f, ky_s2f, ky_s1d, ky_s2d, ky_sr, ky_sai, ky_sasi, ky_sasl, ky_sasr, ky_svr, ky_sv, ky_sv2, ky_s1, ky_cs, ky_pop, ky_nth, ky_snt, ky_obj, ky_ari, ky_arl, ky_arr, ky_arn, ky_fv, ky_rcv, List.map_cons, List.map_nil, List.drop_succ_cons, List.drop_zero, Value.category, Nat.reduceAdd, Nat.reduceSub, true_and, and_true, true_or, or_true, reduceCtorEq, ite_true, ite_false, eq_self, Nat.reduceEqDiff, Nat.reduceLeDiff, nI_add, nI_1, nI_leI, nI_ltI, nI_eq, nI_clamp, kz_m1, kz_mn, kz_mn2, kz_n0, kz_0n, kz_0, kz_le0, kz_0lt, false_implies, true_implies, not_false_eq_true, not_true_eq_false, Nat.zero_le, kb_0, kz_10, kz_of, ky_sw, kz_mx, kz_mi, q8]) | (refine ⟨vp_in_nI (by omega) (by omega), ?_⟩) | (rw [if_neg (by decide)]; refine ⟨by decide, by decide, ?_⟩) | (refine ⟨by decide, by decide, ?_⟩) | (refine ⟨fun zc => ?_, fun zc => ?_⟩ <;> try (exfalso; omega)) | fail)
  intro q hq
  obtain ⟨a1, i1, e1, -⟩ := kI_put (a := fun j => j) (fun _ _ h => h) 0 q
  have hqb : q ≠ b := fun z => by rw [z, hb] at hq; cases hq
  obtain ⟨a, ha, e188, k188⟩ := kI_put i1 188 b
  have e0 : a 0 = q := (k188 0 (by decide) (by rw [e1]; exact hqb)).trans e1
  clear k188 e1 i1 hqb hq a1
  subst e188
  subst e0
  have h0 : (ky_up f0 (a 0) kO8) (a 0) = some kO8 := kz_same
  have hS : (ky_up f0 (a 0) kO8) (a 188) = some (.inl (5, n, .inl sc)) := (kz_ne (fun z => absurd (ha _ _ z) (by decide))).trans hb
  show ky_ok adK 327 3 _ _ (ky_up f0 (a 0) kO8) _ _ _
  generalize (ky_up f0 (a 0) kO8) = f1 at h0 hS ⊢
  repeat' (first | (refine ⟨Nat.le_of_ble_eq_true rfl, Nat.le_of_ble_eq_true rfl, kx88 ha h0 ?_⟩) | (refine ⟨Nat.le_of_ble_eq_true rfl, ?_⟩) | (refine ky_ok_stp rfl ?_; simp (disch := first | omega | assumption) only [ky_stp, ky_inv, ky_ldi, ky_ldl, ky_ldd, ky_lda, ky_cl2, ky_st1, ky_st2, ky_s1i, ky_s2i, ky_s1l, ky_s2l, ky_sli, ky_s1f, ky_s2f, ky_s1d, ky_s2d, ky_sr, ky_sai, ky_sasi, ky_sasl, ky_sasr, ky_svr, ky_sv, ky_sv2, ky_s1, ky_cs, ky_pop, ky_nth, ky_snt, ky_obj, ky_ari, ky_arl, ky_arr, ky_arn, ky_fv, ky_rcv, List.map_cons, List.map_nil, List.drop_succ_cons, List.drop_zero, Value.category, Nat.reduceAdd, Nat.reduceSub, true_and, and_true, true_or, or_true, reduceCtorEq, ite_true, ite_false, eq_self, Nat.reduceEqDiff, Nat.reduceLeDiff, nI_add, nI_1, nI_leI, nI_ltI, nI_eq, nI_clamp, kz_m1, kz_mn, kz_mn2, kz_n0, kz_0n, kz_0, kz_le0, kz_0lt, false_implies, true_implies, not_false_eq_true, not_true_eq_false, Nat.zero_le, kb_0, kz_10, kz_of, ky_sw, kz_mx, kz_mi]) | (refine ⟨vp_in_nI (by omega) (by omega), ?_⟩) | (rw [if_neg (by decide)]; refine ⟨by decide, by decide, ?_⟩) | (refine ⟨by decide, by decide, ?_⟩) | (refine ⟨fun zc => ?_, fun zc => ?_⟩ <;> try (exfalso; omega)) | fail)
  intro a2 f2 s2 hs2 hK hA
  have wS := kAl_at hA (show ¬ kL8 188 by unfold kL8; omega) hS
  have w0 := hA.2.2
  obtain ⟨kh0, kh1, kh2, kh23, kh30, kh40, kh42, ⟨_, kh37⟩, ⟨_, kh44⟩, ⟨_, kh46⟩, kh47, ⟨_, kh48⟩, ⟨_, kh12⟩, kh53⟩ := kK_hd hK
  simp only [← wS.1, ← w0]
  simp only [ky_aft, ky_vl, Nat.reduceAdd]
  repeat' (first | (refine ky_ok_stp rfl ?_; simp (disch := first | omega | assumption) only [ky_stp, ky_inv, ky_ldi, ky_ldl, ky_ldd, ky_lda, ky_cl2, ky_st1, ky_st2, ky_s1i, ky_s2i, ky_s1l, ky_s2l, ky_sli, ky_s1f, ky_s2f, ky_s1d, ky_s2d, ky_sr, ky_sai, ky_sasi, ky_sasl, ky_sasr, ky_svr, ky_sv, ky_sv2, ky_s1, ky_cs, ky_pop, ky_nth, ky_snt, ky_obj, ky_ari, ky_arl, ky_arr, ky_arn, ky_fv, ky_rcv, List.map_cons, List.map_nil, List.drop_succ_cons, List.drop_zero, Value.category, Nat.reduceAdd, Nat.reduceSub, true_and, and_true, true_or, or_true, reduceCtorEq, ite_true, ite_false, eq_self, Nat.reduceEqDiff, Nat.reduceLeDiff, nI_add, nI_1, nI_leI, nI_ltI, nI_eq, nI_clamp, kz_m1, kz_mn, kz_mn2, kz_n0, kz_0n, kz_0, kz_le0, kz_0lt, false_implies, true_implies, not_false_eq_true, not_true_eq_false, Nat.zero_le, kb_0, kz_10, kz_of, ky_sw, kz_mx, kz_mi, q9]) | (refine ⟨vp_in_nI (by omega) (by omega), ?_⟩) | (rw [if_neg (by decide)]; refine ⟨by decide, by decide, ?_⟩) | (refine ⟨by decide, by decide, ?_⟩) | (refine ⟨fun zc => ?_, fun zc => ?_⟩ <;> try (exfalso; omega)) | fail)
  intro q hq
  obtain ⟨a3, hB, e⟩ := kI_sw (t := 170) hK.1 hq kh0 (by omega) kO9
  subst e
  have vS := kAl_at hB (show ¬ 188 = 170 by omega) wS.2
  have v0 := kAl_at hB (show ¬ 0 = 170 by omega) kh0
  have hK3 := kK_hi hK hB fun j w => by have w : j = 170 := w; omega
  simp only [← vS.1, ← v0.1]
  have h9 : (ky_up f2 (a3 170) kO9) (a3 170) = some kO9 := kz_same
  show ky_ok adK 327 11 _ _ (ky_up f2 (a3 170) kO9) _ _ _
  generalize (ky_up f2 (a3 170) kO9) = f3 at h9 vS v0 hK3 hB ⊢
  repeat' (first | (refine ⟨Nat.le_of_ble_eq_true rfl, Nat.le_of_ble_eq_true rfl, kx166 v0.2 hK3.1 h9 ?_⟩) | (refine ⟨Nat.le_of_ble_eq_true rfl, ?_⟩) | (refine ky_ok_stp rfl ?_; simp (disch := first | omega | assumption) only [ky_stp, ky_inv, ky_ldi, ky_ldl, ky_ldd, ky_lda, ky_cl2, ky_st1, ky_st2, ky_s1i, ky_s2i, ky_s1l, ky_s2l, ky_sli, ky_s1f, ky_s2f, ky_s1d, ky_s2d, ky_sr, ky_sai, ky_sasi, ky_sasl, ky_sasr, ky_svr, ky_sv, ky_sv2, ky_s1, ky_cs, ky_pop, ky_nth, ky_snt, ky_obj, ky_ari, ky_arl, ky_arr, ky_arn, ky_fv, ky_rcv, List.map_cons, List.map_nil, List.drop_succ_cons, List.drop_zero, Value.category, Nat.reduceAdd, Nat.reduceSub, true_and, and_true, true_or, or_true, reduceCtorEq, ite_true, ite_false, eq_self, Nat.reduceEqDiff, Nat.reduceLeDiff, nI_add, nI_1, nI_leI, nI_ltI, nI_eq, nI_clamp, kz_m1, kz_mn, kz_mn2, kz_n0, kz_0n, kz_0, kz_le0, kz_0lt, false_implies, true_implies, not_false_eq_true, not_true_eq_false, Nat.zero_le, kb_0, kz_10, kz_of, ky_sw, kz_mx, kz_mi]) | (refine ⟨vp_in_nI (by omega) (by omega), ?_⟩) | (rw [if_neg (by decide)]; refine ⟨by decide, by decide, ?_⟩) | (refine ⟨by decide, by decide, ?_⟩) | (refine ⟨fun zc => ?_, fun zc => ?_⟩ <;> try (exfalso; omega)) | fail)
  intro a4 f4 g4 hM hg4 e170 hA4
  have uS := kAl_at hA4 (show ¬ kMF 188 by unfold kMF; omega) vS.2
  have u0 := hA4.2.2
  have hK4 := kK_hi hK3 hA4 fun j w => by unfold kMF at w; omega
  have hM4 := kM_e hM hs2
  have h00 := (kK_hd hK4).1
  simp only [← uS.1, ← u0, ← e170]
  simp only [ky_aft, ky_vl, Nat.reduceAdd]
  repeat' (first | (refine ky_ok_stp rfl ?_; simp (disch := first | omega | assumption) only [ky_stp, ky_inv, ky_ldi, ky_ldl, ky_ldd, ky_lda, ky_cl2, ky_st1, ky_st2, ky_s1i, ky_s2i, ky_s1l, ky_s2l, ky_sli, ky_s1f, ky_s2f, ky_s1d, ky_s2d, ky_sr, ky_sai, ky_sasi, ky_sasl, ky_sasr, ky_svr, ky_sv, ky_sv2, ky_s1, ky_cs, ky_pop, ky_nth, ky_snt, ky_obj, ky_ari, ky_arl, ky_arr, ky_arn, ky_fv, ky_rcv, List.map_cons, List.map_nil, List.drop_succ_cons, List.drop_zero, Value.category, Nat.reduceAdd, Nat.reduceSub, true_and, and_true, true_or, or_true, reduceCtorEq, ite_true, ite_false, eq_self, Nat.reduceEqDiff, Nat.reduceLeDiff, nI_add, nI_1, nI_leI, nI_ltI, nI_eq, nI_clamp, kz_m1, kz_mn, kz_mn2, kz_n0, kz_0n, kz_0, kz_le0, kz_0lt, false_implies, true_implies, not_false_eq_true, not_true_eq_false, Nat.zero_le, kb_0, kz_10, kz_of, ky_sw, kz_mx, kz_mi, kz_1]) | (refine ⟨vp_in_nI (by omega) (by omega), ?_⟩) | (rw [if_neg (by decide)]; refine ⟨by decide, by decide, ?_⟩) | (refine ⟨by decide, by decide, ?_⟩) | (refine ⟨fun zc => ?_, fun zc => ?_⟩ <;> try (exfalso; omega)) | fail)
  intro q hq
  obtain ⟨a5, hB5, e⟩ := kI_sw (t := 187) hK4.1 hq h00 (by omega) (.inl (2, ky_z 2 1))
  subst e
  have tS := kAl_at hB5 (show ¬ 188 = 187 by omega) uS.2
  have t0 := kAl_at hB5 (show ¬ 0 = 187 by omega) h00
  have t170 := kAl_at hB5 (show ¬ 170 = 187 by omega) hM4.2.1
  have hK5 := kK_hi hK4 hB5 fun j w => by have w : j = 187 := w; omega
  have hM5 := kM_al hM4 hB5 fun j w => by have w : j = 187 := w; omega
  simp only [← tS.1, ← t0.1, ← t170.1]
  have hI : kLI a5 (ky_up f4 (a5 187) (.inl (2, ky_z 2 1))) g4 s2 sc n := ⟨hK5, hM5, ⟨_, kz_same⟩, tS.2⟩
  repeat' (first | (exact kx327l (B1 := 601024) (B2 := 7293034) ⟨Nat.le_of_eq ky_ce327.symm, Nat.le_of_eq ky_so327.symm⟩ (Nat.lt_of_le_of_lt hn (by decide)) (fun _ => rfl) 512 0 a5 _ g4 s2 _ _ _ _ _ _ (Nat.lt_of_le_of_lt hn (by decide)) (Nat.lt_of_lt_of_le (by decide) (Nat.le_add_left 6 n)) ⟨by decide, by decide⟩ hI) | (refine ky_ok_stp rfl ?_; simp (disch := first | omega | assumption) only [ky_stp, ky_inv, ky_ldi, ky_ldl, ky_ldd, ky_lda, ky_cl2, ky_st1, ky_st2, ky_s1i, ky_s2i, ky_s1l, ky_s2l, ky_sli, ky_s1f, ky_s2f, ky_s1d, ky_s2d, ky_sr, ky_sai, ky_sasi, ky_sasl, ky_sasr, ky_svr, ky_sv, ky_sv2, ky_s1, ky_cs, ky_pop, ky_nth, ky_snt, ky_obj, ky_ari, ky_arl, ky_arr, ky_arn, ky_fv, ky_rcv, List.map_cons, List.map_nil, List.drop_succ_cons, List.drop_zero, Value.category, Nat.reduceAdd, Nat.reduceSub, true_and, and_true, true_or, or_true, reduceCtorEq, ite_true, ite_false, eq_self, Nat.reduceEqDiff, Nat.reduceLeDiff, nI_add, nI_1, nI_leI, nI_ltI, nI_eq, nI_clamp, kz_m1, kz_mn, kz_mn2, kz_n0, kz_0n, kz_0, kz_le0, kz_0lt, false_implies, true_implies, not_false_eq_true, not_true_eq_false, Nat.zero_le, kb_0, kz_10, kz_of, ky_sw, kz_mx, kz_mi]) | (refine ⟨vp_in_nI (by omega) (by omega), ?_⟩) | (rw [if_neg (by decide)]; refine ⟨by decide, by decide, ?_⟩) | (refine ⟨by decide, by decide, ?_⟩) | (refine ⟨fun zc => ?_, fun zc => ?_⟩ <;> try (exfalso; omega)) | fail)
end KXM
