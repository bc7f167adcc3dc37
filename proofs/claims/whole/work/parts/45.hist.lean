/-! ## what was ahead of the acts -/
def kCons (z : kZ) (u : Nat → kZ) : Nat → kZ := fun j => if j = 0 then z else u (j - 1)
def kHF (j : Nat) : Prop := j = 37 ∨ j = 38 ∨ 60 ≤ j ∧ j < 148
section KXH
variable {adK a : Nat → Nat} {f : ky_H} {Q : ky_Q} {un : Nat} {u : Nat → kZ} {z : kZ}
theorem kx8 (ha : kI a) (h : kHi a f un u) (hQ : ∀ f', kHi a f' 0 u → kfr a f f' (fun j => j = 37) → Q (.inl none) f') : ky_cl adK 8 [.ref (a 37)] f Q := by
  obtain ⟨nx, g, n8, x8, e37, e38, hg, hu⟩ := h
  refine ⟨Nat.le_of_ble_eq_true rfl, fun z => absurd z (by decide), ?_⟩; show ky_ok adK 8 0 [some (.ref (a 37))] [] f 0 0 _
  repeat' (first | (refine ky_ok_stp rfl ?_; simp (disch := first | omega | assumption) only [ky_stp, ky_inv, ky_ldi, ky_ldl, ky_ldd, ky_lda, ky_cl2, ky_st1, ky_st2, ky_s1i, ky_s2i, ky_s1l, ky_s2l, ky_sli, ky_s1f, ky_s2f, ky_s1d, ky_s2d, ky_sr, ky_sai, ky_sasi, ky_sasl, ky_sasr, ky_svr, ky_sv, ky_sv2, ky_s1, ky_cs, ky_pop, ky_nth, ky_snt, ky_obj, ky_ari, ky_arl, ky_arr, ky_arn, ky_fv, ky_rcv, List.map_cons, List.map_nil, List.drop_succ_cons, List.drop_zero, Value.category, Nat.reduceAdd, Nat.reduceSub, true_and, and_true, true_or, or_true, reduceCtorEq, ite_true, ite_false, eq_self, Nat.reduceEqDiff, Nat.reduceLeDiff, nI_add, nI_1, nI_leI, nI_ltI, nI_eq, nI_clamp, kz_m1, kz_mn, kz_mn2, kz_n0, kz_0n, kz_0, kz_le0, kz_0lt, false_implies, true_implies, not_false_eq_true, not_true_eq_false, Nat.zero_le, kb_0, kz_10, kz_of, ky_sw, kz_mx, kz_mi, e37]) | (refine ⟨vp_in_nI (by omega) (by omega), ?_⟩) | (refine ⟨fun zc => ?_, fun zc => ?_⟩ <;> try (exfalso; omega)) | fail)
  refine hQ _ ⟨nx, g, by omega, x8, kz_same, (kz_ne (fun z => absurd (ha _ _ z) (by decide))).trans e38, fun i hi => ?_, fun j hj => absurd hj (Nat.not_lt_zero j)⟩ (kfr_up ha kfr_rf rfl)
  rcases hg i hi with h | ⟨h, z, hz⟩
  · exact Or.inl h
  · exact Or.inr ⟨h, z, kZb_fr hz fun t z1 z2 => kz_ne fun z => absurd (ha _ _ z) (by omega)⟩
theorem kz_fm1 : ∀ n, n < 9 → ky_fm (nI n) 8 = nI (n % 8) := by decide +kernel
theorem kz_fm2 : ∀ n, n < 8 → ky_fm (nI n - 1) 8 = nI ((n + 7) % 8) := by decide +kernel
theorem kz_80 : ((8 : Int32) = 0) = False := by decide
theorem kx7 (ha : kI a) (h : kHi a f un u) (h0 : 0 < un) (hu60 : (u 0).n ≤ 60) (hz : kZb a 1 f z) (hQ : ∀ f' z', kZe (u 0) z' → kZb a 1 f' z' → kHi a f' (un - 1) (fun j => u (j + 1)) → kfr a f f' (fun j => j = 37 ∨ kBl 1 j) → Q (.inl none) f') : ky_cl adK 7 [.ref (a 37), .ref (a 1)] f Q := by
  obtain ⟨nx, g, n8, x8, e37, e38, hg, hu⟩ := h
  obtain ⟨u1, u2⟩ := hu 0 h0
  rw [Nat.sub_zero] at u1 u2
  obtain ⟨⟨G, hW⟩, hS⟩ := hz
  have f2 := kz_fm2 nx x8
  have hm : (nx + 7) % 8 < 8 := Nat.mod_lt _ (by decide)
  generalize hix : (nx + 7) % 8 = ix at u1 u2 f2 hm
  obtain ⟨⟨G2, hW2⟩, hS2⟩ := u2
  have y1 := hW.1.1
  have y2 := hW2.1.1
  refine ⟨Nat.le_of_ble_eq_true rfl, fun z => absurd z (by decide), ?_⟩; show ky_ok adK 7 0 [some (.ref (a 37)), some (.ref (a 1)), none, none] [] f 0 0 _
  repeat' (first | (refine ⟨vp_in_nI (n := ix) (by omega) (by omega), ?_⟩) | (refine kx44 (k := 1) (k2 := 60 + 11 * ix) ha (by omega) hW hS hW2 hS2 hu60 ?_) | (refine ky_ok_stp rfl ?_; simp (disch := first | omega | assumption) only [ky_stp, ky_inv, ky_ldi, ky_ldl, ky_ldd, ky_lda, ky_cl2, ky_st1, ky_st2, ky_s1i, ky_s2i, ky_s1l, ky_s2l, ky_sli, ky_s1f, ky_s2f, ky_s1d, ky_s2d, ky_sr, ky_sai, ky_sasi, ky_sasl, ky_sasr, ky_svr, ky_sv, ky_sv2, ky_s1, ky_cs, ky_pop, ky_nth, ky_snt, ky_obj, ky_ari, ky_arl, ky_arr, ky_arn, ky_fv, ky_rcv, List.map_cons, List.map_nil, List.drop_succ_cons, List.drop_zero, Value.category, Nat.reduceAdd, Nat.reduceSub, true_and, and_true, true_or, or_true, reduceCtorEq, ite_true, ite_false, eq_self, Nat.reduceEqDiff, Nat.reduceLeDiff, nI_add, nI_1, nI_leI, nI_ltI, nI_eq, nI_clamp, kz_m1, kz_mn, kz_mn2, kz_n0, kz_0n, kz_0, kz_le0, kz_0lt, false_implies, true_implies, not_false_eq_true, not_true_eq_false, Nat.zero_le, kb_0, kz_10, kz_of, ky_sw, kz_mx, kz_mi, e37, e38, f2, u1, kz_80, va_rf, y1]) | (refine ⟨vp_in_nI (by omega) (by omega), ?_⟩) | (refine ⟨fun zc => ?_, fun zc => ?_⟩ <;> try (exfalso; omega)) | fail)
  intro f1 R1 G1 S1 hW1 hS1 hF1 hR hSq
  simp only [ky_aft, ky_vl, Nat.reduceAdd]
  have e37' : f1 (a 37) = _ := (hF1 37 (by unfold kBl; omega)).trans e37
  repeat' (first | (refine ky_ok_stp rfl ?_; simp (disch := first | omega | assumption) only [ky_stp, ky_inv, ky_ldi, ky_ldl, ky_ldd, ky_lda, ky_cl2, ky_st1, ky_st2, ky_s1i, ky_s2i, ky_s1l, ky_s2l, ky_sli, ky_s1f, ky_s2f, ky_s1d, ky_s2d, ky_sr, ky_sai, ky_sasi, ky_sasl, ky_sasr, ky_svr, ky_sv, ky_sv2, ky_s1, ky_cs, ky_pop, ky_nth, ky_snt, ky_obj, ky_ari, ky_arl, ky_arr, ky_arn, ky_fv, ky_rcv, List.map_cons, List.map_nil, List.drop_succ_cons, List.drop_zero, Value.category, Nat.reduceAdd, Nat.reduceSub, true_and, and_true, true_or, or_true, reduceCtorEq, ite_true, ite_false, eq_self, Nat.reduceEqDiff, Nat.reduceLeDiff, nI_add, nI_1, nI_leI, nI_ltI, nI_eq, nI_clamp, kz_m1, kz_mn, kz_mn2, kz_n0, kz_0n, kz_0, kz_le0, kz_0lt, false_implies, true_implies, not_false_eq_true, not_true_eq_false, Nat.zero_le, kb_0, kz_10, kz_of, ky_sw, kz_mx, kz_mi, e37', kz_up, kI_ne ha, kz_uu, nI_sub h0, kz_same]) | (refine ⟨vp_in_nI (by omega) (by omega), ?_⟩) | (refine ⟨fun zc => ?_, fun zc => ?_⟩ <;> try (exfalso; omega)) | fail)
  have hpred : nI un - 1 = nI (un - 1) := nI_sub h0
  have hne : ∀ j, ¬ j = 37 → ∀ e, ky_up f1 (a 37) e (a j) = f1 (a j) := fun j hj e => kz_ne fun z => hj (ha _ _ z)
  refine hQ _ ⟨(u 0).n, R1, S1⟩ ⟨rfl, hR, hSq⟩ (kZb_fr ⟨⟨G1, hW1⟩, hS1⟩ fun j z1 z2 => hne j (by omega) _) ⟨ix, g, by omega, hm, by rw [kz_same, hpred], (hne 38 (by omega) _).trans ((hF1 38 (by unfold kBl; omega)).trans e38), fun i hi => ?_, fun j hj => ?_⟩ ?_
  · rcases hg i hi with h | ⟨h, z, hz⟩
    · exact Or.inl h
    · exact Or.inr ⟨h, z, kZb_fr hz fun t z1 z2 => (hne t (by omega) _).trans (hF1 t (by unfold kBl; omega))⟩
  · have e : (ix + 7 - j) % 8 = (nx + 7 - (j + 1)) % 8 := by omega
    rw [e]
    obtain ⟨v1, v2⟩ := hu (j + 1) (by omega)
    have hm2 : (nx + 7 - (j + 1)) % 8 < 8 := Nat.mod_lt _ (by decide)
    exact ⟨v1, kZb_fr v2 fun t z1 z2 => (hne t (by omega) _).trans (hF1 t (by unfold kBl; omega))⟩
  · intro j hj
    exact (hne j (fun z => hj (Or.inl z)) _).trans (hF1 j fun z => hj (Or.inr z))
theorem kx6 {e00 : ky_E} (h00 : f (a 0) = some e00) (ha : kI a) (h : kHi a f un u) (hz60 : z.n ≤ 60) (hz : kZb a 1 f z) (hQ : ∀ a' f' z' B, kAl a f a' f' kHF → a' 37 = a 37 → 60 ≤ B → B + 10 < 148 → kZe z z' → kZb a' B f' z' → kZb a' 1 f' z → kHi a' f' (min (un + 1) 8) (kCons z' u) → Q (.inl (some (.ref (a' B)))) f') : ky_cl adK 6 [.ref (a 37), .ref (a 1)] f Q := by
  obtain ⟨nx, g, n8, x8, e37, e38, hg, hu⟩ := h
  have q1 := kz_fm1 nx (by omega)
  rw [Nat.mod_eq_of_lt x8] at q1
  have q2 := kz_fm1 (nx + 1) (by omega)
  -- from the copy on
  have tail : ∀ b f1 g' zB cn sn, cn ≤ ky_ce 6 → sn ≤ ky_so 6 → kAl a f b f1 kHF → b 37 = a 37 → f1 (b 37) = some (.inr (1, [.int (nI un), .int (nI nx), .ref (b 38)])) → f1 (b 38) = some (.inl (4, 8, .inr (.inr (.inr (.inr g'))))) → g' nx = some (b (60 + 11 * nx)) → kZb b (60 + 11 * nx) f1 zB → kZb b 1 f1 z →
      (∀ i, i < 8 → i ≠ nx → g' i = none ∨ g' i = some (b (60 + 11 * i)) ∧ ∃ z, kZb b (60 + 11 * i) f1 z) →
      (∀ j, j < un → j < 7 → g' ((nx + 7 - j) % 8) = some (b (60 + 11 * ((nx + 7 - j) % 8))) ∧ kZb b (60 + 11 * ((nx + 7 - j) % 8)) f1 (u j)) →
      ky_ok adK 6 36 [some (.ref (b 37)), some (.ref (b 1)), some (.int (nI nx)), some (.ref (b (60 + 11 * nx)))] [] f1 cn sn Q := by
    intro b f1 g' zB cn sn hcn hsn hA hb37 e37 e38 hgn hzB hz1 hg' hu'
    have hb := hA.1
    obtain ⟨⟨G, hW⟩, hS⟩ := hz1
    obtain ⟨⟨G2, hW2⟩, hS2⟩ := hzB
    have y2 := hW2.1.1
    repeat' (first | (refine ⟨hcn, hsn, ?_⟩) | (refine kx44 (k := 60 + 11 * nx) (k2 := 1) hb (by omega) hW2 hS2 hW hS hz60 ?_) | (refine ky_ok_stp rfl ?_; simp (disch := first | omega | assumption) only [ky_stp, ky_inv, ky_ldi, ky_ldl, ky_ldd, ky_lda, ky_cl2, ky_st1, ky_st2, ky_s1i, ky_s2i, ky_s1l, ky_s2l, ky_sli, ky_s1f, ky_s2f, ky_s1d, ky_s2d, ky_sr, ky_sai, ky_sasi, ky_sasl, ky_sasr, ky_svr, ky_sv, ky_sv2, ky_s1, ky_cs, ky_pop, ky_nth, ky_snt, ky_obj, ky_ari, ky_arl, ky_arr, ky_arn, ky_fv, ky_rcv, List.map_cons, List.map_nil, List.drop_succ_cons, List.drop_zero, Value.category, Nat.reduceAdd, Nat.reduceSub, true_and, and_true, true_or, or_true, reduceCtorEq, ite_true, ite_false, eq_self, Nat.reduceEqDiff, Nat.reduceLeDiff, nI_add, nI_1, nI_leI, nI_ltI, nI_eq, nI_clamp, kz_m1, kz_mn, kz_mn2, kz_n0, kz_0n, kz_0, kz_le0, kz_0lt, false_implies, true_implies, not_false_eq_true, not_true_eq_false, Nat.zero_le, kb_0, kz_10, kz_of, ky_sw, kz_mx, kz_mi, y2]) | (refine ⟨vp_in_nI (by omega) (by omega), ?_⟩) | (rw [if_neg (by decide)]; refine ⟨by decide, by decide, ?_⟩) | (refine ⟨by decide, by decide, ?_⟩) | (refine ⟨fun zc => ?_, fun zc => ?_⟩ <;> try (exfalso; omega)) | fail)
    intro f2 R2 G3 S2 hW3 hS3 hF2 hR hSq
    simp only [ky_aft, ky_vl, Nat.reduceAdd]
    have e37' : f2 (b 37) = _ := (hF2 37 (by unfold kBl; omega)).trans e37
    have h88 : min 8 (un + 1) = min (un + 1) 8 := Nat.min_comm _ _
    have q2b : ky_fm (nI (nx + 1)) (nI 8) = nI ((nx + 1) % 8) := q2
    repeat' (first | (refine ky_ok_stp rfl ?_; simp (disch := first | omega | assumption) only [ky_stp, ky_inv, ky_ldi, ky_ldl, ky_ldd, ky_lda, ky_cl2, ky_st1, ky_st2, ky_s1i, ky_s2i, ky_s1l, ky_s2l, ky_sli, ky_s1f, ky_s2f, ky_s1d, ky_s2d, ky_sr, ky_sai, ky_sasi, ky_sasl, ky_sasr, ky_svr, ky_sv, ky_sv2, ky_s1, ky_cs, ky_pop, ky_nth, ky_snt, ky_obj, ky_ari, ky_arl, ky_arr, ky_arn, ky_fv, ky_rcv, List.map_cons, List.map_nil, List.drop_succ_cons, List.drop_zero, Value.category, Nat.reduceAdd, Nat.reduceSub, true_and, and_true, true_or, or_true, reduceCtorEq, ite_true, ite_false, eq_self, Nat.reduceEqDiff, Nat.reduceLeDiff, nI_add, nI_1, nI_leI, nI_ltI, nI_eq, nI_clamp, kz_m1, kz_mn, kz_mn2, kz_n0, kz_0n, kz_0, kz_le0, kz_0lt, false_implies, true_implies, not_false_eq_true, not_true_eq_false, Nat.zero_le, kb_0, kz_10, kz_of, ky_sw, kz_mx, kz_mi, e37', q2, q2b, kz_80, kz_uu, kz_same, kz_8, h88]) | (refine ⟨vp_in_nI (by omega) (by omega), ?_⟩) | (rw [if_neg (by decide)]; refine ⟨by decide, by decide, ?_⟩) | (refine ⟨by decide, by decide, ?_⟩) | (refine ⟨fun zc => ?_, fun zc => ?_⟩ <;> try (exfalso; omega)) | fail)
    have hne : ∀ j, ¬ j = 37 → ∀ e, ky_up f2 (b 37) e (b j) = f2 (b j) := fun j hj e => kz_ne fun z => hj (hb _ _ z)
    refine hQ b _ ⟨z.n, R2, S2⟩ (60 + 11 * nx) (kAl_tr hA (kAl_fr hb (kfr_up (S := kHF) hb (fun j hj => hF2 j fun w => hj (by unfold kBl at w; unfold kHF; omega)) (Or.inl rfl))) fun j hj => ⟨hj, hj⟩) hb37 (by omega) (by omega) ⟨rfl, hR, hSq⟩ (kZb_fr ⟨⟨G3, hW3⟩, hS3⟩ fun j z1 z2 => hne j (by omega) _) (kZb_fr ⟨⟨G, hW⟩, hS⟩ fun j z1 z2 => (hne j (by omega) _).trans (hF2 j (by unfold kBl; omega))) ⟨(nx + 1) % 8, g', by omega, Nat.mod_lt _ (by decide), by rw [kz_same], (hne 38 (by omega) _).trans ((hF2 38 (by unfold kBl; omega)).trans e38), fun i hi => ?_, fun j hj => ?_⟩
    · by_cases e : i = nx
      · subst e
        exact Or.inr ⟨hgn, ⟨z.n, R2, S2⟩, kZb_fr ⟨⟨G3, hW3⟩, hS3⟩ fun j z1 z2 => hne j (by omega) _⟩
      · rcases hg' i hi e with h | ⟨h, w, hw⟩
        · exact Or.inl h
        · exact Or.inr ⟨h, w, kZb_fr hw fun t z1 z2 => (hne t (by omega) _).trans (hF2 t (by unfold kBl; omega))⟩
    · by_cases e : j = 0
      · subst e
        rw [show ((nx + 1) % 8 + 7 - 0) % 8 = nx by omega]
        exact ⟨hgn, kZb_fr ⟨⟨G3, hW3⟩, hS3⟩ fun j z1 z2 => hne j (by omega) _⟩
      · rw [show ((nx + 1) % 8 + 7 - j) % 8 = (nx + 7 - (j - 1)) % 8 by omega]
        obtain ⟨v1, v2⟩ := hu' (j - 1) (by omega) (by omega)
        have hm2 : (nx + 7 - (j - 1)) % 8 < 8 := Nat.mod_lt _ (by decide)
        refine ⟨v1, ?_⟩
        have ek : kCons ⟨z.n, R2, S2⟩ u j = u (j - 1) := if_neg e
        rw [ek]
        exact kZb_fr v2 fun t z1 z2 => (hne t (by omega) _).trans (hF2 t (by unfold kBl; omega))
  have hd3 : (ky_GG adK).2.2.getD 3 [] = [.int 0, .null, .null, .null, .null, .null, .null] := rfl
  refine ⟨Nat.le_of_ble_eq_true rfl, fun z => absurd z (by decide), ?_⟩; show ky_ok adK 6 0 [some (.ref (a 37)), some (.ref (a 1)), none, none] [] f 0 0 _
  rcases hg nx x8 with hgn | ⟨hgn, zB, hzB⟩
  · repeat' (first | (refine ⟨vp_in_nI (n := nx) (by omega) (by omega), ?_⟩) | (refine ky_ok_stp rfl ?_; simp (disch := first | omega | assumption) only [ky_stp, ky_inv, ky_ldi, ky_ldl, ky_ldd, ky_lda, ky_cl2, ky_st1, ky_st2, ky_s1i, ky_s2i, ky_s1l, ky_s2l, ky_sli, ky_s1f, ky_s2f, ky_s1d, ky_s2d, ky_sr, ky_sai, ky_sasi, ky_sasl, ky_sasr, ky_svr, ky_sv, ky_sv2, ky_s1, ky_cs, ky_pop, ky_nth, ky_snt, ky_obj, ky_ari, ky_arl, ky_arr, ky_arn, ky_fv, ky_rcv, List.map_cons, List.map_nil, List.drop_succ_cons, List.drop_zero, Value.category, Nat.reduceAdd, Nat.reduceSub, true_and, and_true, true_or, or_true, reduceCtorEq, ite_true, ite_false, eq_self, Nat.reduceEqDiff, Nat.reduceLeDiff, nI_add, nI_1, nI_leI, nI_ltI, nI_eq, nI_clamp, kz_m1, kz_mn, kz_mn2, kz_n0, kz_0n, kz_0, kz_le0, kz_0lt, false_implies, true_implies, not_false_eq_true, not_true_eq_false, Nat.zero_le, kb_0, kz_10, kz_of, ky_sw, kz_mx, kz_mi, e37, e38, q1, kz_80, hgn, va_rf, hd3]) | (refine ⟨vp_in_nI (by omega) (by omega), ?_⟩) | (rw [if_neg (by decide)]; refine ⟨by decide, by decide, ?_⟩) | (refine ⟨by decide, by decide, ?_⟩) | (refine ⟨fun zc => ?_, fun zc => ?_⟩ <;> try (exfalso; omega)) | fail)
    intro q hq
    obtain ⟨b, hB, e⟩ := kI_sw (t := 60 + 11 * nx) ha hq h00 (by omega) (.inr (3, [.int 0, .null, .null, .null, .null, .null, .null]))
    subst e
    have v00 := kAl_at hB (show ¬ 0 = 60 + 11 * nx by omega) h00
    have t37 := kAl_at hB (show ¬ 37 = 60 + 11 * nx by omega) e37
    have t38 := kAl_at hB (show ¬ 38 = 60 + 11 * nx by omega) e38
    have t1 := kAl_at hB (show ¬ 1 = 60 + 11 * nx by omega) hz.1.choose_spec.1.1
    have hb := hB.1
    have t37' := t37.2
    rw [← t38.1] at t37'
    simp only [← t37.1, ← t1.1]
    repeat' (first | (refine kx24 (k := 60 + 11 * nx) v00.2 (by omega) hb kz_same ?_) | (refine ky_ok_stp rfl ?_; simp (disch := first | omega | assumption) only [ky_stp, ky_inv, ky_ldi, ky_ldl, ky_ldd, ky_lda, ky_cl2, ky_st1, ky_st2, ky_s1i, ky_s2i, ky_s1l, ky_s2l, ky_sli, ky_s1f, ky_s2f, ky_s1d, ky_s2d, ky_sr, ky_sai, ky_sasi, ky_sasl, ky_sasr, ky_svr, ky_sv, ky_sv2, ky_s1, ky_cs, ky_pop, ky_nth, ky_snt, ky_obj, ky_ari, ky_arl, ky_arr, ky_arn, ky_fv, ky_rcv, List.map_cons, List.map_nil, List.drop_succ_cons, List.drop_zero, Value.category, Nat.reduceAdd, Nat.reduceSub, true_and, and_true, true_or, or_true, reduceCtorEq, ite_true, ite_false, eq_self, Nat.reduceEqDiff, Nat.reduceLeDiff, nI_add, nI_1, nI_leI, nI_ltI, nI_eq, nI_clamp, kz_m1, kz_mn, kz_mn2, kz_n0, kz_0n, kz_0, kz_le0, kz_0lt, false_implies, true_implies, not_false_eq_true, not_true_eq_false, Nat.zero_le, kb_0, kz_10, kz_of, ky_sw, kz_mx, kz_mi, t37', q1, kz_same]) | (refine ⟨vp_in_nI (by omega) (by omega), ?_⟩) | (rw [if_neg (by decide)]; refine ⟨by decide, by decide, ?_⟩) | (refine ⟨by decide, by decide, ?_⟩) | (refine ⟨fun zc => ?_, fun zc => ?_⟩ <;> try (exfalso; omega)) | fail)
    intro c g1 hC hCk hZ
    obtain ⟨z0, -, hz0⟩ := hZ
    simp only [ky_aft, ky_vl, Nat.reduceAdd]
    have hc := hC.1
    have u37 := kAl_at hC (show ¬ (60 + 11 * nx ≤ 37 ∧ 37 ≤ 60 + 11 * nx + 10) by omega) t37'
    have u38 := kAl_at hC (show ¬ (60 + 11 * nx ≤ 38 ∧ 38 ≤ 60 + 11 * nx + 10) by omega) t38.2
    have u1 := kAl_at hC (show ¬ (60 + 11 * nx ≤ 1 ∧ 1 ≤ 60 + 11 * nx + 10) by omega) t1.2
    have u37' := u37.2
    rw [← u38.1] at u37'
    have y0 := hz0.1.choose_spec.1.1
    simp only [← u37.1, ← u1.1, ← hCk]
    have hA1 : kAl a f c g1 (fun j => 60 + 11 * nx ≤ j ∧ j ≤ 60 + 11 * nx + 10) := kAl_tr hB hC fun j hj => ⟨by omega, hj⟩
    have hz1 : kZb c 1 g1 z := kZb_al hz hA1 fun j z1 z2 => by omega
    have hne : ∀ j, ¬ j = 38 → ∀ e, ky_up g1 (c 38) e (c j) = g1 (c j) := fun j hj e => kz_ne fun z => hj (hc _ _ z)
    have hA2 : kAl a f c (ky_up g1 (c 38) (.inl (4, 8, .inr (.inr (.inr (.inr (va_up g nx (some (c (60 + 11 * nx)))))))))) kHF := kAl_tr hA1 (kAl_fr hc (kfr_up (S := fun j => j = 38) hc kfr_rf rfl)) fun j hj => ⟨fun w => hj (by unfold kHF; omega), fun w => hj (by unfold kHF; omega)⟩
    repeat' (first | (refine ⟨vp_in_nI (n := nx) (by omega) (by omega), ?_⟩) | (refine tail c _ _ z0 _ _ (by decide) (by decide) hA2 (u37.1.trans t37.1) ((hne 37 (by omega) _).trans u37') kz_same ?_ (kZb_fr hz0 fun j z1 z2 => hne j (by omega) _) (kZb_fr hz1 fun j z1 z2 => hne j (by omega) _) (fun i hi hin => ?_) (fun j hj hj7 => ?_)) | (refine ky_ok_stp rfl ?_; simp (disch := first | omega | assumption) only [ky_stp, ky_inv, ky_ldi, ky_ldl, ky_ldd, ky_lda, ky_cl2, ky_st1, ky_st2, ky_s1i, ky_s2i, ky_s1l, ky_s2l, ky_sli, ky_s1f, ky_s2f, ky_s1d, ky_s2d, ky_sr, ky_sai, ky_sasi, ky_sasl, ky_sasr, ky_svr, ky_sv, ky_sv2, ky_s1, ky_cs, ky_pop, ky_nth, ky_snt, ky_obj, ky_ari, ky_arl, ky_arr, ky_arn, ky_fv, ky_rcv, List.map_cons, List.map_nil, List.drop_succ_cons, List.drop_zero, Value.category, Nat.reduceAdd, Nat.reduceSub, true_and, and_true, true_or, or_true, reduceCtorEq, ite_true, ite_false, eq_self, Nat.reduceEqDiff, Nat.reduceLeDiff, nI_add, nI_1, nI_leI, nI_ltI, nI_eq, nI_clamp, kz_m1, kz_mn, kz_mn2, kz_n0, kz_0n, kz_0, kz_le0, kz_0lt, false_implies, true_implies, not_false_eq_true, not_true_eq_false, Nat.zero_le, kb_0, kz_10, kz_of, ky_sw, kz_mx, kz_mi, u37', u38.2, q1, y0]) | (refine ⟨vp_in_nI (by omega) (by omega), ?_⟩) | (rw [if_neg (by decide)]; refine ⟨by decide, by decide, ?_⟩) | (refine ⟨by decide, by decide, ?_⟩) | (refine ⟨fun zc => ?_, fun zc => ?_⟩ <;> try (exfalso; omega)) | fail)
    · exact va_up_self _ _ _
    · rw [va_up_ne _ _ hin]
      rcases hg i hi with h | ⟨h, w, hw⟩
      · exact Or.inl h
      · have ew := kAl_at hA1 (show ¬ (60 + 11 * nx ≤ 60 + 11 * i ∧ 60 + 11 * i ≤ 60 + 11 * nx + 10) by omega) hw.1.choose_spec.1.1
        exact Or.inr ⟨by rw [h, ew.1], w, kZb_fr (kZb_al hw hA1 fun j z1 z2 => by omega) fun j z1 z2 => hne j (by omega) _⟩
    · obtain ⟨v1, v2⟩ := hu j hj
      have hm2 : (nx + 7 - j) % 8 < 8 := Nat.mod_lt _ (by decide)
      have hnn : (nx + 7 - j) % 8 ≠ nx := by omega
      generalize (nx + 7 - j) % 8 = ix at v1 v2 hm2 hnn ⊢
      have ew := kAl_at hA1 (show ¬ (60 + 11 * nx ≤ 60 + 11 * ix ∧ 60 + 11 * ix ≤ 60 + 11 * nx + 10) by omega) v2.1.choose_spec.1.1
      rw [va_up_ne _ _ hnn]
      exact ⟨by rw [v1, ew.1], kZb_fr (kZb_al v2 hA1 fun j z1 z2 => by omega) fun j z1 z2 => hne j (by omega) _⟩
  · repeat' (first | (refine ⟨vp_in_nI (n := nx) (by omega) (by omega), ?_⟩) | (refine tail a f g zB 0 0 (Nat.zero_le _) (Nat.zero_le _) (kAl_fr ha kfr_rf) rfl e37 e38 hgn hzB hz (fun i hi _ => hg i hi) (fun j hj _ => hu j hj)) | (refine ky_ok_stp rfl ?_; simp (disch := first | omega | assumption) only [ky_stp, ky_inv, ky_ldi, ky_ldl, ky_ldd, ky_lda, ky_cl2, ky_st1, ky_st2, ky_s1i, ky_s2i, ky_s1l, ky_s2l, ky_sli, ky_s1f, ky_s2f, ky_s1d, ky_s2d, ky_sr, ky_sai, ky_sasi, ky_sasl, ky_sasr, ky_svr, ky_sv, ky_sv2, ky_s1, ky_cs, ky_pop, ky_nth, ky_snt, ky_obj, ky_ari, ky_arl, ky_arr, ky_arn, ky_fv, ky_rcv, List.map_cons, List.map_nil, List.drop_succ_cons, List.drop_zero, Value.category, Nat.reduceAdd, Nat.reduceSub, true_and, and_true, true_or, or_true, reduceCtorEq, ite_true, ite_false, eq_self, Nat.reduceEqDiff, Nat.reduceLeDiff, nI_add, nI_1, nI_leI, nI_ltI, nI_eq, nI_clamp, kz_m1, kz_mn, kz_mn2, kz_n0, kz_0n, kz_0, kz_le0, kz_0lt, false_implies, true_implies, not_false_eq_true, not_true_eq_false, Nat.zero_le, kb_0, kz_10, kz_of, ky_sw, kz_mx, kz_mi, e37, e38, q1, kz_80, hgn, va_rf]) | (refine ⟨vp_in_nI (by omega) (by omega), ?_⟩) | (rw [if_neg (by decide)]; refine ⟨by decide, by decide, ?_⟩) | (refine ⟨by decide, by decide, ?_⟩) | (refine ⟨fun zc => ?_, fun zc => ?_⟩ <;> try (exfalso; omega)) | fail)
end KXH
