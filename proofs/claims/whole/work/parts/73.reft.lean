/-! ## the reference: its text and its tokens -/
theorem kz_sh8 (x : Int32) {k : Nat} (hk : k < 4) : (x >>> (nI (8 * k) &&& 31)).toUInt32.toNat % 256 = x.toUInt32.toNat / 2 ^ (8 * k) % 256 := by
  have e : (x >>> (nI (8 * k) &&& 31)).toBitVec = x.toBitVec.sshiftRight (8 * k) := by
    have key : ∀ k, k < 4 → ((nI (8 * k) &&& 31).toBitVec.smod 32).toNat = 8 * k := by decide +kernel
    show x.toBitVec.sshiftRight' ((nI (8 * k) &&& 31).toBitVec.smod 32) = _
    rw [BitVec.sshiftRight', key k hk]
  show (x >>> (nI (8 * k) &&& 31)).toBitVec.toNat % 256 = x.toBitVec.toNat / 2 ^ (8 * k) % 256
  rw [e]
  have hX := x.toBitVec.isLt
  by_cases hm : x.toBitVec.msb = true
  · rw [BitVec.toNat_sshiftRight_of_msb_true hm, Nat.shiftRight_eq_div_pow]
    match k, hk with
    | 0, _ => omega
    | 1, _ => omega
    | 2, _ => omega
    | 3, _ => omega
  · rw [BitVec.toNat_sshiftRight_of_msb_false (by simpa using hm), Nat.shiftRight_eq_div_pow]
theorem kz_a255 (y : Int32) : y &&& 255 = nI (y.toUInt32.toNat % 256) := by
  apply Int32.toBitVec_inj.mp
  apply BitVec.eq_of_toNat_eq
  simp [nI]
  rw [show (255 : Nat) = 2 ^ 8 - 1 from rfl, Nat.and_two_pow_sub_one_eq_mod]
  have hm := Nat.mod_lt y.toUInt32.toNat (show 256 > 0 by decide)
  show y.toUInt32.toNat % 2 ^ 8 = y.toUInt32.toNat % 256 % 4294967296
  omega
theorem kz_i8 (y : Int32) : y.toInt8 = (nI (y.toUInt32.toNat % 256)).toInt8 := by
  apply Int8.toBitVec_inj.mp
  apply BitVec.eq_of_toNat_eq
  simp [nI]
  rw [BitVec.signExtend_eq_setWidth_of_le _ (by decide), BitVec.toNat_setWidth]
  rfl
/-- the text -/
def kMt (a : Nat → Nat) (f : ky_H) (g : Nat → Int32) (L : Nat) (c : Nat → Nat) : Prop := kMo a f g ∧ g 3 = nI L ∧ L ≤ 700 ∧ ∃ T, f (a 182) = some (.inl (0, 700, .inl T)) ∧ ∀ i, i < L → T i = kb8 (c i) ∧ c i < 256
theorem kMt_up {a : Nat → Nat} {f f' : ky_H} {g g' : Nat → Int32} {L : Nat} {c : Nat → Nat} (h : kMt a f g L c) (h0 : kMo a f' g') (hg : g' 3 = g 3) (hF : kfr a f f' (fun j => j = 170)) : kMt a f' g' L c := by
  obtain ⟨_, h1, h2, T, h3, h4⟩ := h
  exact ⟨h0, hg.trans h1, h2, T, (hF 182 (by decide)).trans h3, h4⟩
/-- a token told -/
def kMm (g : Nat → Int32) (c : Nat → Nat) (L s : Nat) : Prop := g 4 = nI s ∧ g 5 = nI (kTe c L s) ∧ g 6 = nI (kTk c L s) ∧ ∃ v, g 7 = nI v ∧ v < 100000000 ∧ kTv c L s = min v 1000
theorem kz_8m (k : Nat) : nI (8 * (k + 1)) - 8 = nI (8 * k) := by rw [show (8 : Int32) = nI 8 from rfl, nI_sub (by omega), show 8 * (k + 1) - 8 = 8 * k by omega]
theorem kz_8m' (k : Nat) : nI (8 * k) + -8 = nI (8 * k) - 8 := by rw [← Int32.sub_eq_add_neg]
section KXM
variable {adK a : Nat → Nat} {f : ky_H} {Q : ky_Q} {g : Nat → Int32} {p w n l i j b t L s : Nat} {x lo hi v : Int32} {c : Nat → Nat}
theorem kx197 (hQ : Q (.inl (some (.int (nI (kBy x).length)))) f) : ky_cl adK 197 [.int x] f Q := by
  rw [kBy_k] at hQ
  have q0 : nI (8 * 0) - 8 = -8 := by decide
  have qm : ((-8 : Int32) < 0) = True := by decide
  have e24 : (24 : Int32) = nI (8 * 4) - 8 := by decide
  have loop : ∀ k y, k ≤ 4 → y + k ≤ 4 → Q (.inl (some (.int (nI (y + (kByk x k).length))))) f → ky_ok adK 197 5 [some (.int x), some (.int (nI y)), some (.int (nI (8 * k) - 8))] [] f 0 0 Q := by
    intro k
    induction k with
    | zero =>
      intro y hk hy hq
      repeat' (first | (refine ky_ok_stp rfl ?_; simp (disch := first | omega | assumption) only [ky_stp, ky_inv, ky_ldi, ky_ldl, ky_ldd, ky_lda, ky_cl2, ky_st1, ky_st2, ky_s1i, ky_s2i, ky_s1l, ky_s2l, ky_sli, ky_s1f, ky_s2f, ky_s1d, ky_s2d, ky_sr, ky_sai, ky_sasi, ky_sasl, ky_sasr, ky_svr, ky_sv, ky_sv2, ky_s1, ky_cs, ky_pop, ky_nth, ky_snt, ky_obj, ky_ari, ky_arl, ky_arr, ky_arn, ky_fv, ky_rcv, List.map_cons, List.map_nil, List.drop_succ_cons, List.drop_zero, Value.category, Nat.reduceAdd, Nat.reduceSub, true_and, and_true, true_or, or_true, reduceCtorEq, ite_true, ite_false, eq_self, Nat.reduceEqDiff, Nat.reduceLeDiff, nI_add, nI_1, nI_leI, nI_ltI, nI_eq, nI_clamp, kz_m1, kz_mn, kz_mn2, kz_n0, kz_0n, kz_0, kz_le0, kz_0lt, false_implies, true_implies, not_false_eq_true, not_true_eq_false, Nat.zero_le, kb_0, kz_10, kz_of, ky_sw, kz_mx, kz_mi, q0, qm]) | (refine ⟨vp_in_nI (by omega) (by omega), ?_⟩) | (refine ⟨fun zc => ?_, fun zc => ?_⟩ <;> try (exfalso; omega)) | fail)
      exact hq
    | succ k ih =>
      intro y hk hy hq
      have hsh := kz_a255 (x >>> (nI (8 * k) &&& 31))
      rw [kz_sh8 x (by omega)] at hsh
      rw [kByk] at hq
      have hm := Nat.mod_lt (x.toUInt32.toNat / 2 ^ (8 * k)) (show 256 > 0 by decide)
      generalize x.toUInt32.toNat / 2 ^ (8 * k) % 256 = b at hsh hq hm
      have e1 := kz_8m k
      have e2 := kz_8m' k
      have hk4 := kBy_k x
      by_cases hb : b = 0
      · rw [if_pos hb, List.nil_append] at hq
        rw [e1]
        have hi := ih y (by omega) (by omega) hq
        repeat' (first | (exact hi) | (refine ky_ok_stp rfl ?_; simp (disch := first | omega | assumption) only [ky_stp, ky_inv, ky_ldi, ky_ldl, ky_ldd, ky_lda, ky_cl2, ky_st1, ky_st2, ky_s1i, ky_s2i, ky_s1l, ky_s2l, ky_sli, ky_s1f, ky_s2f, ky_s1d, ky_s2d, ky_sr, ky_sai, ky_sasi, ky_sasl, ky_sasr, ky_svr, ky_sv, ky_sv2, ky_s1, ky_cs, ky_pop, ky_nth, ky_snt, ky_obj, ky_ari, ky_arl, ky_arr, ky_arn, ky_fv, ky_rcv, List.map_cons, List.map_nil, List.drop_succ_cons, List.drop_zero, Value.category, Nat.reduceAdd, Nat.reduceSub, true_and, and_true, true_or, or_true, reduceCtorEq, ite_true, ite_false, eq_self, Nat.reduceEqDiff, Nat.reduceLeDiff, nI_add, nI_1, nI_leI, nI_ltI, nI_eq, nI_clamp, kz_m1, kz_mn, kz_mn2, kz_n0, kz_0n, kz_0, kz_le0, kz_0lt, false_implies, true_implies, not_false_eq_true, not_true_eq_false, Nat.zero_le, kb_0, kz_10, kz_of, ky_sw, kz_mx, kz_mi, hsh, hb, e2, kz_0, Int32.add_zero]) | (refine ⟨vp_in_nI (by omega) (by omega), ?_⟩) | (refine ⟨fun zc => ?_, fun zc => ?_⟩ <;> try (exfalso; omega)) | fail)
      · rw [if_neg hb, List.length_append, List.length_singleton, ← Nat.add_assoc] at hq
        rw [e1]
        have hi := ih (y + 1) (by omega) (by omega) hq
        repeat' (first | (exact hi) | (refine ky_ok_stp rfl ?_; simp (disch := first | omega | assumption) only [ky_stp, ky_inv, ky_ldi, ky_ldl, ky_ldd, ky_lda, ky_cl2, ky_st1, ky_st2, ky_s1i, ky_s2i, ky_s1l, ky_s2l, ky_sli, ky_s1f, ky_s2f, ky_s1d, ky_s2d, ky_sr, ky_sai, ky_sasi, ky_sasl, ky_sasr, ky_svr, ky_sv, ky_sv2, ky_s1, ky_cs, ky_pop, ky_nth, ky_snt, ky_obj, ky_ari, ky_arl, ky_arr, ky_arn, ky_fv, ky_rcv, List.map_cons, List.map_nil, List.drop_succ_cons, List.drop_zero, Value.category, Nat.reduceAdd, Nat.reduceSub, true_and, and_true, true_or, or_true, reduceCtorEq, ite_true, ite_false, eq_self, Nat.reduceEqDiff, Nat.reduceLeDiff, nI_add, nI_1, nI_leI, nI_ltI, nI_eq, nI_clamp, kz_m1, kz_mn, kz_mn2, kz_n0, kz_0n, kz_0, kz_le0, kz_0lt, false_implies, true_implies, not_false_eq_true, not_true_eq_false, Nat.zero_le, kb_0, kz_10, kz_of, ky_sw, kz_mx, kz_mi, hsh, eq_false hb, e2, kz_0]) | (refine ⟨vp_in_nI (by omega) (by omega), ?_⟩) | (refine ⟨fun zc => ?_, fun zc => ?_⟩ <;> try (exfalso; omega)) | fail)
  refine ⟨Nat.le_of_ble_eq_true rfl, fun z => absurd z (by decide), ?_⟩; show ky_ok adK 197 0 [some (.int x), none, none] [] f 0 0 _
  repeat' (first | (refine loop 4 0 (by omega) (by omega) (by rw [Nat.zero_add]; exact hQ)) | (refine ky_ok_stp rfl ?_; simp (disch := first | omega | assumption) only [ky_stp, ky_inv, ky_ldi, ky_ldl, ky_ldd, ky_lda, ky_cl2, ky_st1, ky_st2, ky_s1i, ky_s2i, ky_s1l, ky_s2l, ky_sli, ky_s1f, ky_s2f, ky_s1d, ky_s2d, ky_sr, ky_sai, ky_sasi, ky_sasl, ky_sasr, ky_svr, ky_sv, ky_sv2, ky_s1, ky_cs, ky_pop, ky_nth, ky_snt, ky_obj, ky_ari, ky_arl, ky_arr, ky_arn, ky_fv, ky_rcv, List.map_cons, List.map_nil, List.drop_succ_cons, List.drop_zero, Value.category, Nat.reduceAdd, Nat.reduceSub, true_and, and_true, true_or, or_true, reduceCtorEq, ite_true, ite_false, eq_self, Nat.reduceEqDiff, Nat.reduceLeDiff, nI_add, nI_1, nI_leI, nI_ltI, nI_eq, nI_clamp, kz_m1, kz_mn, kz_mn2, kz_n0, kz_0n, kz_0, kz_le0, kz_0lt, false_implies, true_implies, not_false_eq_true, not_true_eq_false, Nat.zero_le, kb_0, kz_10, kz_of, ky_sw, kz_mx, kz_mi, e24]) | (refine ⟨vp_in_nI (by omega) (by omega), ?_⟩) | (refine ⟨fun zc => ?_, fun zc => ?_⟩ <;> try (exfalso; omega)) | fail)
theorem kx199 {o : List Nat} {c0 : Nat → Nat} (ha : kI a) (hM : kMt a f g (l + o.length) c) (hc : ∀ i, i < l + o.length → c i = kapp c0 l o i) (hl : l + (o ++ kBy x).length ≤ 700)
    (hQ : ∀ f' g' c', kMt a f' g' (l + (o ++ kBy x).length) c' → (∀ i, i < l + (o ++ kBy x).length → c' i = kapp c0 l (o ++ kBy x) i) → (∀ j, j ≠ 3 → g' j = g j) → kfr a f f' (fun j => j = 170 ∨ j = 182) → Q (.inl none) f') : ky_cl adK 199 [.ref (a 170), .int x] f Q := by
  rw [kBy_k] at hQ hl
  have q0 : nI (8 * 0) - 8 = -8 := by decide
  have qm : ((-8 : Int32) < 0) = True := by decide
  have e24 : (24 : Int32) = nI (8 * 4) - 8 := by decide
  have loop : ∀ k f1 g1 (o : List Nat) (c : Nat → Nat) (P : List Nat), k ≤ 4 → o ++ kByk x k = P → kMt a f1 g1 (l + o.length) c → (∀ i, i < l + o.length → c i = kapp c0 l o i) → l + P.length ≤ 700 → (∀ f' g' c', kMt a f' g' (l + P.length) c' → (∀ i, i < l + P.length → c' i = kapp c0 l P i) → (∀ j, j ≠ 3 → g' j = g j) → kfr a f f' (fun j => j = 170 ∨ j = 182) → Q (.inl none) f') → (∀ j, j ≠ 3 → g1 j = g j) → kfr a f f1 (fun j => j = 170 ∨ j = 182) → ky_ok adK 199 3 [some (.ref (a 170)), some (.int x), some (.int (nI (8 * k) - 8))] [] f1 0 0 Q := by
    intro k
    induction k with
    | zero =>
      intro f1 g1 o c P hk hP hM hc hl hQ hg hF
      rw [kByk, List.append_nil] at hP
      subst hP
      repeat' (first | (refine ky_ok_stp rfl ?_; simp (disch := first | omega | assumption) only [ky_stp, ky_inv, ky_ldi, ky_ldl, ky_ldd, ky_lda, ky_cl2, ky_st1, ky_st2, ky_s1i, ky_s2i, ky_s1l, ky_s2l, ky_sli, ky_s1f, ky_s2f, ky_s1d, ky_s2d, ky_sr, ky_sai, ky_sasi, ky_sasl, ky_sasr, ky_svr, ky_sv, ky_sv2, ky_s1, ky_cs, ky_pop, ky_nth, ky_snt, ky_obj, ky_ari, ky_arl, ky_arr, ky_arn, ky_fv, ky_rcv, List.map_cons, List.map_nil, List.drop_succ_cons, List.drop_zero, Value.category, Nat.reduceAdd, Nat.reduceSub, true_and, and_true, true_or, or_true, reduceCtorEq, ite_true, ite_false, eq_self, Nat.reduceEqDiff, Nat.reduceLeDiff, nI_add, nI_1, nI_leI, nI_ltI, nI_eq, nI_clamp, kz_m1, kz_mn, kz_mn2, kz_n0, kz_0n, kz_0, kz_le0, kz_0lt, false_implies, true_implies, not_false_eq_true, not_true_eq_false, Nat.zero_le, kb_0, kz_10, kz_of, ky_sw, kz_mx, kz_mi, q0, qm]) | (refine ⟨vp_in_nI (by omega) (by omega), ?_⟩) | (refine ⟨fun zc => ?_, fun zc => ?_⟩ <;> try (exfalso; omega)) | fail)
      exact hQ f1 g1 c hM hc hg hF
    | succ k ih =>
      intro f1 g1 o c P hk hP hM hc hl hQ hg hF
      have hsh := kz_a255 (x >>> (nI (8 * k) &&& 31))
      have hi8 := kz_i8 (x >>> (nI (8 * k) &&& 31))
      rw [kz_sh8 x (by omega)] at hsh hi8
      rw [kByk] at hP
      have hm := Nat.mod_lt (x.toUInt32.toNat / 2 ^ (8 * k)) (show 256 > 0 by decide)
      generalize x.toUInt32.toNat / 2 ^ (8 * k) % 256 = b at hsh hP hm hi8
      have e1 := kz_8m k
      have e2 := kz_8m' k
      rw [e1]
      by_cases hb : b = 0
      · rw [if_pos hb, List.nil_append] at hP
        have hi := ih f1 g1 o c P (by omega) hP hM hc hl hQ hg hF
        repeat' (first | (exact hi) | (refine ky_ok_stp rfl ?_; simp (disch := first | omega | assumption) only [ky_stp, ky_inv, ky_ldi, ky_ldl, ky_ldd, ky_lda, ky_cl2, ky_st1, ky_st2, ky_s1i, ky_s2i, ky_s1l, ky_s2l, ky_sli, ky_s1f, ky_s2f, ky_s1d, ky_s2d, ky_sr, ky_sai, ky_sasi, ky_sasl, ky_sasr, ky_svr, ky_sv, ky_sv2, ky_s1, ky_cs, ky_pop, ky_nth, ky_snt, ky_obj, ky_ari, ky_arl, ky_arr, ky_arn, ky_fv, ky_rcv, List.map_cons, List.map_nil, List.drop_succ_cons, List.drop_zero, Value.category, Nat.reduceAdd, Nat.reduceSub, true_and, and_true, true_or, or_true, reduceCtorEq, ite_true, ite_false, eq_self, Nat.reduceEqDiff, Nat.reduceLeDiff, nI_add, nI_1, nI_leI, nI_ltI, nI_eq, nI_clamp, kz_m1, kz_mn, kz_mn2, kz_n0, kz_0n, kz_0, kz_le0, kz_0lt, false_implies, true_implies, not_false_eq_true, not_true_eq_false, Nat.zero_le, kb_0, kz_10, kz_of, ky_sw, kz_mx, kz_mi, hsh, hb, e2, kz_0]) | (refine ⟨vp_in_nI (by omega) (by omega), ?_⟩) | (refine ⟨fun zc => ?_, fun zc => ?_⟩ <;> try (exfalso; omega)) | fail)
      · rw [if_neg hb, ← List.append_assoc] at hP
        obtain ⟨mh, g3, hL7, T, hT, hTc⟩ := id hM
        unfold kMo at mh
        have hl2 : l + (o.length + 1) ≤ 700 := by
          rw [← hP, List.length_append, List.length_append, List.length_singleton] at hl; omega
        have hi := fun f2 (h0 : kMo a f2 (upd g1 3 (nI (l + o.length + 1)))) (hF2 : kfr a f1 f2 (fun j => j = 170 ∨ j = 182)) (hT2 : f2 (a 182) = some (.inl (0, 700, .inl (upd T (l + o.length) (kb8 b))))) => ih f2 (upd g1 3 (nI (l + o.length + 1))) (o ++ [b]) (kcu c (l + o.length) b) P (by omega) hP (by
          rw [List.length_append, List.length_singleton]
          refine ⟨h0, rfl, by omega, _, hT2, fun i hi => ?_⟩
          by_cases e : i = l + o.length
          · subst e; rw [pk_us, kcu, if_pos rfl]; exact ⟨rfl, hm⟩
          · rw [pk_un e, kcu, if_neg e]; exact hTc i (by omega)) (by
          intro i hi
          rw [List.length_append, List.length_singleton] at hi
          rw [← kapp_one c0 l o b i hi]
          unfold kcu
          by_cases e : i = l + o.length
          · rw [if_pos e, if_pos e]
          · rw [if_neg e, if_neg e]; exact hc i (by omega)) hl hQ (fun j hj => (pk_un hj).trans (hg j hj)) (kfr_tr hF hF2 fun j hj => ⟨hj, hj⟩)
        repeat' (first | (refine hi _ (by unfold kMo; rw [kz_same]; rfl) (kfr_up ha (kfr_up ha kfr_rf (Or.inr rfl)) (Or.inl rfl)) (by simp (disch := first | omega | assumption) only [kz_up, kI_ne ha, ite_true, ite_false]; rfl)) | (refine ky_ok_stp rfl ?_; simp (disch := first | omega | assumption) only [ky_stp, ky_inv, ky_ldi, ky_ldl, ky_ldd, ky_lda, ky_cl2, ky_st1, ky_st2, ky_s1i, ky_s2i, ky_s1l, ky_s2l, ky_sli, ky_s1f, ky_s2f, ky_s1d, ky_s2d, ky_sr, ky_sai, ky_sasi, ky_sasl, ky_sasr, ky_svr, ky_sv, ky_sv2, ky_s1, ky_cs, ky_pop, ky_nth, ky_snt, ky_obj, ky_ari, ky_arl, ky_arr, ky_arn, ky_fv, ky_rcv, List.map_cons, List.map_nil, List.drop_succ_cons, List.drop_zero, Value.category, Nat.reduceAdd, Nat.reduceSub, true_and, and_true, true_or, or_true, reduceCtorEq, ite_true, ite_false, eq_self, Nat.reduceEqDiff, Nat.reduceLeDiff, nI_add, nI_1, nI_leI, nI_ltI, nI_eq, nI_clamp, kz_m1, kz_mn, kz_mn2, kz_n0, kz_0n, kz_0, kz_le0, kz_0lt, false_implies, true_implies, not_false_eq_true, not_true_eq_false, Nat.zero_le, kb_0, kz_10, kz_of, ky_sw, kz_mx, kz_mi, hsh, eq_false hb, e2, kz_0, mh, g3, hT, kz_up, kI_ne ha, hi8]) | (refine ⟨vp_in_nI (by omega) (by omega), ?_⟩) | (refine ⟨fun zc => ?_, fun zc => ?_⟩ <;> try (exfalso; omega)) | fail)
  refine ⟨Nat.le_of_ble_eq_true rfl, fun z => absurd z (by decide), ?_⟩; show ky_ok adK 199 0 [some (.ref (a 170)), some (.int x), none] [] f 0 0 _
  repeat' (first | (refine loop 4 f g o c _ (by omega) rfl hM hc hl hQ (fun _ _ => rfl) kfr_rf) | (refine ky_ok_stp rfl ?_; simp (disch := first | omega | assumption) only [ky_stp, ky_inv, ky_ldi, ky_ldl, ky_ldd, ky_lda, ky_cl2, ky_st1, ky_st2, ky_s1i, ky_s2i, ky_s1l, ky_s2l, ky_sli, ky_s1f, ky_s2f, ky_s1d, ky_s2d, ky_sr, ky_sai, ky_sasi, ky_sasl, ky_sasr, ky_svr, ky_sv, ky_sv2, ky_s1, ky_cs, ky_pop, ky_nth, ky_snt, ky_obj, ky_ari, ky_arl, ky_arr, ky_arn, ky_fv, ky_rcv, List.map_cons, List.map_nil, List.drop_succ_cons, List.drop_zero, Value.category, Nat.reduceAdd, Nat.reduceSub, true_and, and_true, true_or, or_true, reduceCtorEq, ite_true, ite_false, eq_self, Nat.reduceEqDiff, Nat.reduceLeDiff, nI_add, nI_1, nI_leI, nI_ltI, nI_eq, nI_clamp, kz_m1, kz_mn, kz_mn2, kz_n0, kz_0n, kz_0, kz_le0, kz_0lt, false_implies, true_implies, not_false_eq_true, not_true_eq_false, Nat.zero_le, kb_0, kz_10, kz_of, ky_sw, kz_mx, kz_mi, e24]) | (refine ⟨vp_in_nI (by omega) (by omega), ?_⟩) | (refine ⟨fun zc => ?_, fun zc => ?_⟩ <;> try (exfalso; omega)) | fail)
theorem kx200 (hM : kMt a f g L c) (hi : i < L) (hQ : Q (.inl (some (.int (nI (c i))))) f) : ky_cl adK 200 [.ref (a 170), .int (nI i)] f Q := by
  obtain ⟨mh, g3, hL7, T, hT, hTc⟩ := id hM
  unfold kMo at mh
  have ht := (hTc i hi).1
  have h8 : kb8 (c i) &&& 255 = nI (c i) := kz_byte _ (hTc i hi).2
  refine ⟨Nat.le_of_ble_eq_true rfl, fun z => absurd z (by decide), ?_⟩; show ky_ok adK 200 0 [some (.ref (a 170)), some (.int (nI i))] [] f 0 0 _
  repeat' (first | (refine ky_ok_stp rfl ?_; simp (disch := first | omega | assumption) only [ky_stp, ky_inv, ky_ldi, ky_ldl, ky_ldd, ky_lda, ky_cl2, ky_st1, ky_st2, ky_s1i, ky_s2i, ky_s1l, ky_s2l, ky_sli, ky_s1f, ky_s2f, ky_s1d, ky_s2d, ky_sr, ky_sai, ky_sasi, ky_sasl, ky_sasr, ky_svr, ky_sv, ky_sv2, ky_s1, ky_cs, ky_pop, ky_nth, ky_snt, ky_obj, ky_ari, ky_arl, ky_arr, ky_arn, ky_fv, ky_rcv, List.map_cons, List.map_nil, List.drop_succ_cons, List.drop_zero, Value.category, Nat.reduceAdd, Nat.reduceSub, true_and, and_true, true_or, or_true, reduceCtorEq, ite_true, ite_false, eq_self, Nat.reduceEqDiff, Nat.reduceLeDiff, nI_add, nI_1, nI_leI, nI_ltI, nI_eq, nI_clamp, kz_m1, kz_mn, kz_mn2, kz_n0, kz_0n, kz_0, kz_le0, kz_0lt, false_implies, true_implies, not_false_eq_true, not_true_eq_false, Nat.zero_le, kb_0, kz_10, kz_of, ky_sw, kz_mx, kz_mi, mh, g3, hT, ht, h8]) | (refine ⟨vp_in_nI (by omega) (by omega), ?_⟩) | (refine ⟨fun zc => ?_, fun zc => ?_⟩ <;> try (exfalso; omega)) | fail)
  exact hQ
theorem kx200e (hM : kMt a f g L c) (hi : L ≤ i) (h : i < 100000) (hQ : Q (.inl (some (.int (-1)))) f) : ky_cl adK 200 [.ref (a 170), .int (nI i)] f Q := by
  obtain ⟨mh, g3, hL7, T, hT, hTc⟩ := id hM
  unfold kMo at mh
  refine ⟨Nat.le_of_ble_eq_true rfl, fun z => absurd z (by decide), ?_⟩; show ky_ok adK 200 0 [some (.ref (a 170)), some (.int (nI i))] [] f 0 0 _
  repeat' (first | (refine ky_ok_stp rfl ?_; simp (disch := first | omega | assumption) only [ky_stp, ky_inv, ky_ldi, ky_ldl, ky_ldd, ky_lda, ky_cl2, ky_st1, ky_st2, ky_s1i, ky_s2i, ky_s1l, ky_s2l, ky_sli, ky_s1f, ky_s2f, ky_s1d, ky_s2d, ky_sr, ky_sai, ky_sasi, ky_sasl, ky_sasr, ky_svr, ky_sv, ky_sv2, ky_s1, ky_cs, ky_pop, ky_nth, ky_snt, ky_obj, ky_ari, ky_arl, ky_arr, ky_arn, ky_fv, ky_rcv, List.map_cons, List.map_nil, List.drop_succ_cons, List.drop_zero, Value.category, Nat.reduceAdd, Nat.reduceSub, true_and, and_true, true_or, or_true, reduceCtorEq, ite_true, ite_false, eq_self, Nat.reduceEqDiff, Nat.reduceLeDiff, nI_add, nI_1, nI_leI, nI_ltI, nI_eq, nI_clamp, kz_m1, kz_mn, kz_mn2, kz_n0, kz_0n, kz_0, kz_le0, kz_0lt, false_implies, true_implies, not_false_eq_true, not_true_eq_false, Nat.zero_le, kb_0, kz_10, kz_of, ky_sw, kz_mx, kz_mi, mh, g3]) | (refine ⟨vp_in_nI (by omega) (by omega), ?_⟩) | (refine ⟨fun zc => ?_, fun zc => ?_⟩ <;> try (exfalso; omega)) | fail)
  exact hQ
theorem kx201 (hb : b < 100000) (hQ : Q (.inl (some (.int (if klt b then 1 else 0)))) f) : ky_cl adK 201 [.int (nI b)] f Q := by
  have e97 : (97 : Int32) = nI 97 := rfl
  have e122 : (122 : Int32) = nI 122 := rfl
  refine ⟨Nat.le_of_ble_eq_true rfl, fun z => absurd z (by decide), ?_⟩; show ky_ok adK 201 0 [some (.int (nI b))] [] f 0 0 _
  repeat' (first | ((refine kx169 (fun w1 w2 => ?_) (fun w => ?_) <;> simp only [ky_aft, ky_vl, Nat.reduceAdd])) | (refine ky_ok_stp rfl ?_; simp (disch := first | omega | assumption) only [ky_stp, ky_inv, ky_ldi, ky_ldl, ky_ldd, ky_lda, ky_cl2, ky_st1, ky_st2, ky_s1i, ky_s2i, ky_s1l, ky_s2l, ky_sli, ky_s1f, ky_s2f, ky_s1d, ky_s2d, ky_sr, ky_sai, ky_sasi, ky_sasl, ky_sasr, ky_svr, ky_sv, ky_sv2, ky_s1, ky_cs, ky_pop, ky_nth, ky_snt, ky_obj, ky_ari, ky_arl, ky_arr, ky_arn, ky_fv, ky_rcv, List.map_cons, List.map_nil, List.drop_succ_cons, List.drop_zero, Value.category, Nat.reduceAdd, Nat.reduceSub, true_and, and_true, true_or, or_true, reduceCtorEq, ite_true, ite_false, eq_self, Nat.reduceEqDiff, Nat.reduceLeDiff, nI_add, nI_1, nI_leI, nI_ltI, nI_eq, nI_clamp, kz_m1, kz_mn, kz_mn2, kz_n0, kz_0n, kz_0, kz_le0, kz_0lt, false_implies, true_implies, not_false_eq_true, not_true_eq_false, Nat.zero_le, kb_0, kz_10, kz_of, ky_sw, kz_mx, kz_mi]) | (refine ⟨vp_in_nI (by omega) (by omega), ?_⟩) | (refine ⟨fun zc => ?_, fun zc => ?_⟩ <;> try (exfalso; omega)) | fail)
  · rw [e97, nI_leI (by omega) (by omega)] at w1
    rw [e122, nI_leI (by omega) (by omega)] at w2
    rw [if_pos ⟨w1, w2⟩] at hQ; exact hQ
  · rw [e97, e122, nI_leI (by omega) (by omega), nI_leI (by omega) (by omega)] at w
    rw [if_neg w] at hQ; exact hQ
theorem kx201m (hQ : Q (.inl (some (.int 0))) f) : ky_cl adK 201 [.int (-1)] f Q := by
  refine ⟨Nat.le_of_ble_eq_true rfl, fun z => absurd z (by decide), ?_⟩; show ky_ok adK 201 0 [some (.int (-1))] [] f 0 0 _
  repeat' (first | ((refine kx169 (fun w1 w2 => ?_) (fun w => ?_) <;> simp only [ky_aft, ky_vl, Nat.reduceAdd])) | (refine ky_ok_stp rfl ?_; simp (disch := first | omega | assumption) only [ky_stp, ky_inv, ky_ldi, ky_ldl, ky_ldd, ky_lda, ky_cl2, ky_st1, ky_st2, ky_s1i, ky_s2i, ky_s1l, ky_s2l, ky_sli, ky_s1f, ky_s2f, ky_s1d, ky_s2d, ky_sr, ky_sai, ky_sasi, ky_sasl, ky_sasr, ky_svr, ky_sv, ky_sv2, ky_s1, ky_cs, ky_pop, ky_nth, ky_snt, ky_obj, ky_ari, ky_arl, ky_arr, ky_arn, ky_fv, ky_rcv, List.map_cons, List.map_nil, List.drop_succ_cons, List.drop_zero, Value.category, Nat.reduceAdd, Nat.reduceSub, true_and, and_true, true_or, or_true, reduceCtorEq, ite_true, ite_false, eq_self, Nat.reduceEqDiff, Nat.reduceLeDiff, nI_add, nI_1, nI_leI, nI_ltI, nI_eq, nI_clamp, kz_m1, kz_mn, kz_mn2, kz_n0, kz_0n, kz_0, kz_le0, kz_0lt, false_implies, true_implies, not_false_eq_true, not_true_eq_false, Nat.zero_le, kb_0, kz_10, kz_of, ky_sw, kz_mx, kz_mi]) | (refine ⟨vp_in_nI (by omega) (by omega), ?_⟩) | (refine ⟨fun zc => ?_, fun zc => ?_⟩ <;> try (exfalso; omega)) | fail)
  · exact absurd w1 (by decide)
  · exact hQ
theorem kx202 (hb : b < 100000) (hQ : Q (.inl (some (.int (if kdg b then 1 else 0)))) f) : ky_cl adK 202 [.int (nI b)] f Q := by
  have e97 : (48 : Int32) = nI 48 := rfl
  have e122 : (57 : Int32) = nI 57 := rfl
  refine ⟨Nat.le_of_ble_eq_true rfl, fun z => absurd z (by decide), ?_⟩; show ky_ok adK 202 0 [some (.int (nI b))] [] f 0 0 _
  repeat' (first | ((refine kx169 (fun w1 w2 => ?_) (fun w => ?_) <;> simp only [ky_aft, ky_vl, Nat.reduceAdd])) | (refine ky_ok_stp rfl ?_; simp (disch := first | omega | assumption) only [ky_stp, ky_inv, ky_ldi, ky_ldl, ky_ldd, ky_lda, ky_cl2, ky_st1, ky_st2, ky_s1i, ky_s2i, ky_s1l, ky_s2l, ky_sli, ky_s1f, ky_s2f, ky_s1d, ky_s2d, ky_sr, ky_sai, ky_sasi, ky_sasl, ky_sasr, ky_svr, ky_sv, ky_sv2, ky_s1, ky_cs, ky_pop, ky_nth, ky_snt, ky_obj, ky_ari, ky_arl, ky_arr, ky_arn, ky_fv, ky_rcv, List.map_cons, List.map_nil, List.drop_succ_cons, List.drop_zero, Value.category, Nat.reduceAdd, Nat.reduceSub, true_and, and_true, true_or, or_true, reduceCtorEq, ite_true, ite_false, eq_self, Nat.reduceEqDiff, Nat.reduceLeDiff, nI_add, nI_1, nI_leI, nI_ltI, nI_eq, nI_clamp, kz_m1, kz_mn, kz_mn2, kz_n0, kz_0n, kz_0, kz_le0, kz_0lt, false_implies, true_implies, not_false_eq_true, not_true_eq_false, Nat.zero_le, kb_0, kz_10, kz_of, ky_sw, kz_mx, kz_mi]) | (refine ⟨vp_in_nI (by omega) (by omega), ?_⟩) | (refine ⟨fun zc => ?_, fun zc => ?_⟩ <;> try (exfalso; omega)) | fail)
  · rw [e97, nI_leI (by omega) (by omega)] at w1
    rw [e122, nI_leI (by omega) (by omega)] at w2
    rw [if_pos ⟨w1, w2⟩] at hQ; exact hQ
  · rw [e97, e122, nI_leI (by omega) (by omega), nI_leI (by omega) (by omega)] at w
    rw [if_neg w] at hQ; exact hQ
theorem kx202m (hQ : Q (.inl (some (.int 0))) f) : ky_cl adK 202 [.int (-1)] f Q := by
  refine ⟨Nat.le_of_ble_eq_true rfl, fun z => absurd z (by decide), ?_⟩; show ky_ok adK 202 0 [some (.int (-1))] [] f 0 0 _
  repeat' (first | ((refine kx169 (fun w1 w2 => ?_) (fun w => ?_) <;> simp only [ky_aft, ky_vl, Nat.reduceAdd])) | (refine ky_ok_stp rfl ?_; simp (disch := first | omega | assumption) only [ky_stp, ky_inv, ky_ldi, ky_ldl, ky_ldd, ky_lda, ky_cl2, ky_st1, ky_st2, ky_s1i, ky_s2i, ky_s1l, ky_s2l, ky_sli, ky_s1f, ky_s2f, ky_s1d, ky_s2d, ky_sr, ky_sai, ky_sasi, ky_sasl, ky_sasr, ky_svr, ky_sv, ky_sv2, ky_s1, ky_cs, ky_pop, ky_nth, ky_snt, ky_obj, ky_ari, ky_arl, ky_arr, ky_arn, ky_fv, ky_rcv, List.map_cons, List.map_nil, List.drop_succ_cons, List.drop_zero, Value.category, Nat.reduceAdd, Nat.reduceSub, true_and, and_true, true_or, or_true, reduceCtorEq, ite_true, ite_false, eq_self, Nat.reduceEqDiff, Nat.reduceLeDiff, nI_add, nI_1, nI_leI, nI_ltI, nI_eq, nI_clamp, kz_m1, kz_mn, kz_mn2, kz_n0, kz_0n, kz_0, kz_le0, kz_0lt, false_implies, true_implies, not_false_eq_true, not_true_eq_false, Nat.zero_le, kb_0, kz_10, kz_of, ky_sw, kz_mx, kz_mi]) | (refine ⟨vp_in_nI (by omega) (by omega), ?_⟩) | (refine ⟨fun zc => ?_, fun zc => ?_⟩ <;> try (exfalso; omega)) | fail)
  · exact absurd w1 (by decide)
  · exact hQ
end KXM
