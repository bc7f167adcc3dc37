/-! ## the keeper's things, changed -/
def kSt.setB (s : kSt) (l : Nat) (c : Nat → Nat) : kSt := ⟨s.o, s.un, s.u, s.v, s.ac, l, c, s.wl, s.wc, s.er, s.ep⟩
def kSt.setW (s : kSt) (l : Nat) (c : Nat → Nat) : kSt := ⟨s.o, s.un, s.u, s.v, s.ac, s.bl, s.bc, l, c, s.er, s.ep⟩
def kSt.setE (s : kSt) (e p : Int32) : kSt := ⟨s.o, s.un, s.u, s.v, s.ac, s.bl, s.bc, s.wl, s.wc, e, p⟩
def kSt.setA (s : kSt) (g : Nat → Int32) : kSt := ⟨s.o, s.un, s.u, s.v, g, s.bl, s.bc, s.wl, s.wc, s.er, s.ep⟩
def kSt.setO (s : kSt) (z : kZ) : kSt := ⟨z, s.un, s.u, s.v, s.ac, s.bl, s.bc, s.wl, s.wc, s.er, s.ep⟩
def kSt.setU (s : kSt) (n : Nat) (u : Nat → kZ) : kSt := ⟨s.o, n, u, s.v, s.ac, s.bl, s.bc, s.wl, s.wc, s.er, s.ep⟩
def kSt.setV (s : kSt) (v : Nat → Option kZ) : kSt := ⟨s.o, s.un, s.u, v, s.ac, s.bl, s.bc, s.wl, s.wc, s.er, s.ep⟩
section KXU
variable {adK a : Nat → Nat} {f f' : ky_H} {s : kSt} {Q : ky_Q} {x y z : Int32} {l len k : Nat} {c : Nat → Nat} {g : Nat → Int32}
theorem kK2_o {X : Nat → Prop} (h : kK2 a f) (hf : kfr a f f' X) (hX : ∀ j, X j → ¬ ksc j) : kK2 a f' :=
  kK2_fr h hf (.inl fun j z1 z2 w => hX j w (by unfold ksc; omega)) (.inl fun j z1 z2 w => hX j w (by unfold ksc; omega)) (.inl fun j z1 z2 w => hX j w (by unfold ksc; omega)) (.inl ⟨fun w => hX _ w (by unfold ksc; omega), fun w => hX _ w (by unfold ksc; omega)⟩) (.inl fun w => hX _ w (by unfold ksc; omega)) (.inl fun j z1 z2 w => hX j w (by unfold ksc; omega)) (.inl fun w => hX _ w (by unfold ksc; omega)) (.inl fun w => hX _ w (by unfold ksc; omega)) (.inl fun w => hX _ w (by unfold ksc; omega))
theorem kK_b (h : kK a f s) (hf : kfr a f f' (fun j => j = 40 ∨ j = 41)) (hB : kB a 40 f' 700 l c) : kK a f' (s.setB l c) := by
  obtain ⟨ha, h1, h2, h3⟩ := h
  refine ⟨ha, ⟨(hf 0 (by omega)).trans h1.o, kZb_fr h1.z fun j z1 z2 => hf j (by omega), kHi_fr h1.h fun j z1 => hf j (by omega), kSv_fr h1.v fun j z1 => hf j (by omega), hB, kB_fr h1.wr (hf 42 (by omega)) (hf 43 (by omega)), (hf 47 (by omega)).trans h1.rd, (hf 53 (by omega)).trans h1.ac⟩, kK2_o h2 hf fun j hj => by unfold ksc; omega, h3⟩
theorem kK_w (h : kK a f s) (hf : kfr a f f' (fun j => j = 42 ∨ j = 43)) (hB : kB a 42 f' 4260 l c) : kK a f' (s.setW l c) := by
  obtain ⟨ha, h1, h2, h3⟩ := h
  refine ⟨ha, ⟨(hf 0 (by omega)).trans h1.o, kZb_fr h1.z fun j z1 z2 => hf j (by omega), kHi_fr h1.h fun j z1 => hf j (by omega), kSv_fr h1.v fun j z1 => hf j (by omega), kB_fr h1.bu (hf 40 (by omega)) (hf 41 (by omega)), hB, (hf 47 (by omega)).trans h1.rd, (hf 53 (by omega)).trans h1.ac⟩, kK2_o h2 hf fun j hj => by unfold ksc; omega, h3⟩
theorem kK_e (h : kK a f s) (hf : kfr a f f' (fun j => j = 0)) (hE : kKo a f' x y) : kK a f' (s.setE x y) := by
  obtain ⟨ha, h1, h2, h3⟩ := h
  refine ⟨ha, ⟨hE, kZb_fr h1.z fun j z1 z2 => hf j (by omega), kHi_fr h1.h fun j z1 => hf j (by omega), kSv_fr h1.v fun j z1 => hf j (by omega), kB_fr h1.bu (hf 40 (by omega)) (hf 41 (by omega)), kB_fr h1.wr (hf 42 (by omega)) (hf 43 (by omega)), (hf 47 (by omega)).trans h1.rd, (hf 53 (by omega)).trans h1.ac⟩, kK2_o h2 hf fun j hj => by unfold ksc; omega, h3⟩
theorem kK_a (h : kK a f s) (hf : kfr a f f' (fun j => j = 53)) (hA : f' (a 53) = some (.inl (1, 8, .inl g))) : kK a f' (s.setA g) := by
  obtain ⟨ha, h1, h2, h3⟩ := h
  refine ⟨ha, ⟨(hf 0 (by omega)).trans h1.o, kZb_fr h1.z fun j z1 z2 => hf j (by omega), kHi_fr h1.h fun j z1 => hf j (by omega), kSv_fr h1.v fun j z1 => hf j (by omega), kB_fr h1.bu (hf 40 (by omega)) (hf 41 (by omega)), kB_fr h1.wr (hf 42 (by omega)) (hf 43 (by omega)), (hf 47 (by omega)).trans h1.rd, hA⟩, kK2_o h2 hf fun j hj => by unfold ksc; omega, h3⟩
theorem kK_o {w : kZ} (h : kK a f s) (hf : kfr a f f' (kBl 1)) (hZ : kZb a 1 f' w) (ho : kZo w) : kK a f' (s.setO w) := by
  obtain ⟨ha, h1, h2, h3⟩ := h
  unfold kBl at hf
  refine ⟨ha, ⟨(hf 0 (by omega)).trans h1.o, hZ, kHi_fr h1.h fun j z1 => hf j (by omega), kSv_fr h1.v fun j z1 => hf j (by omega), kB_fr h1.bu (hf 40 (by omega)) (hf 41 (by omega)), kB_fr h1.wr (hf 42 (by omega)) (hf 43 (by omega)), (hf 47 (by omega)).trans h1.rd, (hf 53 (by omega)).trans h1.ac⟩, kK2_o h2 hf fun j hj => by unfold ksc; omega, ⟨ho, h3.u, h3.v⟩⟩
/-! bytes of an int, put into the buffer -/
def kByk (x : Int32) : Nat → List Nat
  | 0 => []
  | k + 1 => (if x.toUInt32.toNat / 2 ^ (8 * k) % 256 = 0 then [] else [x.toUInt32.toNat / 2 ^ (8 * k) % 256]) ++ kByk x k
theorem kBy_k (x : Int32) : kBy x = kByk x 4 := by
  unfold kBy
  simp only [List.map_cons, List.map_nil, kByk, Nat.reduceMul, List.append_nil]
  generalize x.toUInt32.toNat / 2 ^ 24 % 256 = b24
  generalize x.toUInt32.toNat / 2 ^ 16 % 256 = b16
  generalize x.toUInt32.toNat / 2 ^ 8 % 256 = b8
  generalize x.toUInt32.toNat / 2 ^ 0 % 256 = b0
  by_cases c24 : b24 = 0 <;> by_cases c16 : b16 = 0 <;> by_cases c8 : b8 = 0 <;> by_cases c0 : b0 = 0 <;> simp [c24, c16, c8, c0]
theorem kBy_le (x : Int32) : (kBy x).length ≤ 4 := by
  unfold kBy
  refine Nat.le_trans (List.length_filter_le _ _) ?_
  simp
theorem kx139 (ha : kI a) (h0 : kKo a f y z) (hB : kB a 40 f 700 len c) (hl : len + (kBy x).length ≤ 700)
    (hQ : ∀ f', kB a 40 f' 700 (len + (kBy x).length) (kapp c len (kBy x)) → kfr a f f' (fun j => j = 40 ∨ j = 41) → Q (.inl none) f') : ky_cl adK 139 [.ref (a 0), .int x] f Q := by
  rw [kBy_k] at hl hQ
  have q0 : nI (8 * 0) - 8 = -8 := by decide
  have qm : ((-8 : Int32) < 0) = True := by decide
  have e24 : (24 : Int32) = nI (8 * 4) - 8 := by decide
  have loop : ∀ k f len c v, k ≤ 4 → kKo a f y z → kB a 40 f 700 len c → len + (kByk x k).length ≤ 700 →
      (∀ f', kB a 40 f' 700 (len + (kByk x k).length) (kapp c len (kByk x k)) → kfr a f f' (fun j => j = 40 ∨ j = 41) → Q (.inl none) f') →
      ky_ok adK 139 3 [some (.ref (a 0)), some (.int x), some (.int (nI (8 * k) - 8)), v] [] f 0 0 Q := by
    intro k
    induction k with
    | zero =>
      intro f len c v hk h0 hB hl hQ
      repeat' (first | (refine ky_ok_stp rfl ?_; simp (disch := first | omega | assumption) only [ky_stp, ky_inv, ky_ldi, ky_ldl, ky_ldd, ky_lda, ky_cl2, ky_st1, ky_st2, ky_s1i, ky_s2i, ky_s1l, ky_s2l, ky_sli, ky_s1f, ky_s2f, ky_s1d, ky_s2d, ky_sr, ky_sai, ky_sasi, ky_sasl, ky_sasr, ky_svr, ky_sv, ky_sv2, ky_s1, ky_cs, ky_pop, ky_nth, ky_snt, ky_obj, ky_ari, ky_arl, ky_arr, ky_arn, ky_fv, ky_rcv, List.map_cons, List.map_nil, List.drop_succ_cons, List.drop_zero, Value.category, Nat.reduceAdd, Nat.reduceSub, true_and, and_true, true_or, or_true, reduceCtorEq, ite_true, ite_false, eq_self, Nat.reduceEqDiff, Nat.reduceLeDiff, nI_add, nI_1, nI_leI, nI_ltI, nI_eq, nI_clamp, kz_m1, kz_mn, kz_mn2, kz_n0, kz_0n, kz_0, kz_le0, kz_0lt, false_implies, true_implies, not_false_eq_true, not_true_eq_false, Nat.zero_le, kb_0, kz_10, kz_of, ky_sw, kz_mx, kz_mi, q0, qm]) | (refine ⟨vp_in_nI (by omega) (by omega), ?_⟩) | (refine ⟨fun zc => ?_, fun zc => ?_⟩ <;> try (exfalso; omega)) | fail)
      exact hQ f (kB_co hB fun i hi => kapp_nil hi) kfr_rf
    | succ k ih =>
      intro f len c v hk h0 hB hl hQ
      have h0' := h0
      unfold kKo at h0'
      obtain ⟨B, g0, -⟩ := id hB
      have e1 : nI (8 * (k + 1)) - 8 = nI (8 * k) := by rw [show (8 : Int32) = nI 8 from rfl, nI_sub (by omega), show 8 * (k + 1) - 8 = 8 * k by omega]
      have e2 : nI (8 * k) + -8 = nI (8 * k) - 8 := by rw [← Int32.sub_eq_add_neg]
      have hsh := kz_ush x (h := 8 * k) (by omega)
      have hm := Nat.mod_lt (x.toUInt32.toNat / 2 ^ (8 * k)) (show 256 > 0 by decide)
      rw [kByk] at hl hQ
      rw [e1]
      generalize x.toUInt32.toNat / 2 ^ (8 * k) % 256 = b at hsh hm hl hQ
      by_cases hb : b = 0
      · rw [if_pos hb, List.nil_append] at hl hQ
        (refine ky_ok_stp rfl ?_; simp (disch := first | omega | assumption) only [ky_stp, ky_inv, ky_ldi, ky_ldl, ky_ldd, ky_lda, ky_cl2, ky_st1, ky_st2, ky_s1i, ky_s2i, ky_s1l, ky_s2l, ky_sli, ky_s1f, ky_s2f, ky_s1d, ky_s2d, ky_sr, ky_sai, ky_sasi, ky_sasl, ky_sasr, ky_svr, ky_sv, ky_sv2, ky_s1, ky_cs, ky_pop, ky_nth, ky_snt, ky_obj, ky_ari, ky_arl, ky_arr, ky_arn, ky_fv, ky_rcv, List.map_cons, List.map_nil, List.drop_succ_cons, List.drop_zero, Value.category, Nat.reduceAdd, Nat.reduceSub, true_and, and_true, true_or, or_true, reduceCtorEq, ite_true, ite_false, eq_self, Nat.reduceEqDiff, Nat.reduceLeDiff, nI_add, nI_1, nI_leI, nI_ltI, nI_eq, nI_clamp, kz_m1, kz_mn, kz_mn2, kz_n0, kz_0n, kz_0, kz_le0, kz_0lt, false_implies, true_implies, not_false_eq_true, not_true_eq_false, Nat.zero_le, kb_0, kz_10, kz_of, ky_sw, kz_mx, kz_mi])
        repeat' (first | (refine ih f len c _ (by omega) h0 hB hl hQ) | (refine ky_ok_stp rfl ?_; simp (disch := first | omega | assumption) only [ky_stp, ky_inv, ky_ldi, ky_ldl, ky_ldd, ky_lda, ky_cl2, ky_st1, ky_st2, ky_s1i, ky_s2i, ky_s1l, ky_s2l, ky_sli, ky_s1f, ky_s2f, ky_s1d, ky_s2d, ky_sr, ky_sai, ky_sasi, ky_sasl, ky_sasr, ky_svr, ky_sv, ky_sv2, ky_s1, ky_cs, ky_pop, ky_nth, ky_snt, ky_obj, ky_ari, ky_arl, ky_arr, ky_arn, ky_fv, ky_rcv, List.map_cons, List.map_nil, List.drop_succ_cons, List.drop_zero, Value.category, Nat.reduceAdd, Nat.reduceSub, true_and, and_true, true_or, or_true, reduceCtorEq, ite_true, ite_false, eq_self, Nat.reduceEqDiff, Nat.reduceLeDiff, nI_add, nI_1, nI_leI, nI_ltI, nI_eq, nI_clamp, kz_m1, kz_mn, kz_mn2, kz_n0, kz_0n, kz_0, kz_le0, kz_0lt, false_implies, true_implies, not_false_eq_true, not_true_eq_false, Nat.zero_le, kb_0, kz_10, kz_of, ky_sw, kz_mx, kz_mi, hsh, hb, e2]) | (refine ⟨vp_in_nI (by omega) (by omega), ?_⟩) | (refine ⟨fun zc => ?_, fun zc => ?_⟩ <;> try (exfalso; omega)) | fail)
      · rw [if_neg hb] at hl hQ
        have hl' : len + ((kByk x k).length + 1) ≤ 700 := by simpa using hl
        (refine ky_ok_stp rfl ?_; simp (disch := first | omega | assumption) only [ky_stp, ky_inv, ky_ldi, ky_ldl, ky_ldd, ky_lda, ky_cl2, ky_st1, ky_st2, ky_s1i, ky_s2i, ky_s1l, ky_s2l, ky_sli, ky_s1f, ky_s2f, ky_s1d, ky_s2d, ky_sr, ky_sai, ky_sasi, ky_sasl, ky_sasr, ky_svr, ky_sv, ky_sv2, ky_s1, ky_cs, ky_pop, ky_nth, ky_snt, ky_obj, ky_ari, ky_arl, ky_arr, ky_arn, ky_fv, ky_rcv, List.map_cons, List.map_nil, List.drop_succ_cons, List.drop_zero, Value.category, Nat.reduceAdd, Nat.reduceSub, true_and, and_true, true_or, or_true, reduceCtorEq, ite_true, ite_false, eq_self, Nat.reduceEqDiff, Nat.reduceLeDiff, nI_add, nI_1, nI_leI, nI_ltI, nI_eq, nI_clamp, kz_m1, kz_mn, kz_mn2, kz_n0, kz_0n, kz_0, kz_le0, kz_0lt, false_implies, true_implies, not_false_eq_true, not_true_eq_false, Nat.zero_le, kb_0, kz_10, kz_of, ky_sw, kz_mx, kz_mi])
        repeat' (first | (refine kx2 ha hB (by omega) (by decide) hm ?_) | (refine ky_ok_stp rfl ?_; simp (disch := first | omega | assumption) only [ky_stp, ky_inv, ky_ldi, ky_ldl, ky_ldd, ky_lda, ky_cl2, ky_st1, ky_st2, ky_s1i, ky_s2i, ky_s1l, ky_s2l, ky_sli, ky_s1f, ky_s2f, ky_s1d, ky_s2d, ky_sr, ky_sai, ky_sasi, ky_sasl, ky_sasr, ky_svr, ky_sv, ky_sv2, ky_s1, ky_cs, ky_pop, ky_nth, ky_snt, ky_obj, ky_ari, ky_arl, ky_arr, ky_arn, ky_fv, ky_rcv, List.map_cons, List.map_nil, List.drop_succ_cons, List.drop_zero, Value.category, Nat.reduceAdd, Nat.reduceSub, true_and, and_true, true_or, or_true, reduceCtorEq, ite_true, ite_false, eq_self, Nat.reduceEqDiff, Nat.reduceLeDiff, nI_add, nI_1, nI_leI, nI_ltI, nI_eq, nI_clamp, kz_m1, kz_mn, kz_mn2, kz_n0, kz_0n, kz_0, kz_le0, kz_0lt, false_implies, true_implies, not_false_eq_true, not_true_eq_false, Nat.zero_le, kb_0, kz_10, kz_of, ky_sw, kz_mx, kz_mi, hsh, kz_0, eq_false hb, e2, h0', g0]) | (refine ⟨vp_in_nI (by omega) (by omega), ?_⟩) | (refine ⟨fun zc => ?_, fun zc => ?_⟩ <;> try (exfalso; omega)) | fail)
        intro f1 hB1 hF1
        simp only [ky_aft, ky_vl, Nat.reduceAdd]
        repeat' (first | (refine ih f1 (len + 1) (kcu c len b) _ (by omega) ((hF1 0 (by unfold kBB; omega)).trans h0) hB1 (by omega) ?_) | (refine ky_ok_stp rfl ?_; simp (disch := first | omega | assumption) only [ky_stp, ky_inv, ky_ldi, ky_ldl, ky_ldd, ky_lda, ky_cl2, ky_st1, ky_st2, ky_s1i, ky_s2i, ky_s1l, ky_s2l, ky_sli, ky_s1f, ky_s2f, ky_s1d, ky_s2d, ky_sr, ky_sai, ky_sasi, ky_sasl, ky_sasr, ky_svr, ky_sv, ky_sv2, ky_s1, ky_cs, ky_pop, ky_nth, ky_snt, ky_obj, ky_ari, ky_arl, ky_arr, ky_arn, ky_fv, ky_rcv, List.map_cons, List.map_nil, List.drop_succ_cons, List.drop_zero, Value.category, Nat.reduceAdd, Nat.reduceSub, true_and, and_true, true_or, or_true, reduceCtorEq, ite_true, ite_false, eq_self, Nat.reduceEqDiff, Nat.reduceLeDiff, nI_add, nI_1, nI_leI, nI_ltI, nI_eq, nI_clamp, kz_m1, kz_mn, kz_mn2, kz_n0, kz_0n, kz_0, kz_le0, kz_0lt, false_implies, true_implies, not_false_eq_true, not_true_eq_false, Nat.zero_le, kb_0, kz_10, kz_of, ky_sw, kz_mx, kz_mi, e2]) | (refine ⟨vp_in_nI (by omega) (by omega), ?_⟩) | (refine ⟨fun zc => ?_, fun zc => ?_⟩ <;> try (exfalso; omega)) | fail)
        intro f' w1 w2
        refine hQ f' ?_ (kfr_tr hF1 w2 fun j hj => ⟨by unfold kBB; omega, hj⟩)
        have e : len + ([b] ++ kByk x k).length = len + 1 + (kByk x k).length := by simp; omega
        rw [e]
        refine kB_co w1 fun i hi => ?_
        rw [← kapp_app, List.length_singleton]
        unfold kapp
        by_cases hi1 : i < len + 1
        · rw [if_pos hi1, if_pos hi1]
          have := kapp_one c len [] b i (by simpa using hi1)
          simp only [List.length_nil, Nat.add_zero, List.nil_append] at this
          show (if i < len then c i else [b].getD (i - len) 0) = kcu c len b i
          rw [show kcu (kapp c len []) len b i = kcu c len b i by
            unfold kcu
            by_cases e : i = len
            · rw [if_pos e, if_pos e]
            · rw [if_neg e, if_neg e]; exact kapp_nil (by omega)] at this
          rw [this]; rfl
        · rw [if_neg hi1, if_neg hi1]
  refine ⟨Nat.le_of_ble_eq_true rfl, fun z => absurd z (by decide), ?_⟩; show ky_ok adK 139 0 [some (.ref (a 0)), some (.int x), none, none] [] f 0 0 _
  repeat' (first | (refine loop 4 f len c _ (by decide) h0 hB hl hQ) | (refine ky_ok_stp rfl ?_; simp (disch := first | omega | assumption) only [ky_stp, ky_inv, ky_ldi, ky_ldl, ky_ldd, ky_lda, ky_cl2, ky_st1, ky_st2, ky_s1i, ky_s2i, ky_s1l, ky_s2l, ky_sli, ky_s1f, ky_s2f, ky_s1d, ky_s2d, ky_sr, ky_sai, ky_sasi, ky_sasl, ky_sasr, ky_svr, ky_sv, ky_sv2, ky_s1, ky_cs, ky_pop, ky_nth, ky_snt, ky_obj, ky_ari, ky_arl, ky_arr, ky_arn, ky_fv, ky_rcv, List.map_cons, List.map_nil, List.drop_succ_cons, List.drop_zero, Value.category, Nat.reduceAdd, Nat.reduceSub, true_and, and_true, true_or, or_true, reduceCtorEq, ite_true, ite_false, eq_self, Nat.reduceEqDiff, Nat.reduceLeDiff, nI_add, nI_1, nI_leI, nI_ltI, nI_eq, nI_clamp, kz_m1, kz_mn, kz_mn2, kz_n0, kz_0n, kz_0, kz_le0, kz_0lt, false_implies, true_implies, not_false_eq_true, not_true_eq_false, Nat.zero_le, kb_0, kz_10, kz_of, ky_sw, kz_mx, kz_mi, e24]) | (refine ⟨vp_in_nI (by omega) (by omega), ?_⟩) | (refine ⟨fun zc => ?_, fun zc => ?_⟩ <;> try (exfalso; omega)) | fail)
end KXU
