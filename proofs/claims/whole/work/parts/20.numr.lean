/-! ## NUMBERs: an object of them -/
def kNB (a : Nat → Nat) (k : Nat) (f : ky_H) (KD CT PX NL LV CH : Nat → Int32) : Prop :=
  f (a k) = some (.inr (2, [.ref (a (k + 1)), .ref (a (k + 2)), .ref (a (k + 3)), .ref (a (k + 4)), .ref (a (k + 5)), .ref (a (k + 6))])) ∧ f (a (k + 1)) = some (.inl (1, 60, .inl KD)) ∧ f (a (k + 2)) = some (.inl (1, 60, .inl CT)) ∧ f (a (k + 3)) = some (.inl (1, 60, .inl PX)) ∧ f (a (k + 4)) = some (.inl (1, 7, .inl NL)) ∧ f (a (k + 5)) = some (.inl (1, 7, .inl LV)) ∧ f (a (k + 6)) = some (.inl (1, 6, .inl CH))
def kct (ct : Nat) : Int32 := if ct = 0 then -1 else nI ct
/-- kinds, COUNTs (0: none), prefixes (their places plus 1) of n headings -/
def kNR (n : Nat) (KD CT PX : Nat → Int32) (kd ct px : Nat → Nat) : Prop := ∀ i, i < n → KD i = nI (kd i) ∧ CT i = kct (ct i) ∧ PX i = nI (px i) - 1
def kNw (n : Nat) (kd ct px : Nat → Nat) : Prop := ∀ i, i < n → kd i ≤ 5 ∧ ct i < 159 ∧ (ct i ≠ 0 → kd i < 5) ∧ px i ≤ i ∧ (px i ≠ 0 → ct i ≠ 0 ∧ ct (px i - 1) ≠ 0)
def kNu (a : Nat → Nat) (k : Nat) (f : ky_H) (n : Nat) (kd ct px : Nat → Nat) : Prop := ∃ KD CT PX NL LV CH, kNB a k f KD CT PX NL LV CH ∧ kNR n KD CT PX kd ct px
theorem kNB_fr {a : Nat → Nat} {k : Nat} {f f' : ky_H} {KD CT PX NL LV CH : Nat → Int32} (h : kNB a k f KD CT PX NL LV CH) (hf : ∀ j, k ≤ j → j ≤ k + 6 → f' (a j) = f (a j)) : kNB a k f' KD CT PX NL LV CH := by
  obtain ⟨h0, h1, h2, h3, h4, h5, h6⟩ := h
  exact ⟨(hf _ (by omega) (by omega)).trans h0, (hf _ (by omega) (by omega)).trans h1, (hf _ (by omega) (by omega)).trans h2, (hf _ (by omega) (by omega)).trans h3, (hf _ (by omega) (by omega)).trans h4, (hf _ (by omega) (by omega)).trans h5, (hf _ (by omega) (by omega)).trans h6⟩
theorem kNu_fr {a : Nat → Nat} {k n : Nat} {f f' : ky_H} {kd ct px : Nat → Nat} (h : kNu a k f n kd ct px) (hf : ∀ j, k ≤ j → j ≤ k + 6 → f' (a j) = f (a j)) : kNu a k f' n kd ct px := by
  obtain ⟨KD, CT, PX, NL, LV, CH, h1, h2⟩ := h
  exact ⟨KD, CT, PX, NL, LV, CH, kNB_fr h1 hf, h2⟩
/-- a sign's bytes -/
def sgn (kd ct : Nat) : List Nat := if ct = 0 then [] else sg kd ct
/-- the chain of prefixes from a place (plus 1) on, at most m -/
def kCn (px : Nat → Nat) : Nat → Nat → List Nat
  | 0, _ => []
  | _ + 1, 0 => []
  | m + 1, t + 1 => t :: kCn px m (px t)
/-- signs with full stops between -/
def kOl (kd ct : Nat → Nat) : List Nat → List Nat
  | [] => []
  | x :: r => sgn (kd x) (ct x) ++ ((if r = [] then [] else [46]) ++ kOl kd ct r)
/-- the NUMBER of a heading -/
def kNo (kd ct px : Nat → Nat) (p : Nat) : List Nat := kOl kd ct (kCn px 6 (p + 1)).reverse
theorem kpS_0 : kpS [] = 0 := by decide +kernel
theorem sgn_ok {kd ct : Nat} (h1 : kd ≤ 5) (h2 : ct < 159) (h3 : ct ≠ 0 → kd < 5) : (sgn kd ct).length ≤ 8 ∧ ∀ b ∈ sgn kd ct, 0 < b ∧ b < 256 ∧ b ≠ 46 := by
  unfold sgn
  by_cases h : ct = 0
  · rw [if_pos h]; exact ⟨by simp, fun b hb => by cases hb⟩
  · rw [if_neg h]; exact (sg_ok (h3 h) h2 (by omega)).2
theorem kCn_lt {n : Nat} {px : Nat → Nat} (hp : ∀ i, i < n → px i ≤ i) : ∀ m j, j ≤ n → ∀ x ∈ kCn px m j, x < n
  | 0, _, _, x, h => by cases h
  | _ + 1, 0, _, x, h => by cases h
  | m + 1, t + 1, hj, x, h => by
    rcases List.mem_cons.mp h with rfl | h
    · exact hj
    · exact kCn_lt hp m (px t) (by have := hp t hj; omega) x h
theorem kCn_len (px : Nat → Nat) : ∀ m j, (kCn px m j).length ≤ m
  | 0, _ => Nat.le_refl _
  | _ + 1, 0 => Nat.zero_le _
  | m + 1, t + 1 => by
    have := kCn_len px m (px t)
    simp only [kCn, List.length_cons]; omega
section KXN
variable {adK a : Nat → Nat} {k k2 kl cap len n n2 p p2 i j : Nat} {f : ky_H} {c kd ct px kd2 ct2 px2 : Nat → Nat} {Q : ky_Q} {KD CT PX NL LV CH : Nat → Int32}
theorem kx19u {d t : Nat} (h1 : d ≤ 5) (h2 : t < 159) (h3 : t ≠ 0 → d < 5) (hQ : Q (.inl (some (.long (kpS (sgn d t))))) f) : ky_cl adK 19 [.int (nI d), .int (kct t)] f Q := by
  unfold kct
  unfold sgn at hQ
  by_cases h : t = 0
  · rw [if_pos h] at hQ ⊢
    rw [kpS_0] at hQ
    exact kx19n hQ
  · rw [if_neg h] at hQ ⊢
    exact kx19 (h3 h) h2 (by omega) hQ
theorem kx12 (hj : j < 60) (hQ : Q (.inl (some (.int 1))) f) : ky_cl adK 12 [.int (nI j)] f Q := by
  refine ⟨Nat.le_of_ble_eq_true rfl, fun z => absurd z (by decide), ?_⟩; show ky_ok adK 12 0 [some (.int (nI j))] [] f 0 0 _
  repeat' (first | (refine ky_ok_stp rfl ?_; simp (disch := first | omega | assumption) only [ky_stp, ky_inv, ky_ldi, ky_ldl, ky_ldd, ky_lda, ky_cl2, ky_st1, ky_st2, ky_s1i, ky_s2i, ky_s1l, ky_s2l, ky_sli, ky_s1f, ky_s2f, ky_s1d, ky_s2d, ky_sr, ky_sai, ky_sasi, ky_sasl, ky_sasr, ky_svr, ky_sv, ky_sv2, ky_s1, ky_cs, ky_pop, ky_nth, ky_snt, ky_obj, ky_ari, ky_arl, ky_arr, ky_arn, ky_fv, ky_rcv, List.map_cons, List.map_nil, List.drop_succ_cons, List.drop_zero, Value.category, Nat.reduceAdd, Nat.reduceSub, true_and, and_true, true_or, or_true, reduceCtorEq, ite_true, ite_false, eq_self, Nat.reduceEqDiff, Nat.reduceLeDiff, nI_add, nI_1, nI_leI, nI_ltI, nI_eq, nI_clamp, kz_m1, kz_mn, kz_mn2, kz_n0, kz_0n, kz_0, kz_le0, kz_0lt, false_implies, true_implies, not_false_eq_true, not_true_eq_false, Nat.zero_le, kb_0, kz_10, kz_of, ky_sw, kz_mx, kz_mi, kz_60]) | (refine ⟨vp_in_nI (by omega) (by omega), ?_⟩) | (refine ⟨fun zc => ?_, fun zc => ?_⟩ <;> try (exfalso; omega)) | fail)
  exact hQ
theorem kx12m (hQ : Q (.inl (some (.int 0))) f) : ky_cl adK 12 [.int (-1)] f Q := by
  refine ⟨Nat.le_of_ble_eq_true rfl, fun z => absurd z (by decide), ?_⟩; show ky_ok adK 12 0 [some (.int (-1))] [] f 0 0 _
  repeat' (first | (refine ky_ok_stp rfl ?_; simp (disch := first | omega | assumption) only [ky_stp, ky_inv, ky_ldi, ky_ldl, ky_ldd, ky_lda, ky_cl2, ky_st1, ky_st2, ky_s1i, ky_s2i, ky_s1l, ky_s2l, ky_sli, ky_s1f, ky_s2f, ky_s1d, ky_s2d, ky_sr, ky_sai, ky_sasi, ky_sasl, ky_sasr, ky_svr, ky_sv, ky_sv2, ky_s1, ky_cs, ky_pop, ky_nth, ky_snt, ky_obj, ky_ari, ky_arl, ky_arr, ky_arn, ky_fv, ky_rcv, List.map_cons, List.map_nil, List.drop_succ_cons, List.drop_zero, Value.category, Nat.reduceAdd, Nat.reduceSub, true_and, and_true, true_or, or_true, reduceCtorEq, ite_true, ite_false, eq_self, Nat.reduceEqDiff, Nat.reduceLeDiff, nI_add, nI_1, nI_leI, nI_ltI, nI_eq, nI_clamp, kz_m1, kz_mn, kz_mn2, kz_n0, kz_0n, kz_0, kz_le0, kz_0lt, false_implies, true_implies, not_false_eq_true, not_true_eq_false, Nat.zero_le, kb_0, kz_10, kz_of, ky_sw, kz_mx, kz_mi, kz_60]) | (refine ⟨vp_in_nI (by omega) (by omega), ?_⟩) | (refine ⟨fun zc => ?_, fun zc => ?_⟩ <;> try (exfalso; omega)) | fail)
  exact hQ
theorem kz_ctm {t : Nat} (h : t < 159) : (kct t = -1) = (t = 0) := by
  unfold kct
  by_cases h0 : t = 0
  · simp [h0]
  · rw [if_neg h0]
    refine propext ⟨fun z => ?_, fun z => absurd z h0⟩
    have h1 := nI_pos (n := t) (by omega)
    rw [z] at h1
    exact absurd (by decide) h1
theorem kx13 (hB : kNB a k f KD CT PX NL LV CH) (hi : i < 60) (hQ : Q (.inl (some (.int (CT i)))) f) : ky_cl adK 13 [.ref (a k), .int (nI i)] f Q := by
  obtain ⟨h0, h1, h2, h3, h4, h5, h6⟩ := hB
  refine ⟨Nat.le_of_ble_eq_true rfl, fun z => absurd z (by decide), ?_⟩; show ky_ok adK 13 0 [some (.ref (a k)), some (.int (nI i))] [] f 0 0 _
  repeat' (first | (refine kx12 hi ?_; simp only [ky_aft, ky_vl, Nat.reduceAdd]) | (refine ky_ok_stp rfl ?_; simp (disch := first | omega | assumption) only [ky_stp, ky_inv, ky_ldi, ky_ldl, ky_ldd, ky_lda, ky_cl2, ky_st1, ky_st2, ky_s1i, ky_s2i, ky_s1l, ky_s2l, ky_sli, ky_s1f, ky_s2f, ky_s1d, ky_s2d, ky_sr, ky_sai, ky_sasi, ky_sasl, ky_sasr, ky_svr, ky_sv, ky_sv2, ky_s1, ky_cs, ky_pop, ky_nth, ky_snt, ky_obj, ky_ari, ky_arl, ky_arr, ky_arn, ky_fv, ky_rcv, List.map_cons, List.map_nil, List.drop_succ_cons, List.drop_zero, Value.category, Nat.reduceAdd, Nat.reduceSub, true_and, and_true, true_or, or_true, reduceCtorEq, ite_true, ite_false, eq_self, Nat.reduceEqDiff, Nat.reduceLeDiff, nI_add, nI_1, nI_leI, nI_ltI, nI_eq, nI_clamp, kz_m1, kz_mn, kz_mn2, kz_n0, kz_0n, kz_0, kz_le0, kz_0lt, false_implies, true_implies, not_false_eq_true, not_true_eq_false, Nat.zero_le, kb_0, kz_10, kz_of, ky_sw, kz_mx, kz_mi, h0, h1, h2, h3]) | (refine ⟨vp_in_nI (by omega) (by omega), ?_⟩) | (refine ⟨fun zc => ?_, fun zc => ?_⟩ <;> try (exfalso; omega)) | fail)
  exact hQ
theorem kx13m (hB : kNB a k f KD CT PX NL LV CH) (hQ : Q (.inl (some (.int (-1)))) f) : ky_cl adK 13 [.ref (a k), .int (-1)] f Q := by
  obtain ⟨h0, h1, h2, h3, h4, h5, h6⟩ := hB
  refine ⟨Nat.le_of_ble_eq_true rfl, fun z => absurd z (by decide), ?_⟩; show ky_ok adK 13 0 [some (.ref (a k)), some (.int (-1))] [] f 0 0 _
  repeat' (first | (refine kx12m ?_; simp only [ky_aft, ky_vl, Nat.reduceAdd]) | (refine ky_ok_stp rfl ?_; simp (disch := first | omega | assumption) only [ky_stp, ky_inv, ky_ldi, ky_ldl, ky_ldd, ky_lda, ky_cl2, ky_st1, ky_st2, ky_s1i, ky_s2i, ky_s1l, ky_s2l, ky_sli, ky_s1f, ky_s2f, ky_s1d, ky_s2d, ky_sr, ky_sai, ky_sasi, ky_sasl, ky_sasr, ky_svr, ky_sv, ky_sv2, ky_s1, ky_cs, ky_pop, ky_nth, ky_snt, ky_obj, ky_ari, ky_arl, ky_arr, ky_arn, ky_fv, ky_rcv, List.map_cons, List.map_nil, List.drop_succ_cons, List.drop_zero, Value.category, Nat.reduceAdd, Nat.reduceSub, true_and, and_true, true_or, or_true, reduceCtorEq, ite_true, ite_false, eq_self, Nat.reduceEqDiff, Nat.reduceLeDiff, nI_add, nI_1, nI_leI, nI_ltI, nI_eq, nI_clamp, kz_m1, kz_mn, kz_mn2, kz_n0, kz_0n, kz_0, kz_le0, kz_0lt, false_implies, true_implies, not_false_eq_true, not_true_eq_false, Nat.zero_le, kb_0, kz_10, kz_of, ky_sw, kz_mx, kz_mi, h0, h1, h2, h3]) | (refine ⟨vp_in_nI (by omega) (by omega), ?_⟩) | (refine ⟨fun zc => ?_, fun zc => ?_⟩ <;> try (exfalso; omega)) | fail)
  exact hQ
theorem kx14 (hB : kNB a k f KD CT PX NL LV CH) (hi : i < 60) (hC : CT i = kct (ct i)) (hc : ct i < 159) (hQ : Q (.inl (some (.int (if ct i = 0 then 0 else 1)))) f) : ky_cl adK 14 [.ref (a k), .int (nI i)] f Q := by
  have h0 := hB.1
  refine ⟨Nat.le_of_ble_eq_true rfl, fun z => absurd z (by decide), ?_⟩; show ky_ok adK 14 0 [some (.ref (a k)), some (.int (nI i))] [] f 0 0 _
  repeat' (first | (refine kx13 hB hi ?_; simp only [ky_aft, ky_vl, Nat.reduceAdd]) | (refine ky_ok_stp rfl ?_; simp (disch := first | omega | assumption) only [ky_stp, ky_inv, ky_ldi, ky_ldl, ky_ldd, ky_lda, ky_cl2, ky_st1, ky_st2, ky_s1i, ky_s2i, ky_s1l, ky_s2l, ky_sli, ky_s1f, ky_s2f, ky_s1d, ky_s2d, ky_sr, ky_sai, ky_sasi, ky_sasl, ky_sasr, ky_svr, ky_sv, ky_sv2, ky_s1, ky_cs, ky_pop, ky_nth, ky_snt, ky_obj, ky_ari, ky_arl, ky_arr, ky_arn, ky_fv, ky_rcv, List.map_cons, List.map_nil, List.drop_succ_cons, List.drop_zero, Value.category, Nat.reduceAdd, Nat.reduceSub, true_and, and_true, true_or, or_true, reduceCtorEq, ite_true, ite_false, eq_self, Nat.reduceEqDiff, Nat.reduceLeDiff, nI_add, nI_1, nI_leI, nI_ltI, nI_eq, nI_clamp, kz_m1, kz_mn, kz_mn2, kz_n0, kz_0n, kz_0, kz_le0, kz_0lt, false_implies, true_implies, not_false_eq_true, not_true_eq_false, Nat.zero_le, kb_0, kz_10, kz_of, ky_sw, kz_mx, kz_mi, h0, hC, kz_ctm]) | (refine ⟨vp_in_nI (by omega) (by omega), ?_⟩) | (refine ⟨fun zc => ?_, fun zc => ?_⟩ <;> try (exfalso; omega)) | fail)
  · rw [if_pos (by assumption)] at hQ; exact hQ
  · rw [if_neg (by assumption)] at hQ; exact hQ
theorem kx14m (hB : kNB a k f KD CT PX NL LV CH) (hQ : Q (.inl (some (.int 0))) f) : ky_cl adK 14 [.ref (a k), .int (-1)] f Q := by
  have h0 := hB.1
  refine ⟨Nat.le_of_ble_eq_true rfl, fun z => absurd z (by decide), ?_⟩; show ky_ok adK 14 0 [some (.ref (a k)), some (.int (-1))] [] f 0 0 _
  repeat' (first | (refine kx13m hB ?_; simp only [ky_aft, ky_vl, Nat.reduceAdd]) | (refine ky_ok_stp rfl ?_; simp (disch := first | omega | assumption) only [ky_stp, ky_inv, ky_ldi, ky_ldl, ky_ldd, ky_lda, ky_cl2, ky_st1, ky_st2, ky_s1i, ky_s2i, ky_s1l, ky_s2l, ky_sli, ky_s1f, ky_s2f, ky_s1d, ky_s2d, ky_sr, ky_sai, ky_sasi, ky_sasl, ky_sasr, ky_svr, ky_sv, ky_sv2, ky_s1, ky_cs, ky_pop, ky_nth, ky_snt, ky_obj, ky_ari, ky_arl, ky_arr, ky_arn, ky_fv, ky_rcv, List.map_cons, List.map_nil, List.drop_succ_cons, List.drop_zero, Value.category, Nat.reduceAdd, Nat.reduceSub, true_and, and_true, true_or, or_true, reduceCtorEq, ite_true, ite_false, eq_self, Nat.reduceEqDiff, Nat.reduceLeDiff, nI_add, nI_1, nI_leI, nI_ltI, nI_eq, nI_clamp, kz_m1, kz_mn, kz_mn2, kz_n0, kz_0n, kz_0, kz_le0, kz_0lt, false_implies, true_implies, not_false_eq_true, not_true_eq_false, Nat.zero_le, kb_0, kz_10, kz_of, ky_sw, kz_mx, kz_mi, h0]) | (refine ⟨vp_in_nI (by omega) (by omega), ?_⟩) | (refine ⟨fun zc => ?_, fun zc => ?_⟩ <;> try (exfalso; omega)) | fail)
  exact hQ
theorem kx17 (ha : kI a) (hkl : kl + 1 < k ∨ k + 6 < kl) (hN : kNB a k f KD CT PX NL LV CH) (hR : kNR n KD CT PX kd ct px) (hw : kNw n kd ct px) (hn : n ≤ 60) (hp : p < n) (hB : kB a kl f cap len c) (hc : cap < 100000) (hlen : len + (kNo kd ct px p).length ≤ cap)
    (hQ : ∀ f' CH', kNB a k f' KD CT PX NL LV CH' → kB a kl f' cap (len + (kNo kd ct px p).length) (kapp c len (kNo kd ct px p)) → kfr a f f' (fun j => j = k + 6 ∨ j = kl ∨ j = kl + 1) → Q (.inl none) f') :
    ky_cl adK 17 [.ref (a k), .ref (a kl), .int (nI p)] f Q := by
  unfold kNo at hlen hQ
  have hTn := kCn_lt (fun i hi => (hw i hi).2.2.2.1) 6 (p + 1) (show p + 1 ≤ n by omega)
  have hT6 := kCn_len px 6 (p + 1)
  generalize hT : kCn px 6 (p + 1) = T at hlen hQ hTn hT6
  have loop2 : ∀ r f out, (∃ d, T = r.reverse ++ d) → kNB a k f KD CT PX NL LV (kput CH T) → kB a kl f cap (len + out.length) (kapp c len out) → len + (out ++ kOl kd ct r).length ≤ cap →
      (∀ f', kNB a k f' KD CT PX NL LV (kput CH T) → kB a kl f' cap (len + (out ++ kOl kd ct r).length) (kapp c len (out ++ kOl kd ct r)) → kfr a f f' (fun j => j = kl ∨ j = kl + 1) → Q (.inl none) f') →
      ∀ w, ky_ok adK 17 55 [some (.ref (a k)), some (.ref (a kl)), some (.int (nI p)), some (.int (nI T.length)), w, some (.int (nI r.length - 1))] [] f 0 0 Q := by
    intro r
    induction r with
    | nil =>
      intro f out _ hN hB hl hQ w
      rw [List.length_nil, kz_z]
      repeat' (first | (refine ky_ok_stp rfl ?_; simp (disch := first | omega | assumption) only [ky_stp, ky_inv, ky_ldi, ky_ldl, ky_ldd, ky_lda, ky_cl2, ky_st1, ky_st2, ky_s1i, ky_s2i, ky_s1l, ky_s2l, ky_sli, ky_s1f, ky_s2f, ky_s1d, ky_s2d, ky_sr, ky_sai, ky_sasi, ky_sasl, ky_sasr, ky_svr, ky_sv, ky_sv2, ky_s1, ky_cs, ky_pop, ky_nth, ky_snt, ky_obj, ky_ari, ky_arl, ky_arr, ky_arn, ky_fv, ky_rcv, List.map_cons, List.map_nil, List.drop_succ_cons, List.drop_zero, Value.category, Nat.reduceAdd, Nat.reduceSub, true_and, and_true, true_or, or_true, reduceCtorEq, ite_true, ite_false, eq_self, Nat.reduceEqDiff, Nat.reduceLeDiff, nI_add, nI_1, nI_leI, nI_ltI, nI_eq, nI_clamp, kz_m1, kz_mn, kz_mn2, kz_n0, kz_0n, kz_0, kz_le0, kz_0lt, false_implies, true_implies, not_false_eq_true, not_true_eq_false, Nat.zero_le, kb_0, kz_10, kz_of, ky_sw, kz_mx, kz_mi]) | (refine ⟨vp_in_nI (by omega) (by omega), ?_⟩) | (refine ⟨fun zc => ?_, fun zc => ?_⟩ <;> try (exfalso; omega)) | fail)
      rw [kOl, List.append_nil] at hQ
      exact hQ f hN hB kfr_rf
    | cons x r ih =>
      intro f out hd hN hB hl hQ w
      obtain ⟨d, hd⟩ := hd
      have hx : x < n := hTn x (by rw [hd]; simp)
      obtain ⟨w1, w2, w3, w4, w5⟩ := hw x hx
      obtain ⟨r1, r2, r3⟩ := hR x hx
      have hs := sgn_ok w1 w2 w3
      have hTl : T.length = r.length + 1 + d.length := by rw [hd]; simp; omega
      have hput : kput CH T r.length = nI x := by
        unfold kput
        rw [if_pos (by omega), hd]
        congr 1
        rw [List.getD_eq_getElem?_getD, List.getElem?_append_left (by simp), List.reverse_cons, List.getElem?_append_right (by simp)]
        simp
      obtain ⟨h0, h1, h2, h3, h4, h5, h6⟩ := id hN
      rw [List.length_cons, nI_pred]
      repeat' (first | (refine kx19u w1 w2 w3 ?_; simp only [ky_aft, ky_vl, Nat.reduceAdd]) | (refine ky_ok_stp rfl ?_; simp (disch := first | omega | assumption) only [ky_stp, ky_inv, ky_ldi, ky_ldl, ky_ldd, ky_lda, ky_cl2, ky_st1, ky_st2, ky_s1i, ky_s2i, ky_s1l, ky_s2l, ky_sli, ky_s1f, ky_s2f, ky_s1d, ky_s2d, ky_sr, ky_sai, ky_sasi, ky_sasl, ky_sasr, ky_svr, ky_sv, ky_sv2, ky_s1, ky_cs, ky_pop, ky_nth, ky_snt, ky_obj, ky_ari, ky_arl, ky_arr, ky_arn, ky_fv, ky_rcv, List.map_cons, List.map_nil, List.drop_succ_cons, List.drop_zero, Value.category, Nat.reduceAdd, Nat.reduceSub, true_and, and_true, true_or, or_true, reduceCtorEq, ite_true, ite_false, eq_self, Nat.reduceEqDiff, Nat.reduceLeDiff, nI_add, nI_1, nI_leI, nI_ltI, nI_eq, nI_clamp, kz_m1, kz_mn, kz_mn2, kz_n0, kz_0n, kz_0, kz_le0, kz_0lt, false_implies, true_implies, not_false_eq_true, not_true_eq_false, Nat.zero_le, kb_0, kz_10, kz_of, ky_sw, kz_mx, kz_mi, h0, h1, h2, h3, h6, hput, r1, r2]) | (refine ⟨vp_in_nI (by omega) (by omega), ?_⟩) | (refine ⟨fun zc => ?_, fun zc => ?_⟩ <;> try (exfalso; omega)) | fail)
      rw [kOl] at hl hQ
      refine kx18 ha hB hc (by rw [List.length_append, List.length_append] at hl; omega) hs.1 (fun b hb => ⟨(hs.2 b hb).1, (hs.2 b hb).2.1⟩) fun f1 hB1 hf1 => ?_
      rw [kapp_app, Nat.add_assoc, ← List.length_append] at hB1
      have hN1 : kNB a k f1 KD CT PX NL LV (kput CH T) := kNB_fr hN fun j z1 z2 => hf1 j (by unfold kBB; omega)
      simp only [ky_aft, ky_vl, Nat.reduceAdd]
      by_cases hr : r = []
      · subst hr
        rw [if_pos rfl, List.nil_append] at hl hQ
        repeat' (first | (refine ih f1 _ ⟨x :: d, by rw [hd]; simp⟩ hN1 hB1 (by rw [List.append_assoc]; exact hl) (fun f' z1 z2 z3 => ?_) _) | (refine ky_ok_stp rfl ?_; simp (disch := first | omega | assumption) only [ky_stp, ky_inv, ky_ldi, ky_ldl, ky_ldd, ky_lda, ky_cl2, ky_st1, ky_st2, ky_s1i, ky_s2i, ky_s1l, ky_s2l, ky_sli, ky_s1f, ky_s2f, ky_s1d, ky_s2d, ky_sr, ky_sai, ky_sasi, ky_sasl, ky_sasr, ky_svr, ky_sv, ky_sv2, ky_s1, ky_cs, ky_pop, ky_nth, ky_snt, ky_obj, ky_ari, ky_arl, ky_arr, ky_arn, ky_fv, ky_rcv, List.map_cons, List.map_nil, List.drop_succ_cons, List.drop_zero, Value.category, Nat.reduceAdd, Nat.reduceSub, true_and, and_true, true_or, or_true, reduceCtorEq, ite_true, ite_false, eq_self, Nat.reduceEqDiff, Nat.reduceLeDiff, nI_add, nI_1, nI_leI, nI_ltI, nI_eq, nI_clamp, kz_m1, kz_mn, kz_mn2, kz_n0, kz_0n, kz_0, kz_le0, kz_0lt, false_implies, true_implies, not_false_eq_true, not_true_eq_false, Nat.zero_le, kb_0, kz_10, kz_of, ky_sw, kz_mx, kz_mi, List.length_nil, Nat.lt_irrefl]) | (refine ⟨vp_in_nI (by omega) (by omega), ?_⟩) | (refine ⟨fun zc => ?_, fun zc => ?_⟩ <;> try (exfalso; omega)) | fail)
        exact hQ f' z1 (by rw [List.append_assoc] at z2; exact z2) (kfr_tr hf1 z3 fun j hj => ⟨hj, hj⟩)
      · rw [if_neg hr] at hl hQ
        have hr0 : 0 < r.length := by
          cases r with
          | nil => exact absurd rfl hr
          | cons y r => simp
        obtain ⟨B1, hb0, -⟩ := id hB1
        repeat' (first | (refine ky_ok_stp rfl ?_; simp (disch := first | omega | assumption) only [ky_stp, ky_inv, ky_ldi, ky_ldl, ky_ldd, ky_lda, ky_cl2, ky_st1, ky_st2, ky_s1i, ky_s2i, ky_s1l, ky_s2l, ky_sli, ky_s1f, ky_s2f, ky_s1d, ky_s2d, ky_sr, ky_sai, ky_sasi, ky_sasl, ky_sasr, ky_svr, ky_sv, ky_sv2, ky_s1, ky_cs, ky_pop, ky_nth, ky_snt, ky_obj, ky_ari, ky_arl, ky_arr, ky_arn, ky_fv, ky_rcv, List.map_cons, List.map_nil, List.drop_succ_cons, List.drop_zero, Value.category, Nat.reduceAdd, Nat.reduceSub, true_and, and_true, true_or, or_true, reduceCtorEq, ite_true, ite_false, eq_self, Nat.reduceEqDiff, Nat.reduceLeDiff, nI_add, nI_1, nI_leI, nI_ltI, nI_eq, nI_clamp, kz_m1, kz_mn, kz_mn2, kz_n0, kz_0n, kz_0, kz_le0, kz_0lt, false_implies, true_implies, not_false_eq_true, not_true_eq_false, Nat.zero_le, kb_0, kz_10, kz_of, ky_sw, kz_mx, kz_mi, kz_0lt, hb0]) | (refine ⟨vp_in_nI (by omega) (by omega), ?_⟩) | (refine ⟨fun zc => ?_, fun zc => ?_⟩ <;> try (exfalso; omega)) | fail)
        refine kx2l ha hB1 (by simp only [List.length_append, List.length_cons, List.length_nil] at hl ⊢; omega) hc (b := 46) (by omega) fun f2 hB2 hf2 => ?_
        have hN2 : kNB a k f2 KD CT PX NL LV (kput CH T) := kNB_fr hN1 fun j z1 z2 => hf2 j (by unfold kBB; omega)
        simp only [ky_aft, ky_vl, Nat.reduceAdd]
        repeat' (first | (refine ih f2 _ ⟨x :: d, by rw [hd]; simp⟩ hN2 hB2 (by simp only [List.append_assoc]; exact hl) (fun f' z1 z2 z3 => ?_) _) | (refine ky_ok_stp rfl ?_; simp (disch := first | omega | assumption) only [ky_stp, ky_inv, ky_ldi, ky_ldl, ky_ldd, ky_lda, ky_cl2, ky_st1, ky_st2, ky_s1i, ky_s2i, ky_s1l, ky_s2l, ky_sli, ky_s1f, ky_s2f, ky_s1d, ky_s2d, ky_sr, ky_sai, ky_sasi, ky_sasl, ky_sasr, ky_svr, ky_sv, ky_sv2, ky_s1, ky_cs, ky_pop, ky_nth, ky_snt, ky_obj, ky_ari, ky_arl, ky_arr, ky_arn, ky_fv, ky_rcv, List.map_cons, List.map_nil, List.drop_succ_cons, List.drop_zero, Value.category, Nat.reduceAdd, Nat.reduceSub, true_and, and_true, true_or, or_true, reduceCtorEq, ite_true, ite_false, eq_self, Nat.reduceEqDiff, Nat.reduceLeDiff, nI_add, nI_1, nI_leI, nI_ltI, nI_eq, nI_clamp, kz_m1, kz_mn, kz_mn2, kz_n0, kz_0n, kz_0, kz_le0, kz_0lt, false_implies, true_implies, not_false_eq_true, not_true_eq_false, Nat.zero_le, kb_0, kz_10, kz_of, ky_sw, kz_mx, kz_mi, kz_m1]) | (refine ⟨vp_in_nI (by omega) (by omega), ?_⟩) | (refine ⟨fun zc => ?_, fun zc => ?_⟩ <;> try (exfalso; omega)) | fail)
        exact hQ f' z1 (by simp only [List.append_assoc] at z2; exact z2) (kfr_tr (kfr_tr hf1 hf2 (T := kBB kl) fun j hj => ⟨hj, hj⟩) z3 fun j hj => ⟨hj, hj⟩)
  obtain ⟨h0, h1, h2, h3, h4, h5, h6⟩ := id hN
  have hNu : ∀ acc, kNB a k (ky_up f (a (k + 6)) (.inl (1, 6, .inl (kput CH acc)))) KD CT PX NL LV (kput CH acc) := by
    intro acc
    unfold kNB
    simp (disch := first | omega | assumption) only [kz_up, kI_ne ha, ite_true, ite_false, true_and, and_true]
    exact ⟨h0, h1, h2, h3, h4, h5⟩
  have hBu : ∀ e, kB a kl (ky_up f (a (k + 6)) e) cap len c := fun e => kB_fr hB (kz_ne (fun z => absurd (ha _ _ z) (by omega))) (kz_ne (fun z => absurd (ha _ _ z) (by omega)))
  have fin : ∀ t j acc w, T = acc → acc.length = t → ky_ok adK 17 50 [some (.ref (a k)), some (.ref (a kl)), some (.int (nI p)), some (.int (nI t)), some (.int (nI j - 1)), some (.int w)] [] (ky_up f (a (k + 6)) (.inl (1, 6, .inl (kput CH acc)))) 0 0 Q := by
    intro t j acc w e1 e2
    subst e1
    subst e2
    have hl2 := loop2 T.reverse _ [] ⟨[], by simp⟩ (hNu T) (kB_0 (hBu _)) (by simpa using hlen) (fun f' z1 z2 z3 => hQ f' _ z1 (by simpa using z2) (kfr_tr (kfr_up ha kfr_rf (Or.inl rfl)) z3 fun j hj => ⟨hj, fun z => hj (Or.inr z)⟩)) (some (.int (nI j - 1)))
    rw [List.length_reverse] at hl2
    repeat' (first | (exact hl2) | (refine ky_ok_stp rfl ?_; simp (disch := first | omega | assumption) only [ky_stp, ky_inv, ky_ldi, ky_ldl, ky_ldd, ky_lda, ky_cl2, ky_st1, ky_st2, ky_s1i, ky_s2i, ky_s1l, ky_s2l, ky_sli, ky_s1f, ky_s2f, ky_s1d, ky_s2d, ky_sr, ky_sai, ky_sasi, ky_sasl, ky_sasr, ky_svr, ky_sv, ky_sv2, ky_s1, ky_cs, ky_pop, ky_nth, ky_snt, ky_obj, ky_ari, ky_arl, ky_arr, ky_arn, ky_fv, ky_rcv, List.map_cons, List.map_nil, List.drop_succ_cons, List.drop_zero, Value.category, Nat.reduceAdd, Nat.reduceSub, true_and, and_true, true_or, or_true, reduceCtorEq, ite_true, ite_false, eq_self, Nat.reduceEqDiff, Nat.reduceLeDiff, nI_add, nI_1, nI_leI, nI_ltI, nI_eq, nI_clamp, kz_m1, kz_mn, kz_mn2, kz_n0, kz_0n, kz_0, kz_le0, kz_0lt, false_implies, true_implies, not_false_eq_true, not_true_eq_false, Nat.zero_le, kb_0, kz_10, kz_of, ky_sw, kz_mx, kz_mi]) | (refine ⟨vp_in_nI (by omega) (by omega), ?_⟩) | (refine ⟨fun zc => ?_, fun zc => ?_⟩ <;> try (exfalso; omega)) | fail)
  have loop1 : ∀ m t j acc, T = acc ++ kCn px m j → acc.length = t → t + m = 6 → j ≤ n → ky_ok adK 17 8 [some (.ref (a k)), some (.ref (a kl)), some (.int (nI p)), some (.int (nI t)), some (.int (nI j - 1)), some (.int (nI t))] [] (ky_up f (a (k + 6)) (.inl (1, 6, .inl (kput CH acc)))) 0 0 Q := by
    intro m
    induction m with
    | zero =>
      intro t j acc e1 e2 e3 e4
      rw [kCn, List.append_nil] at e1
      repeat' (first | (exact fin t j acc _ e1 e2) | (refine ky_ok_stp rfl ?_; simp (disch := first | omega | assumption) only [ky_stp, ky_inv, ky_ldi, ky_ldl, ky_ldd, ky_lda, ky_cl2, ky_st1, ky_st2, ky_s1i, ky_s2i, ky_s1l, ky_s2l, ky_sli, ky_s1f, ky_s2f, ky_s1d, ky_s2d, ky_sr, ky_sai, ky_sasi, ky_sasl, ky_sasr, ky_svr, ky_sv, ky_sv2, ky_s1, ky_cs, ky_pop, ky_nth, ky_snt, ky_obj, ky_ari, ky_arl, ky_arr, ky_arn, ky_fv, ky_rcv, List.map_cons, List.map_nil, List.drop_succ_cons, List.drop_zero, Value.category, Nat.reduceAdd, Nat.reduceSub, true_and, and_true, true_or, or_true, reduceCtorEq, ite_true, ite_false, eq_self, Nat.reduceEqDiff, Nat.reduceLeDiff, nI_add, nI_1, nI_leI, nI_ltI, nI_eq, nI_clamp, kz_m1, kz_mn, kz_mn2, kz_n0, kz_0n, kz_0, kz_le0, kz_0lt, false_implies, true_implies, not_false_eq_true, not_true_eq_false, Nat.zero_le, kb_0, kz_10, kz_of, ky_sw, kz_mx, kz_mi, kz_6]) | (refine ⟨vp_in_nI (by omega) (by omega), ?_⟩) | (refine ⟨fun zc => ?_, fun zc => ?_⟩ <;> try (exfalso; omega)) | fail)
    | succ m ih =>
      intro t j acc e1 e2 e3 e4
      cases j with
      | zero =>
        rw [kCn, List.append_nil] at e1
        have e5 := fin t 0 acc (nI t) e1 e2
        rw [kz_z] at e5 ⊢
        repeat' (first | (exact e5) | (refine kx12m ?_; simp only [ky_aft, ky_vl, Nat.reduceAdd]) | (refine ky_ok_stp rfl ?_; simp (disch := first | omega | assumption) only [ky_stp, ky_inv, ky_ldi, ky_ldl, ky_ldd, ky_lda, ky_cl2, ky_st1, ky_st2, ky_s1i, ky_s2i, ky_s1l, ky_s2l, ky_sli, ky_s1f, ky_s2f, ky_s1d, ky_s2d, ky_sr, ky_sai, ky_sasi, ky_sasl, ky_sasr, ky_svr, ky_sv, ky_sv2, ky_s1, ky_cs, ky_pop, ky_nth, ky_snt, ky_obj, ky_ari, ky_arl, ky_arr, ky_arn, ky_fv, ky_rcv, List.map_cons, List.map_nil, List.drop_succ_cons, List.drop_zero, Value.category, Nat.reduceAdd, Nat.reduceSub, true_and, and_true, true_or, or_true, reduceCtorEq, ite_true, ite_false, eq_self, Nat.reduceEqDiff, Nat.reduceLeDiff, nI_add, nI_1, nI_leI, nI_ltI, nI_eq, nI_clamp, kz_m1, kz_mn, kz_mn2, kz_n0, kz_0n, kz_0, kz_le0, kz_0lt, false_implies, true_implies, not_false_eq_true, not_true_eq_false, Nat.zero_le, kb_0, kz_10, kz_of, ky_sw, kz_mx, kz_mi, kz_6]) | (refine ⟨vp_in_nI (by omega) (by omega), ?_⟩) | (refine ⟨fun zc => ?_, fun zc => ?_⟩ <;> try (exfalso; omega)) | fail)
      | succ j =>
        have hj : j < n := e4
        obtain ⟨r1, r2, r3⟩ := hR j hj
        have w4 := (hw j hj).2.2.2.1
        rw [kCn] at e1
        rw [nI_pred]
        repeat' (first | (refine ih (t + 1) (px j) (acc ++ [j]) (by rw [e1]; simp) (ksn_len e2 j) (by omega) (by omega)) | (refine kx12 (show j < 60 by omega) ?_; simp only [ky_aft, ky_vl, Nat.reduceAdd]) | (refine ky_ok_stp rfl ?_; simp (disch := first | omega | assumption) only [ky_stp, ky_inv, ky_ldi, ky_ldl, ky_ldd, ky_lda, ky_cl2, ky_st1, ky_st2, ky_s1i, ky_s2i, ky_s1l, ky_s2l, ky_sli, ky_s1f, ky_s2f, ky_s1d, ky_s2d, ky_sr, ky_sai, ky_sasi, ky_sasl, ky_sasr, ky_svr, ky_sv, ky_sv2, ky_s1, ky_cs, ky_pop, ky_nth, ky_snt, ky_obj, ky_ari, ky_arl, ky_arr, ky_arn, ky_fv, ky_rcv, List.map_cons, List.map_nil, List.drop_succ_cons, List.drop_zero, Value.category, Nat.reduceAdd, Nat.reduceSub, true_and, and_true, true_or, or_true, reduceCtorEq, ite_true, ite_false, eq_self, Nat.reduceEqDiff, Nat.reduceLeDiff, nI_add, nI_1, nI_leI, nI_ltI, nI_eq, nI_clamp, kz_m1, kz_mn, kz_mn2, kz_n0, kz_0n, kz_0, kz_le0, kz_0lt, false_implies, true_implies, not_false_eq_true, not_true_eq_false, Nat.zero_le, kb_0, kz_10, kz_of, ky_sw, kz_mx, kz_mi, kz_6, kz_up, kI_ne ha, h0, h3, r3, kput_sn, kz_uu]) | (refine ⟨vp_in_nI (by omega) (by omega), ?_⟩) | (refine ⟨fun zc => ?_, fun zc => ?_⟩ <;> try (exfalso; omega)) | fail)
  have e0 : ky_up f (a (k + 6)) (.inl (1, 6, .inl (kput CH []))) = f := by rw [kput_nil, kz_id h6]
  have hl0 := loop1 6 0 (p + 1) [] (by rw [List.nil_append]; exact hT.symm) rfl rfl (by omega)
  rw [e0, nI_pred] at hl0
  refine ⟨Nat.le_of_ble_eq_true rfl, fun z => absurd z (by decide), ?_⟩; show ky_ok adK 17 0 [some (.ref (a k)), some (.ref (a kl)), some (.int (nI p)), none, none, none] [] f 0 0 _
  repeat' (first | (exact hl0) | (refine ky_ok_stp rfl ?_; simp (disch := first | omega | assumption) only [ky_stp, ky_inv, ky_ldi, ky_ldl, ky_ldd, ky_lda, ky_cl2, ky_st1, ky_st2, ky_s1i, ky_s2i, ky_s1l, ky_s2l, ky_sli, ky_s1f, ky_s2f, ky_s1d, ky_s2d, ky_sr, ky_sai, ky_sasi, ky_sasl, ky_sasr, ky_svr, ky_sv, ky_sv2, ky_s1, ky_cs, ky_pop, ky_nth, ky_snt, ky_obj, ky_ari, ky_arl, ky_arr, ky_arn, ky_fv, ky_rcv, List.map_cons, List.map_nil, List.drop_succ_cons, List.drop_zero, Value.category, Nat.reduceAdd, Nat.reduceSub, true_and, and_true, true_or, or_true, reduceCtorEq, ite_true, ite_false, eq_self, Nat.reduceEqDiff, Nat.reduceLeDiff, nI_add, nI_1, nI_leI, nI_ltI, nI_eq, nI_clamp, kz_m1, kz_mn, kz_mn2, kz_n0, kz_0n, kz_0, kz_le0, kz_0lt, false_implies, true_implies, not_false_eq_true, not_true_eq_false, Nat.zero_le, kb_0, kz_10, kz_of, ky_sw, kz_mx, kz_mi]) | (refine ⟨vp_in_nI (by omega) (by omega), ?_⟩) | (refine ⟨fun zc => ?_, fun zc => ?_⟩ <;> try (exfalso; omega)) | fail)
end KXN
