/-! ## insert, foldTo -/
def kIsN (bl : Nat) (bc : Nat → Nat) (b : Nat) : Prop := b ≤ bl ∧ ∀ i, i < b → klt (bc i)
def kIlv (z : kZ) (j w : Nat) : Nat := if j = 0 then 1 else kNl z (j - 1) w
def kIpl (z : kZ) (j w : Nat) : Nat := if j = 0 then z.n else kTo2 z (j - 1) w
def kInz (z : kZ) (j w : Nat) (nm : Int64) : kZ := ⟨z.n + 1, fun i => if i < kIpl z j w then z.R i else if i = kIpl z j w then (nm, nI (kIlv z j w), 0, 0) else z.R (i - 1), z.S⟩
def kTi' (s : kSt) (j w : Nat) (nm : Int64) : Int32 × kSt := if s.o.n = 60 then (-(nI 3), kRef s 3) else if 6 < kIlv s.o j w then (-(nI 1), kRef s 1) else (nI (kIpl s.o j w), (kBeg s).setO (kInz s.o j w nm))
theorem kTo_s {z : kZ} (h : kZo z) {t w : Nat} (ht : t < z.n) : (0 < kTo2 z t w → kNl z t w ≤ kV z.R (kTo2 z t w - 1) + 1) ∧ (kTo2 z t w < z.n → kV z.R (kTo2 z t w) ≤ kNl z t w + 1) ∧ kTo2 z t w ≤ z.n ∧ (kTo2 z t w = 0 → kNl z t w = 1) := by
  have hT := kEnd_le ht
  have hTV := kEnd_V h ht
  have hov := kZo_ov h
  have hoe := kTo2_e z t w
  have hnl : kV z.R t ≤ kNl z t w ∧ kNl z t w ≤ kV z.R t + 1 ∧ (w = 0 → kNl z t w = kV z.R t) ∧ (w = 2 → kNl z t w = kV z.R t + 1) := by
    unfold kNl
    split
    · omega
    · omega
  generalize kNl z t w = l at hnl ⊢
  generalize kTo2 z t w = to at hoe ⊢
  refine ⟨fun h0 => ?_, fun h0 => ?_, ?_, fun h0 => ?_⟩
  · by_cases w0 : w = 0
    · rw [if_pos w0] at hoe
      have := hov.2.1 (t - 1) (by omega)
      rw [show t - 1 + 1 = t by omega] at this
      rw [hoe, hnl.2.2.1 w0]; exact this
    · rw [if_neg w0] at hoe
      by_cases w2 : w = 2
      · rw [if_pos w2] at hoe
        rw [hoe, Nat.add_sub_cancel]; omega
      · rw [if_neg w2] at hoe
        by_cases e : to - 1 = t
        · rw [e]; omega
        · have := hTV.1 (to - 1) (by omega) (by omega)
          omega
  · by_cases w0 : w = 0
    · rw [if_pos w0] at hoe
      rw [hoe]; omega
    · rw [if_neg w0] at hoe
      by_cases w2 : w = 2
      · rw [if_pos w2] at hoe
        have := hov.2.1 t (by omega)
        rw [hoe]; omega
      · rw [if_neg w2] at hoe
        have := hTV.2.1 (by omega)
        rw [hoe]; omega
  · rw [hoe]
    split
    · omega
    · split <;> omega
  · by_cases w0 : w = 0
    · rw [if_pos w0] at hoe
      rw [hnl.2.2.1 w0]
      have : t = 0 := by omega
      rw [this]; exact hov.1 (by omega)
    · rw [if_neg w0] at hoe
      by_cases w2 : w = 2
      · rw [if_pos w2] at hoe; omega
      · rw [if_neg w2] at hoe; omega
theorem kInz_ok {z : kZ} (h : kZo z) {j w : Nat} {nm : Int64} (hn : z.n ≠ 60) (hj : j ≤ z.n) (hl : kIlv z j w ≤ 6) (hw : ∃ v, nm = kNW v ∧ kWd v) : kIpl z j w ≤ z.n ∧ kZo (kInz z j w nm) := by
  have h60 := h.n60
  have hov := kZo_ov h
  have hq : kIpl z j w ≤ z.n ∧ 1 ≤ kIlv z j w ∧ (kIpl z j w = 0 → kIlv z j w = 1) ∧ (0 < kIpl z j w → kIlv z j w ≤ kV z.R (kIpl z j w - 1) + 1) ∧ (kIpl z j w < z.n → kV z.R (kIpl z j w) ≤ kIlv z j w + 1) := by
    unfold kIpl kIlv
    by_cases e : j = 0
    · rw [if_pos e, if_pos e]; exact ⟨Nat.le_refl _, Nat.le_refl _, fun _ => rfl, fun _ => by omega, fun z => absurd z (Nat.lt_irrefl _)⟩
    · rw [if_neg e, if_neg e]
      obtain ⟨a1, a2, a3, a4⟩ := kTo_s h (t := j - 1) (w := w) (by omega)
      have b := (hov.2.2 (j - 1) (by omega)).1
      have c : kV z.R (j - 1) ≤ kNl z (j - 1) w := by unfold kNl; split <;> omega
      exact ⟨a3, by omega, a4, a1, a2⟩
  have hin := kOv_in (m := 1) (q := kIpl z j w) (l := kIlv z j w) (B := fun _ => kIlv z j w) hov hq.1 (by omega) rfl (fun i hi => by omega) (fun i hi => ⟨Nat.le_refl _, hl⟩) hq.2.1 hq.2.2.1 hq.2.2.2.1 hq.2.2.2.2
  refine ⟨hq.1, ?_⟩
  unfold kInz
  generalize kIpl z j w = q at hin hq ⊢
  generalize kIlv z j w = l at hin hq ⊢
  refine kZo_mk h (by omega) (fun i hi => ?_) hin (fun i hi => ?_) fun i hi => ?_
  · show (if i < q then z.R i else if i = q then (nm, nI l, 0, 0) else z.R (i - 1)).2.1 = nI (if i < q then kV z.R i else if i < q + 1 then l else kV z.R (i - 1))
    by_cases e : i < q
    · rw [if_pos e, if_pos e]; exact (h.lv i (by omega)).1
    · rw [if_neg e, if_neg e]
      by_cases e2 : i = q
      · rw [if_pos e2, if_pos (by omega)]
      · rw [if_neg e2, if_neg (by omega)]; exact (h.lv _ (by omega)).1
  · show ∃ v, (if i < q then z.R i else if i = q then (nm, nI l, 0, 0) else z.R (i - 1)).1 = kNW v ∧ kWd v
    by_cases e : i < q
    · rw [if_pos e]; exact h.wd i (by omega)
    · rw [if_neg e]
      by_cases e2 : i = q
      · rw [if_pos e2]; exact hw
      · rw [if_neg e2]; exact h.wd _ (by omega)
  · show k01 (if i < q then z.R i else if i = q then (nm, nI l, 0, 0) else z.R (i - 1)).2.2.1 ∧ k01 (if i < q then z.R i else if i = q then (nm, nI l, 0, 0) else z.R (i - 1)).2.2.2
    by_cases e : i < q
    · rw [if_pos e]; exact h.fl i (by omega)
    · rw [if_neg e]
      by_cases e2 : i = q
      · rw [if_pos e2]; exact ⟨Or.inl rfl, Or.inl rfl⟩
      · rw [if_neg e2]; exact h.fl _ (by omega)
theorem kE_all {L : Nat → Int32} {lv : Int32} : ∀ m i, (∀ j, i ≤ j → j < i + m → lv < L j) → kE L lv i m = i + m
  | 0, i, _ => rfl
  | m + 1, i, h => by rw [kE, if_pos (h i (Nat.le_refl _) (by omega)), kE_all m (i + 1) fun j z1 z2 => h j (by omega) (by omega)]; omega
theorem kIpl_e {z : kZ} (h : kZo z) {j w : Nat} (hj : j ≤ z.n) (h3 : j = 0 → w = 3) : kPB (kL z.R) z.n j w = kIpl z j w ∧ kLB (kL z.R) j w = nI (kIlv z j w) := by
  cases j with
  | zero =>
    obtain rfl := h3 rfl
    refine ⟨?_, ?_⟩
    · show kE (kL z.R) 0 0 (z.n - 0) = z.n
      rw [kE_all, Nat.zero_add, Nat.sub_zero]
      intro j z1 z2
      obtain ⟨e1, e2, e3⟩ := h.lv j (by omega)
      rw [e1]
      exact (nI_ltI (a := 0) (by omega) (by omega)).mpr (by omega)
    · rfl
  | succ t =>
    refine ⟨rfl, ?_⟩
    rw [kLB_nl h (show t < z.n by omega)]; rfl
theorem kz_ne1 {q : Nat} (hq : 0 < q ∧ q < 100000) : (nI q - 1 = -1) = False := eq_false fun z => by
  obtain ⟨t, rfl⟩ : ∃ t, q = t + 1 := ⟨q - 1, by omega⟩
  rw [nI_pred] at z
  have := nI_pos (n := t) (by omega)
  rw [z] at this; exact this (by decide)
section KXA
variable {adK a : Nat → Nat} {f : ky_H} {s : kSt} {Q : ky_Q} {x y v : Int32} {p t w i e l j k b : Nat} {nm : Int64}
theorem kx140 (h : kK a f s) (hb : b ≤ 8) (hy : kIsN s.bl s.bc b → Q (.inl (some (.long (kNW (kTl s.bc 0 b))))) f) (hz : ¬ kIsN s.bl s.bc b → Q (.inl (some (.long 0))) f) : ky_cl adK 140 [.ref (a 0), .int (nI b)] f Q := by
  obtain ⟨kh0, kh1, kh2, kh23, kh30, kh40, kh42, ⟨_, kh37⟩, ⟨_, kh44⟩, ⟨_, kh46⟩, kh47, ⟨_, kh48⟩, ⟨_, kh12⟩, kh53⟩ := kK_hd h
  have hB := h.2.1.bu
  obtain ⟨B0, g0, g1, g2, g3, g4⟩ := id hB
  have e0 : (0 : Int64) = kNW [] := kNW_0.symm
  have loop : ∀ m t v5, t + m = b → t ≤ s.bl → (∀ i, i < t → klt (s.bc i)) → ky_ok adK 140 5 [some (.ref (a 0)), some (.int (nI b)), some (.long (kNW (kTl s.bc 0 t))), none, some (.int (nI t)), v5] [] f 0 0 Q := by
    intro m
    induction m with
    | zero =>
      intro t v5 ht htl hall
      obtain rfl : t = b := by omega
      repeat' (first | (refine ky_ok_stp rfl ?_; simp (disch := first | omega | assumption) only [ky_stp, ky_inv, ky_ldi, ky_ldl, ky_ldd, ky_lda, ky_cl2, ky_st1, ky_st2, ky_s1i, ky_s2i, ky_s1l, ky_s2l, ky_sli, ky_s1f, ky_s2f, ky_s1d, ky_s2d, ky_sr, ky_sai, ky_sasi, ky_sasl, ky_sasr, ky_svr, ky_sv, ky_sv2, ky_s1, ky_cs, ky_pop, ky_nth, ky_snt, ky_obj, ky_ari, ky_arl, ky_arr, ky_arn, ky_fv, ky_rcv, List.map_cons, List.map_nil, List.drop_succ_cons, List.drop_zero, Value.category, Nat.reduceAdd, Nat.reduceSub, true_and, and_true, true_or, or_true, reduceCtorEq, ite_true, ite_false, eq_self, Nat.reduceEqDiff, Nat.reduceLeDiff, nI_add, nI_1, nI_leI, nI_ltI, nI_eq, nI_clamp, kz_m1, kz_mn, kz_mn2, kz_n0, kz_0n, kz_0, kz_le0, kz_0lt, false_implies, true_implies, not_false_eq_true, not_true_eq_false, Nat.zero_le, kb_0, kz_10, kz_of, ky_sw, kz_mx, kz_mi]) | (refine ⟨vp_in_nI (by omega) (by omega), ?_⟩) | (refine ⟨fun zc => ?_, fun zc => ?_⟩ <;> try (exfalso; omega)) | fail)
      exact hy ⟨htl, hall⟩
    | succ m ih =>
      intro t v5 ht htl hall
      (refine ky_ok_stp rfl ?_; simp (disch := first | omega | assumption) only [ky_stp, ky_inv, ky_ldi, ky_ldl, ky_ldd, ky_lda, ky_cl2, ky_st1, ky_st2, ky_s1i, ky_s2i, ky_s1l, ky_s2l, ky_sli, ky_s1f, ky_s2f, ky_s1d, ky_s2d, ky_sr, ky_sai, ky_sasi, ky_sasl, ky_sasr, ky_svr, ky_sv, ky_sv2, ky_s1, ky_cs, ky_pop, ky_nth, ky_snt, ky_obj, ky_ari, ky_arl, ky_arr, ky_arn, ky_fv, ky_rcv, List.map_cons, List.map_nil, List.drop_succ_cons, List.drop_zero, Value.category, Nat.reduceAdd, Nat.reduceSub, true_and, and_true, true_or, or_true, reduceCtorEq, ite_true, ite_false, eq_self, Nat.reduceEqDiff, Nat.reduceLeDiff, nI_add, nI_1, nI_leI, nI_ltI, nI_eq, nI_clamp, kz_m1, kz_mn, kz_mn2, kz_n0, kz_0n, kz_0, kz_le0, kz_0lt, false_implies, true_implies, not_false_eq_true, not_true_eq_false, Nat.zero_le, kb_0, kz_10, kz_of, ky_sw, kz_mx, kz_mi])
      by_cases hlt : t < s.bl
      · have h4 := g4 t hlt
        by_cases hl : klt (s.bc t)
        · have es := kTl_s s.bc 0 t
          rw [Nat.zero_add] at es
          repeat' (first | (refine kx3 hB (by decide) hlt ?_; simp only [ky_aft, ky_vl, Nat.reduceAdd]) | (refine kx137 (show s.bc t < 100000 by omega) ?_; simp only [ky_aft, ky_vl, Nat.reduceAdd]) | ((refine kx134l (kTl_len s.bc 0 t) h4 (by omega) ?_; rw [← es]; simp only [ky_aft, ky_vl, Nat.reduceAdd])) | (refine ih (t + 1) _ (by omega) (by omega) fun i hi => ?_) | (refine ky_ok_stp rfl ?_; simp (disch := first | omega | assumption) only [ky_stp, ky_inv, ky_ldi, ky_ldl, ky_ldd, ky_lda, ky_cl2, ky_st1, ky_st2, ky_s1i, ky_s2i, ky_s1l, ky_s2l, ky_sli, ky_s1f, ky_s2f, ky_s1d, ky_s2d, ky_sr, ky_sai, ky_sasi, ky_sasl, ky_sasr, ky_svr, ky_sv, ky_sv2, ky_s1, ky_cs, ky_pop, ky_nth, ky_snt, ky_obj, ky_ari, ky_arl, ky_arr, ky_arn, ky_fv, ky_rcv, List.map_cons, List.map_nil, List.drop_succ_cons, List.drop_zero, Value.category, Nat.reduceAdd, Nat.reduceSub, true_and, and_true, true_or, or_true, reduceCtorEq, ite_true, ite_false, eq_self, Nat.reduceEqDiff, Nat.reduceLeDiff, nI_add, nI_1, nI_leI, nI_ltI, nI_eq, nI_clamp, kz_m1, kz_mn, kz_mn2, kz_n0, kz_0n, kz_0, kz_le0, kz_0lt, false_implies, true_implies, not_false_eq_true, not_true_eq_false, Nat.zero_le, kb_0, kz_10, kz_of, ky_sw, kz_mx, kz_mi, kh0, kh1, kh2, kh23, kh30, kh40, kh42, kh37, kh44, kh46, kh47, kh48, kh12, kh53, if_pos hl, kz_10]) | (refine ⟨vp_in_nI (by omega) (by omega), ?_⟩) | (refine ⟨fun zc => ?_, fun zc => ?_⟩ <;> try (exfalso; omega)) | fail)
          by_cases e : i = t
          · subst e; exact hl
          · exact hall i (by omega)
        · repeat' (first | (refine kx3 hB (by decide) hlt ?_; simp only [ky_aft, ky_vl, Nat.reduceAdd]) | (refine kx137 (show s.bc t < 100000 by omega) ?_; simp only [ky_aft, ky_vl, Nat.reduceAdd]) | (refine ky_ok_stp rfl ?_; simp (disch := first | omega | assumption) only [ky_stp, ky_inv, ky_ldi, ky_ldl, ky_ldd, ky_lda, ky_cl2, ky_st1, ky_st2, ky_s1i, ky_s2i, ky_s1l, ky_s2l, ky_sli, ky_s1f, ky_s2f, ky_s1d, ky_s2d, ky_sr, ky_sai, ky_sasi, ky_sasl, ky_sasr, ky_svr, ky_sv, ky_sv2, ky_s1, ky_cs, ky_pop, ky_nth, ky_snt, ky_obj, ky_ari, ky_arl, ky_arr, ky_arn, ky_fv, ky_rcv, List.map_cons, List.map_nil, List.drop_succ_cons, List.drop_zero, Value.category, Nat.reduceAdd, Nat.reduceSub, true_and, and_true, true_or, or_true, reduceCtorEq, ite_true, ite_false, eq_self, Nat.reduceEqDiff, Nat.reduceLeDiff, nI_add, nI_1, nI_leI, nI_ltI, nI_eq, nI_clamp, kz_m1, kz_mn, kz_mn2, kz_n0, kz_0n, kz_0, kz_le0, kz_0lt, false_implies, true_implies, not_false_eq_true, not_true_eq_false, Nat.zero_le, kb_0, kz_10, kz_of, ky_sw, kz_mx, kz_mi, kh0, kh1, kh2, kh23, kh30, kh40, kh42, kh37, kh44, kh46, kh47, kh48, kh12, kh53, if_neg hl]) | (refine ⟨vp_in_nI (by omega) (by omega), ?_⟩) | (refine ⟨fun zc => ?_, fun zc => ?_⟩ <;> try (exfalso; omega)) | fail)
          exact hz fun z => hl (z.2 t (by omega))
      · repeat' (first | (refine kx3e hB (by decide) (show s.bl ≤ t by omega) (by omega) ?_; simp only [ky_aft, ky_vl, Nat.reduceAdd]) | (refine kx137m ?_; simp only [ky_aft, ky_vl, Nat.reduceAdd]) | (refine ky_ok_stp rfl ?_; simp (disch := first | omega | assumption) only [ky_stp, ky_inv, ky_ldi, ky_ldl, ky_ldd, ky_lda, ky_cl2, ky_st1, ky_st2, ky_s1i, ky_s2i, ky_s1l, ky_s2l, ky_sli, ky_s1f, ky_s2f, ky_s1d, ky_s2d, ky_sr, ky_sai, ky_sasi, ky_sasl, ky_sasr, ky_svr, ky_sv, ky_sv2, ky_s1, ky_cs, ky_pop, ky_nth, ky_snt, ky_obj, ky_ari, ky_arl, ky_arr, ky_arn, ky_fv, ky_rcv, List.map_cons, List.map_nil, List.drop_succ_cons, List.drop_zero, Value.category, Nat.reduceAdd, Nat.reduceSub, true_and, and_true, true_or, or_true, reduceCtorEq, ite_true, ite_false, eq_self, Nat.reduceEqDiff, Nat.reduceLeDiff, nI_add, nI_1, nI_leI, nI_ltI, nI_eq, nI_clamp, kz_m1, kz_mn, kz_mn2, kz_n0, kz_0n, kz_0, kz_le0, kz_0lt, false_implies, true_implies, not_false_eq_true, not_true_eq_false, Nat.zero_le, kb_0, kz_10, kz_of, ky_sw, kz_mx, kz_mi, kh0, kh1, kh2, kh23, kh30, kh40, kh42, kh37, kh44, kh46, kh47, kh48, kh12, kh53]) | (refine ⟨vp_in_nI (by omega) (by omega), ?_⟩) | (refine ⟨fun zc => ?_, fun zc => ?_⟩ <;> try (exfalso; omega)) | fail)
        exact hz fun z => by have := z.1; omega
  refine ⟨Nat.le_of_ble_eq_true rfl, fun z => absurd z (by decide), ?_⟩; show ky_ok adK 140 0 [some (.ref (a 0)), some (.int (nI b)), none, none, none, none] [] f 0 0 _
  repeat' (first | (exact loop b 0 none (Nat.zero_add _) (Nat.zero_le _) fun i hi => absurd hi (Nat.not_lt_zero i)) | (refine ky_ok_stp rfl ?_; simp (disch := first | omega | assumption) only [ky_stp, ky_inv, ky_ldi, ky_ldl, ky_ldd, ky_lda, ky_cl2, ky_st1, ky_st2, ky_s1i, ky_s2i, ky_s1l, ky_s2l, ky_sli, ky_s1f, ky_s2f, ky_s1d, ky_s2d, ky_sr, ky_sai, ky_sasi, ky_sasl, ky_sasr, ky_svr, ky_sv, ky_sv2, ky_s1, ky_cs, ky_pop, ky_nth, ky_snt, ky_obj, ky_ari, ky_arl, ky_arr, ky_arn, ky_fv, ky_rcv, List.map_cons, List.map_nil, List.drop_succ_cons, List.drop_zero, Value.category, Nat.reduceAdd, Nat.reduceSub, true_and, and_true, true_or, or_true, reduceCtorEq, ite_true, ite_false, eq_self, Nat.reduceEqDiff, Nat.reduceLeDiff, nI_add, nI_1, nI_leI, nI_ltI, nI_eq, nI_clamp, kz_m1, kz_mn, kz_mn2, kz_n0, kz_0n, kz_0, kz_le0, kz_0lt, false_implies, true_implies, not_false_eq_true, not_true_eq_false, Nat.zero_le, kb_0, kz_10, kz_of, ky_sw, kz_mx, kz_mi, e0]) | (refine ⟨vp_in_nI (by omega) (by omega), ?_⟩) | (refine ⟨fun zc => ?_, fun zc => ?_⟩ <;> try (exfalso; omega)) | fail)
theorem kx157 (h : kK a f s) (hj : j ≤ s.o.n) (hx : x = nI j - 1) (hw : w ≤ 3) (h3 : j = 0 → w = 3) (hnm : ∃ v, nm = kNW v ∧ kWd v) (hQ : ∀ a' f' s', kSe (kTi' s j w nm).2 s' → kK a' f' s' → kAl a f a' f' kL7 → Q (.inl (some (.int (kTi' s j w nm).1))) f') : ky_cl adK 157 [.ref (a 0), .int x, .int (nI w), .long nm] f Q := by
  obtain ⟨kh0, kh1, kh2, kh23, kh30, kh40, kh42, ⟨_, kh37⟩, ⟨_, kh44⟩, ⟨_, kh46⟩, kh47, ⟨_, kh48⟩, ⟨_, kh12⟩, kh53⟩ := kK_hd h
  have ho := h.2.2.2.o
  have hn := ho.n60
  obtain ⟨G, hW⟩ := h.2.1.z.1
  obtain ⟨c1, c2⟩ := kIpl_e (w := w) ho hj h3
  have hlv : kIlv s.o j w ≤ 7 := by
    unfold kIlv
    by_cases e : j = 0
    · rw [if_pos e]; omega
    · rw [if_neg e]
      have := (ho.lv (j - 1) (by omega)).2.2
      unfold kNl; split <;> omega
  unfold kTi' at hQ
  refine ⟨Nat.le_of_ble_eq_true rfl, fun z => absurd z (by decide), ?_⟩; show ky_ok adK 157 0 [some (.ref (a 0)), some (.int x), some (.int (nI w)), some (.long nm), none, none, none, none] [] f 0 0 _
  by_cases h0 : s.o.n = 60
  case pos =>
    rw [if_pos h0] at hQ
    repeat' (first | ((refine kx155 h (k := 3) (by omega) (by omega) ?_)) | (refine ky_ok_stp rfl ?_; simp (disch := first | omega | assumption) only [ky_stp, ky_inv, ky_ldi, ky_ldl, ky_ldd, ky_lda, ky_cl2, ky_st1, ky_st2, ky_s1i, ky_s2i, ky_s1l, ky_s2l, ky_sli, ky_s1f, ky_s2f, ky_s1d, ky_s2d, ky_sr, ky_sai, ky_sasi, ky_sasl, ky_sasr, ky_svr, ky_sv, ky_sv2, ky_s1, ky_cs, ky_pop, ky_nth, ky_snt, ky_obj, ky_ari, ky_arl, ky_arr, ky_arn, ky_fv, ky_rcv, List.map_cons, List.map_nil, List.drop_succ_cons, List.drop_zero, Value.category, Nat.reduceAdd, Nat.reduceSub, true_and, and_true, true_or, or_true, reduceCtorEq, ite_true, ite_false, eq_self, Nat.reduceEqDiff, Nat.reduceLeDiff, nI_add, nI_1, nI_leI, nI_ltI, nI_eq, nI_clamp, kz_m1, kz_mn, kz_mn2, kz_n0, kz_0n, kz_0, kz_le0, kz_0lt, false_implies, true_implies, not_false_eq_true, not_true_eq_false, Nat.zero_le, kb_0, kz_10, kz_of, ky_sw, kz_mx, kz_mi, kh0, kh1, kh2, kh23, kh30, kh40, kh42, kh37, kh44, kh46, kh47, kh48, kh12, kh53, h0, kz_60, kz_3x]) | (refine ⟨vp_in_nI (by omega) (by omega), ?_⟩) | (rw [if_neg (by decide)]; refine ⟨by decide, by decide, ?_⟩) | (refine ⟨by decide, by decide, ?_⟩) | (refine ⟨fun zc => ?_, fun zc => ?_⟩ <;> try (exfalso; omega)) | fail)
    intro f1 h1 hF1
    simp only [ky_aft, ky_vl, Nat.reduceAdd]
    repeat' (first | (refine ky_ok_stp rfl ?_; simp (disch := first | omega | assumption) only [ky_stp, ky_inv, ky_ldi, ky_ldl, ky_ldd, ky_lda, ky_cl2, ky_st1, ky_st2, ky_s1i, ky_s2i, ky_s1l, ky_s2l, ky_sli, ky_s1f, ky_s2f, ky_s1d, ky_s2d, ky_sr, ky_sai, ky_sasi, ky_sasl, ky_sasr, ky_svr, ky_sv, ky_sv2, ky_s1, ky_cs, ky_pop, ky_nth, ky_snt, ky_obj, ky_ari, ky_arl, ky_arr, ky_arn, ky_fv, ky_rcv, List.map_cons, List.map_nil, List.drop_succ_cons, List.drop_zero, Value.category, Nat.reduceAdd, Nat.reduceSub, true_and, and_true, true_or, or_true, reduceCtorEq, ite_true, ite_false, eq_self, Nat.reduceEqDiff, Nat.reduceLeDiff, nI_add, nI_1, nI_leI, nI_ltI, nI_eq, nI_clamp, kz_m1, kz_mn, kz_mn2, kz_n0, kz_0n, kz_0, kz_le0, kz_0lt, false_implies, true_implies, not_false_eq_true, not_true_eq_false, Nat.zero_le, kb_0, kz_10, kz_of, ky_sw, kz_mx, kz_mi]) | (refine ⟨vp_in_nI (by omega) (by omega), ?_⟩) | (refine ⟨fun zc => ?_, fun zc => ?_⟩ <;> try (exfalso; omega)) | fail)
    exact hQ a f1 (kRef s 3) (kSe_rf _) h1 (kRef_al h.1 hF1)
  rw [if_neg h0] at hQ
  by_cases h6 : 6 < kIlv s.o j w
  case pos =>
    rw [if_pos h6] at hQ
    repeat' (first | ((refine kx41 hW.1 hn hj hx hw h3 ?_; rw [c1]; simp only [ky_aft, ky_vl, Nat.reduceAdd])) | ((refine kx42 hW.1 hn hj hx hw ?_; rw [c2]; simp only [ky_aft, ky_vl, Nat.reduceAdd])) | ((refine kx155 h (k := 1) (by omega) (by omega) ?_)) | (refine ky_ok_stp rfl ?_; simp (disch := first | omega | assumption) only [ky_stp, ky_inv, ky_ldi, ky_ldl, ky_ldd, ky_lda, ky_cl2, ky_st1, ky_st2, ky_s1i, ky_s2i, ky_s1l, ky_s2l, ky_sli, ky_s1f, ky_s2f, ky_s1d, ky_s2d, ky_sr, ky_sai, ky_sasi, ky_sasl, ky_sasr, ky_svr, ky_sv, ky_sv2, ky_s1, ky_cs, ky_pop, ky_nth, ky_snt, ky_obj, ky_ari, ky_arl, ky_arr, ky_arn, ky_fv, ky_rcv, List.map_cons, List.map_nil, List.drop_succ_cons, List.drop_zero, Value.category, Nat.reduceAdd, Nat.reduceSub, true_and, and_true, true_or, or_true, reduceCtorEq, ite_true, ite_false, eq_self, Nat.reduceEqDiff, Nat.reduceLeDiff, nI_add, nI_1, nI_leI, nI_ltI, nI_eq, nI_clamp, kz_m1, kz_mn, kz_mn2, kz_n0, kz_0n, kz_0, kz_le0, kz_0lt, false_implies, true_implies, not_false_eq_true, not_true_eq_false, Nat.zero_le, kb_0, kz_10, kz_of, ky_sw, kz_mx, kz_mi, kh0, kh1, kh2, kh23, kh30, kh40, kh42, kh37, kh44, kh46, kh47, kh48, kh12, kh53, kz_60, kz_6, kz_1]) | (refine ⟨vp_in_nI (by omega) (by omega), ?_⟩) | (rw [if_neg (by decide)]; refine ⟨by decide, by decide, ?_⟩) | (refine ⟨by decide, by decide, ?_⟩) | (refine ⟨fun zc => ?_, fun zc => ?_⟩ <;> try (exfalso; omega)) | fail)
    intro f1 h1 hF1
    simp only [ky_aft, ky_vl, Nat.reduceAdd]
    repeat' (first | (refine ky_ok_stp rfl ?_; simp (disch := first | omega | assumption) only [ky_stp, ky_inv, ky_ldi, ky_ldl, ky_ldd, ky_lda, ky_cl2, ky_st1, ky_st2, ky_s1i, ky_s2i, ky_s1l, ky_s2l, ky_sli, ky_s1f, ky_s2f, ky_s1d, ky_s2d, ky_sr, ky_sai, ky_sasi, ky_sasl, ky_sasr, ky_svr, ky_sv, ky_sv2, ky_s1, ky_cs, ky_pop, ky_nth, ky_snt, ky_obj, ky_ari, ky_arl, ky_arr, ky_arn, ky_fv, ky_rcv, List.map_cons, List.map_nil, List.drop_succ_cons, List.drop_zero, Value.category, Nat.reduceAdd, Nat.reduceSub, true_and, and_true, true_or, or_true, reduceCtorEq, ite_true, ite_false, eq_self, Nat.reduceEqDiff, Nat.reduceLeDiff, nI_add, nI_1, nI_leI, nI_ltI, nI_eq, nI_clamp, kz_m1, kz_mn, kz_mn2, kz_n0, kz_0n, kz_0, kz_le0, kz_0lt, false_implies, true_implies, not_false_eq_true, not_true_eq_false, Nat.zero_le, kb_0, kz_10, kz_of, ky_sw, kz_mx, kz_mi]) | (refine ⟨vp_in_nI (by omega) (by omega), ?_⟩) | (refine ⟨fun zc => ?_, fun zc => ?_⟩ <;> try (exfalso; omega)) | fail)
    exact hQ a f1 (kRef s 1) (kSe_rf _) h1 (kRef_al h.1 hF1)
  rw [if_neg h6] at hQ
  obtain ⟨hpl, hok⟩ := kInz_ok (w := w) (nm := nm) ho h0 hj (by omega) hnm
  repeat' (first | ((refine kx41 hW.1 hn hj hx hw h3 ?_; rw [c1]; simp only [ky_aft, ky_vl, Nat.reduceAdd])) | ((refine kx42 hW.1 hn hj hx hw ?_; rw [c2]; simp only [ky_aft, ky_vl, Nat.reduceAdd])) | (refine kx156 h ?_) | (refine ky_ok_stp rfl ?_; simp (disch := first | omega | assumption) only [ky_stp, ky_inv, ky_ldi, ky_ldl, ky_ldd, ky_lda, ky_cl2, ky_st1, ky_st2, ky_s1i, ky_s2i, ky_s1l, ky_s2l, ky_sli, ky_s1f, ky_s2f, ky_s1d, ky_s2d, ky_sr, ky_sai, ky_sasi, ky_sasl, ky_sasr, ky_svr, ky_sv, ky_sv2, ky_s1, ky_cs, ky_pop, ky_nth, ky_snt, ky_obj, ky_ari, ky_arl, ky_arr, ky_arn, ky_fv, ky_rcv, List.map_cons, List.map_nil, List.drop_succ_cons, List.drop_zero, Value.category, Nat.reduceAdd, Nat.reduceSub, true_and, and_true, true_or, or_true, reduceCtorEq, ite_true, ite_false, eq_self, Nat.reduceEqDiff, Nat.reduceLeDiff, nI_add, nI_1, nI_leI, nI_ltI, nI_eq, nI_clamp, kz_m1, kz_mn, kz_mn2, kz_n0, kz_0n, kz_0, kz_le0, kz_0lt, false_implies, true_implies, not_false_eq_true, not_true_eq_false, Nat.zero_le, kb_0, kz_10, kz_of, ky_sw, kz_mx, kz_mi, kh0, kh1, kh2, kh23, kh30, kh40, kh42, kh37, kh44, kh46, kh47, kh48, kh12, kh53, kz_60, kz_6]) | (refine ⟨vp_in_nI (by omega) (by omega), ?_⟩) | (rw [if_neg (by decide)]; refine ⟨by decide, by decide, ?_⟩) | (refine ⟨by decide, by decide, ?_⟩) | (refine ⟨fun zc => ?_, fun zc => ?_⟩ <;> try (exfalso; omega)) | fail)
  intro a' f1 z' B hA hB1 hB2 he hzB h1
  simp only [ky_aft, ky_vl, Nat.reduceAdd]
  have e0 : a' 0 = a 0 := hA.2.2
  rw [← e0]
  obtain ⟨kh0, kh1, kh2, kh23, kh30, kh40, kh42, ⟨_, kh37⟩, ⟨_, kh44⟩, ⟨_, kh46⟩, kh47, ⟨_, kh48⟩, ⟨_, kh12⟩, kh53⟩ := kK_hd h1
  obtain ⟨G1, hW1⟩ := h1.2.1.z.1
  obtain ⟨⟨GB, hWB⟩, hSB⟩ := hzB
  have hzn : z'.n = s.o.n := he.1
  have yB := kW_lv hWB
  repeat' (first | (refine kx50 (k := 1) (k2 := B) (s := 0) h1.1 (by omega) hW1 hWB (by omega) (Nat.zero_le _) (by omega) ?_) | (refine ky_ok_stp rfl ?_; simp (disch := first | omega | assumption) only [ky_stp, ky_inv, ky_ldi, ky_ldl, ky_ldd, ky_lda, ky_cl2, ky_st1, ky_st2, ky_s1i, ky_s2i, ky_s1l, ky_s2l, ky_sli, ky_s1f, ky_s2f, ky_s1d, ky_s2d, ky_sr, ky_sai, ky_sasi, ky_sasl, ky_sasr, ky_svr, ky_sv, ky_sv2, ky_s1, ky_cs, ky_pop, ky_nth, ky_snt, ky_obj, ky_ari, ky_arl, ky_arr, ky_arn, ky_fv, ky_rcv, List.map_cons, List.map_nil, List.drop_succ_cons, List.drop_zero, Value.category, Nat.reduceAdd, Nat.reduceSub, true_and, and_true, true_or, or_true, reduceCtorEq, ite_true, ite_false, eq_self, Nat.reduceEqDiff, Nat.reduceLeDiff, nI_add, nI_1, nI_leI, nI_ltI, nI_eq, nI_clamp, kz_m1, kz_mn, kz_mn2, kz_n0, kz_0n, kz_0, kz_le0, kz_0lt, false_implies, true_implies, not_false_eq_true, not_true_eq_false, Nat.zero_le, kb_0, kz_10, kz_of, ky_sw, kz_mx, kz_mi, kh0, kh1, kh2, kh23, kh30, kh40, kh42, kh37, kh44, kh46, kh47, kh48, kh12, kh53, yB]) | (refine ⟨vp_in_nI (by omega) (by omega), ?_⟩) | (rw [if_neg (by decide)]; refine ⟨by decide, by decide, ?_⟩) | (refine ⟨by decide, by decide, ?_⟩) | (refine ⟨fun zc => ?_, fun zc => ?_⟩ <;> try (exfalso; omega)) | fail)
  intro f2 R2 G2 hW2 hF2 hR2
  simp only [ky_aft, ky_vl, Nat.reduceAdd]
  rw [Nat.sub_zero] at hW2
  have kh2' : f2 (a' 0) = _ := (hF2 0 (by unfold kRB; omega)).trans kh0
  have y1 := kW_lv hW2
  repeat' (first | (refine kx48 (k := 1) h1.1 hW2 (by omega) ?_) | (refine ky_ok_stp rfl ?_; simp (disch := first | omega | assumption) only [ky_stp, ky_inv, ky_ldi, ky_ldl, ky_ldd, ky_lda, ky_cl2, ky_st1, ky_st2, ky_s1i, ky_s2i, ky_s1l, ky_s2l, ky_sli, ky_s1f, ky_s2f, ky_s1d, ky_s2d, ky_sr, ky_sai, ky_sasi, ky_sasl, ky_sasr, ky_svr, ky_sv, ky_sv2, ky_s1, ky_cs, ky_pop, ky_nth, ky_snt, ky_obj, ky_ari, ky_arl, ky_arr, ky_arn, ky_fv, ky_rcv, List.map_cons, List.map_nil, List.drop_succ_cons, List.drop_zero, Value.category, Nat.reduceAdd, Nat.reduceSub, true_and, and_true, true_or, or_true, reduceCtorEq, ite_true, ite_false, eq_self, Nat.reduceEqDiff, Nat.reduceLeDiff, nI_add, nI_1, nI_leI, nI_ltI, nI_eq, nI_clamp, kz_m1, kz_mn, kz_mn2, kz_n0, kz_0n, kz_0, kz_le0, kz_0lt, false_implies, true_implies, not_false_eq_true, not_true_eq_false, Nat.zero_le, kb_0, kz_10, kz_of, ky_sw, kz_mx, kz_mi, kh2', y1]) | (refine ⟨vp_in_nI (by omega) (by omega), ?_⟩) | (rw [if_neg (by decide)]; refine ⟨by decide, by decide, ?_⟩) | (refine ⟨by decide, by decide, ?_⟩) | (refine ⟨fun zc => ?_, fun zc => ?_⟩ <;> try (exfalso; omega)) | fail)
  intro f3 hW3 hF3
  simp only [ky_aft, ky_vl, Nat.reduceAdd]
  have hWB2 : kW a' B f3 z'.n z'.R GB := kW_fr hWB fun j z1 z2 => (hF3 j (by unfold kRB; omega)).trans (hF2 j (by unfold kRB; omega))
  have kh3' : f3 (a' 0) = _ := (hF3 0 (by unfold kRB; omega)).trans kh2'
  have y3 := kW_lv hW3
  have yB2 := kW_lv hWB2
  repeat' (first | (refine kx49 (k := 1) (k2 := B) h1.1 (by omega) hW3 hWB2 (by omega) (show kIpl s.o j w ≤ z'.n by omega) (Nat.le_refl _) (by omega) ?_) | (refine ky_ok_stp rfl ?_; simp (disch := first | omega | assumption) only [ky_stp, ky_inv, ky_ldi, ky_ldl, ky_ldd, ky_lda, ky_cl2, ky_st1, ky_st2, ky_s1i, ky_s2i, ky_s1l, ky_s2l, ky_sli, ky_s1f, ky_s2f, ky_s1d, ky_s2d, ky_sr, ky_sai, ky_sasi, ky_sasl, ky_sasr, ky_svr, ky_sv, ky_sv2, ky_s1, ky_cs, ky_pop, ky_nth, ky_snt, ky_obj, ky_ari, ky_arl, ky_arr, ky_arn, ky_fv, ky_rcv, List.map_cons, List.map_nil, List.drop_succ_cons, List.drop_zero, Value.category, Nat.reduceAdd, Nat.reduceSub, true_and, and_true, true_or, or_true, reduceCtorEq, ite_true, ite_false, eq_self, Nat.reduceEqDiff, Nat.reduceLeDiff, nI_add, nI_1, nI_leI, nI_ltI, nI_eq, nI_clamp, kz_m1, kz_mn, kz_mn2, kz_n0, kz_0n, kz_0, kz_le0, kz_0lt, false_implies, true_implies, not_false_eq_true, not_true_eq_false, Nat.zero_le, kb_0, kz_10, kz_of, ky_sw, kz_mx, kz_mi, kh3', y3, yB2]) | (refine ⟨vp_in_nI (by omega) (by omega), ?_⟩) | (rw [if_neg (by decide)]; refine ⟨by decide, by decide, ?_⟩) | (refine ⟨by decide, by decide, ?_⟩) | (refine ⟨fun zc => ?_, fun zc => ?_⟩ <;> try (exfalso; omega)) | fail)
  intro f4 R4 G4 hW4 hF4 hR4 hR4'
  simp only [ky_aft, ky_vl, Nat.reduceAdd]
  repeat' (first | (refine ky_ok_stp rfl ?_; simp (disch := first | omega | assumption) only [ky_stp, ky_inv, ky_ldi, ky_ldl, ky_ldd, ky_lda, ky_cl2, ky_st1, ky_st2, ky_s1i, ky_s2i, ky_s1l, ky_s2l, ky_sli, ky_s1f, ky_s2f, ky_s1d, ky_s2d, ky_sr, ky_sai, ky_sasi, ky_sasl, ky_sasr, ky_svr, ky_sv, ky_sv2, ky_s1, ky_cs, ky_pop, ky_nth, ky_snt, ky_obj, ky_ari, ky_arl, ky_arr, ky_arn, ky_fv, ky_rcv, List.map_cons, List.map_nil, List.drop_succ_cons, List.drop_zero, Value.category, Nat.reduceAdd, Nat.reduceSub, true_and, and_true, true_or, or_true, reduceCtorEq, ite_true, ite_false, eq_self, Nat.reduceEqDiff, Nat.reduceLeDiff, nI_add, nI_1, nI_leI, nI_ltI, nI_eq, nI_clamp, kz_m1, kz_mn, kz_mn2, kz_n0, kz_0n, kz_0, kz_le0, kz_0lt, false_implies, true_implies, not_false_eq_true, not_true_eq_false, Nat.zero_le, kb_0, kz_10, kz_of, ky_sw, kz_mx, kz_mi]) | (refine ⟨vp_in_nI (by omega) (by omega), ?_⟩) | (refine ⟨fun zc => ?_, fun zc => ?_⟩ <;> try (exfalso; omega)) | fail)
  have hnn : kIpl s.o j w + 1 + (z'.n - kIpl s.o j w) = s.o.n + 1 := by omega
  rw [hnn] at hW4 hR4'
  have hm : kZe (kInz s.o j w nm) ⟨s.o.n + 1, R4, s.o.S⟩ := by
    refine ⟨rfl, fun i hi => ?_, fun _ _ _ => ⟨rfl, rfl, rfl, rfl⟩⟩
    have hi' : i < s.o.n + 1 := hi
    show R4 i = if i < kIpl s.o j w then s.o.R i else if i = kIpl s.o j w then (nm, nI (kIlv s.o j w), 0, 0) else s.o.R (i - 1)
    by_cases e : i < kIpl s.o j w
    · rw [if_pos e, (hR4 i (by omega)).1, kru_o _ _ (by omega), (hR2 i i (by omega) (by omega)).1]
      exact he.2.1 i (by omega)
    · rw [if_neg e]
      by_cases e2 : i = kIpl s.o j w
      · rw [if_pos e2, (hR4 i (by omega)).1, e2, kru_s]
      · rw [if_neg e2, (hR4' (i - 1) i (by omega) (by omega) (by omega)).1]
        exact he.2.1 _ (by omega)
  obtain ⟨s', q1, q2, q3⟩ := kAct_fin ho h1 hA he (kfr_tr (kfr_tr hF2 hF3 (T := kRB 1) fun j hj => ⟨hj, hj⟩) hF4 (T := kRB 1) fun j hj => ⟨hj, hj⟩) hW4 hm hok
  exact hQ a' f4 s' q1 q2 q3
theorem kx111 (h : kK a f s) (hy : ∀ j w b a' f' s', j ≤ s.o.n → w ≤ 3 → 1 ≤ b → b ≤ 8 → x = nI j - 1 → y = nI w → v = nI b → kIsN s.bl s.bc b → kSe (kTi' (s.setB 0 s.bc) j (if j = 0 then 3 else w) (kNW (kTl s.bc 0 b))).2 s' → kK a' f' s' → kAl a f a' f' kL7 → Q (.inl (some (.int (kTi' (s.setB 0 s.bc) j (if j = 0 then 3 else w) (kNW (kTl s.bc 0 b))).1))) f') (h2 : ¬ (kHas s.o.n x ∨ x = -1) → Q (.inr 2) f) (h1 : (kHas s.o.n x ∨ x = -1) → ¬ (kRg 0 3 y ∧ ∃ b, 1 ≤ b ∧ b ≤ 8 ∧ v = nI b ∧ kIsN s.bl s.bc b) → Q (.inr 1) f) : ky_cl adK 111 [.ref (a 0), .int x, .int y, .int v] f Q := by
  obtain ⟨kh0, kh1, kh2, kh23, kh30, kh40, kh42, ⟨_, kh37⟩, ⟨_, kh44⟩, ⟨_, kh46⟩, kh47, ⟨_, kh48⟩, ⟨_, kh12⟩, kh53⟩ := kK_hd h
  have hn := h.2.2.2.o.n60
  refine ⟨Nat.le_of_ble_eq_true rfl, fun z => absurd z (by decide), ?_⟩; show ky_ok adK 111 0 [some (.ref (a 0)), some (.int x), some (.int y), some (.int v), none, none] [] f 0 0 _
  by_cases hx : kHas s.o.n x ∨ x = -1
  case neg =>
    have hq := h2 hx
    repeat' (first | ((refine kx129 h (fun z => absurd z hx) (fun _ => ?_); exact hq)) | (refine ky_ok_stp rfl ?_; simp (disch := first | omega | assumption) only [ky_stp, ky_inv, ky_ldi, ky_ldl, ky_ldd, ky_lda, ky_cl2, ky_st1, ky_st2, ky_s1i, ky_s2i, ky_s1l, ky_s2l, ky_sli, ky_s1f, ky_s2f, ky_s1d, ky_s2d, ky_sr, ky_sai, ky_sasi, ky_sasl, ky_sasr, ky_svr, ky_sv, ky_sv2, ky_s1, ky_cs, ky_pop, ky_nth, ky_snt, ky_obj, ky_ari, ky_arl, ky_arr, ky_arn, ky_fv, ky_rcv, List.map_cons, List.map_nil, List.drop_succ_cons, List.drop_zero, Value.category, Nat.reduceAdd, Nat.reduceSub, true_and, and_true, true_or, or_true, reduceCtorEq, ite_true, ite_false, eq_self, Nat.reduceEqDiff, Nat.reduceLeDiff, nI_add, nI_1, nI_leI, nI_ltI, nI_eq, nI_clamp, kz_m1, kz_mn, kz_mn2, kz_n0, kz_0n, kz_0, kz_le0, kz_0lt, false_implies, true_implies, not_false_eq_true, not_true_eq_false, Nat.zero_le, kb_0, kz_10, kz_of, ky_sw, kz_mx, kz_mi, kh0, kh1, kh2, kh23, kh30, kh40, kh42, kh37, kh44, kh46, kh47, kh48, kh12, kh53]) | (refine ⟨vp_in_nI (by omega) (by omega), ?_⟩) | (rw [if_neg (by decide)]; refine ⟨by decide, by decide, ?_⟩) | (refine ⟨by decide, by decide, ?_⟩) | (refine ⟨fun zc => ?_, fun zc => ?_⟩ <;> try (exfalso; omega)) | fail)
  have h1 := h1 hx
  by_cases hyy : kRg 0 3 y
  case neg =>
    have hq := h1 fun z => hyy z.1
    repeat' (first | ((refine kx129 h (fun _ => ?_) (fun z => absurd hx z); simp only [ky_aft, ky_vl, Nat.reduceAdd])) | ((refine kx132 (lo := 0) (hi := 3) (by decide) (by decide) (fun z => absurd z hyy) (fun _ => ?_); exact hq)) | (refine ky_ok_stp rfl ?_; simp (disch := first | omega | assumption) only [ky_stp, ky_inv, ky_ldi, ky_ldl, ky_ldd, ky_lda, ky_cl2, ky_st1, ky_st2, ky_s1i, ky_s2i, ky_s1l, ky_s2l, ky_sli, ky_s1f, ky_s2f, ky_s1d, ky_s2d, ky_sr, ky_sai, ky_sasi, ky_sasl, ky_sasr, ky_svr, ky_sv, ky_sv2, ky_s1, ky_cs, ky_pop, ky_nth, ky_snt, ky_obj, ky_ari, ky_arl, ky_arr, ky_arn, ky_fv, ky_rcv, List.map_cons, List.map_nil, List.drop_succ_cons, List.drop_zero, Value.category, Nat.reduceAdd, Nat.reduceSub, true_and, and_true, true_or, or_true, reduceCtorEq, ite_true, ite_false, eq_self, Nat.reduceEqDiff, Nat.reduceLeDiff, nI_add, nI_1, nI_leI, nI_ltI, nI_eq, nI_clamp, kz_m1, kz_mn, kz_mn2, kz_n0, kz_0n, kz_0, kz_le0, kz_0lt, false_implies, true_implies, not_false_eq_true, not_true_eq_false, Nat.zero_le, kb_0, kz_10, kz_of, ky_sw, kz_mx, kz_mi, kh0, kh1, kh2, kh23, kh30, kh40, kh42, kh37, kh44, kh46, kh47, kh48, kh12, kh53]) | (refine ⟨vp_in_nI (by omega) (by omega), ?_⟩) | (rw [if_neg (by decide)]; refine ⟨by decide, by decide, ?_⟩) | (refine ⟨by decide, by decide, ?_⟩) | (refine ⟨fun zc => ?_, fun zc => ?_⟩ <;> try (exfalso; omega)) | fail)
  by_cases hv : kRg 1 8 v
  case neg =>
    have hq := h1 fun z => hv (by obtain ⟨b, b1, b8, e, _⟩ := z.2; exact ⟨b, b1, b8, e⟩)
    repeat' (first | ((refine kx129 h (fun _ => ?_) (fun z => absurd hx z); simp only [ky_aft, ky_vl, Nat.reduceAdd])) | ((refine kx132 (lo := 0) (hi := 3) (by decide) (by decide) (fun _ => ?_) (fun z => absurd hyy z); simp only [ky_aft, ky_vl, Nat.reduceAdd])) | ((refine kx132 (lo := 1) (hi := 8) (by decide) (by decide) (fun z => absurd z hv) (fun _ => ?_); exact hq)) | (refine ky_ok_stp rfl ?_; simp (disch := first | omega | assumption) only [ky_stp, ky_inv, ky_ldi, ky_ldl, ky_ldd, ky_lda, ky_cl2, ky_st1, ky_st2, ky_s1i, ky_s2i, ky_s1l, ky_s2l, ky_sli, ky_s1f, ky_s2f, ky_s1d, ky_s2d, ky_sr, ky_sai, ky_sasi, ky_sasl, ky_sasr, ky_svr, ky_sv, ky_sv2, ky_s1, ky_cs, ky_pop, ky_nth, ky_snt, ky_obj, ky_ari, ky_arl, ky_arr, ky_arn, ky_fv, ky_rcv, List.map_cons, List.map_nil, List.drop_succ_cons, List.drop_zero, Value.category, Nat.reduceAdd, Nat.reduceSub, true_and, and_true, true_or, or_true, reduceCtorEq, ite_true, ite_false, eq_self, Nat.reduceEqDiff, Nat.reduceLeDiff, nI_add, nI_1, nI_leI, nI_ltI, nI_eq, nI_clamp, kz_m1, kz_mn, kz_mn2, kz_n0, kz_0n, kz_0, kz_le0, kz_0lt, false_implies, true_implies, not_false_eq_true, not_true_eq_false, Nat.zero_le, kb_0, kz_10, kz_of, ky_sw, kz_mx, kz_mi, kh0, kh1, kh2, kh23, kh30, kh40, kh42, kh37, kh44, kh46, kh47, kh48, kh12, kh53, kz_1]) | (refine ⟨vp_in_nI (by omega) (by omega), ?_⟩) | (rw [if_neg (by decide)]; refine ⟨by decide, by decide, ?_⟩) | (refine ⟨by decide, by decide, ?_⟩) | (refine ⟨fun zc => ?_, fun zc => ?_⟩ <;> try (exfalso; omega)) | fail)
  have hxj : ∃ j, j ≤ s.o.n ∧ x = nI j - 1 := by
    rcases id hx with ⟨i, hi, e⟩ | e
    · exact ⟨i + 1, hi, by rw [nI_pred]; exact e⟩
    · exact ⟨0, Nat.zero_le _, by rw [kz_z]; exact e⟩
  obtain ⟨j, hj, hxe⟩ := hxj
  obtain ⟨w, _, hw, rfl⟩ := id hyy
  obtain ⟨b, b1, b8, rfl⟩ := id hv
  by_cases hN : kIsN s.bl s.bc b
  case neg =>
    have hq := h1 fun z => by
      obtain ⟨b', c1, c8, e, c⟩ := z.2
      rw [nI_eq (by omega) (by omega)] at e
      exact hN (by rw [e]; exact c)
    have ec : lg_cmp 0 0 = 0 := by decide
    repeat' (first | ((refine kx129 h (fun _ => ?_) (fun z => absurd hx z); simp only [ky_aft, ky_vl, Nat.reduceAdd])) | ((refine kx132 (lo := 0) (hi := 3) (by decide) (by decide) (fun _ => ?_) (fun z => absurd hyy z); simp only [ky_aft, ky_vl, Nat.reduceAdd])) | ((refine kx132 (lo := 1) (hi := 8) (by decide) (by decide) (fun _ => ?_) (fun z => absurd hv z); simp only [ky_aft, ky_vl, Nat.reduceAdd])) | ((refine kx140 h b8 (fun z => absurd z hN) (fun _ => ?_); simp only [ky_aft, ky_vl, Nat.reduceAdd])) | (refine ky_ok_stp rfl ?_; simp (disch := first | omega | assumption) only [ky_stp, ky_inv, ky_ldi, ky_ldl, ky_ldd, ky_lda, ky_cl2, ky_st1, ky_st2, ky_s1i, ky_s2i, ky_s1l, ky_s2l, ky_sli, ky_s1f, ky_s2f, ky_s1d, ky_s2d, ky_sr, ky_sai, ky_sasi, ky_sasl, ky_sasr, ky_svr, ky_sv, ky_sv2, ky_s1, ky_cs, ky_pop, ky_nth, ky_snt, ky_obj, ky_ari, ky_arl, ky_arr, ky_arn, ky_fv, ky_rcv, List.map_cons, List.map_nil, List.drop_succ_cons, List.drop_zero, Value.category, Nat.reduceAdd, Nat.reduceSub, true_and, and_true, true_or, or_true, reduceCtorEq, ite_true, ite_false, eq_self, Nat.reduceEqDiff, Nat.reduceLeDiff, nI_add, nI_1, nI_leI, nI_ltI, nI_eq, nI_clamp, kz_m1, kz_mn, kz_mn2, kz_n0, kz_0n, kz_0, kz_le0, kz_0lt, false_implies, true_implies, not_false_eq_true, not_true_eq_false, Nat.zero_le, kb_0, kz_10, kz_of, ky_sw, kz_mx, kz_mi, kh0, kh1, kh2, kh23, kh30, kh40, kh42, kh37, kh44, kh46, kh47, kh48, kh12, kh53, kz_1, ec]) | (refine ⟨vp_in_nI (by omega) (by omega), ?_⟩) | (rw [if_neg (by decide)]; refine ⟨by decide, by decide, ?_⟩) | (refine ⟨by decide, by decide, ?_⟩) | (refine ⟨fun zc => ?_, fun zc => ?_⟩ <;> try (exfalso; omega)) | fail)
    exact hq
  have hwd : kWd (kTl s.bc 0 b) := by
    refine ⟨fun z => ?_, by rw [kTl_len]; exact b8, fun c hc => ?_⟩
    · have := congrArg List.length z
      rw [kTl_len] at this
      simp at this; omega
    · unfold kTl at hc
      obtain ⟨t, ht, rfl⟩ := List.mem_map.mp hc
      rw [List.mem_range] at ht
      have := hN.2 t ht
      rw [Nat.zero_add]; exact this
  have hne : (kNW (kTl s.bc 0 b) = 0) = False := by
    refine eq_false fun z => hwd.1 ?_
    rw [← kNW_0] at z
    exact kNW_inj hwd.2.1 (fun c hc => by have := hwd.2.2 c hc; omega) (by simp) (fun c hc => by cases hc) z
  repeat' (first | ((refine kx129 h (fun _ => ?_) (fun z => absurd hx z); simp only [ky_aft, ky_vl, Nat.reduceAdd])) | ((refine kx132 (lo := 0) (hi := 3) (by decide) (by decide) (fun _ => ?_) (fun z => absurd hyy z); simp only [ky_aft, ky_vl, Nat.reduceAdd])) | ((refine kx132 (lo := 1) (hi := 8) (by decide) (by decide) (fun _ => ?_) (fun z => absurd hv z); simp only [ky_aft, ky_vl, Nat.reduceAdd])) | ((refine kx140 h b8 (fun _ => ?_) (fun z => absurd hN z); simp only [ky_aft, ky_vl, Nat.reduceAdd])) | (refine kx1 h.1 h.2.1.bu ?_) | (refine ky_ok_stp rfl ?_; simp (disch := first | omega | assumption) only [ky_stp, ky_inv, ky_ldi, ky_ldl, ky_ldd, ky_lda, ky_cl2, ky_st1, ky_st2, ky_s1i, ky_s2i, ky_s1l, ky_s2l, ky_sli, ky_s1f, ky_s2f, ky_s1d, ky_s2d, ky_sr, ky_sai, ky_sasi, ky_sasl, ky_sasr, ky_svr, ky_sv, ky_sv2, ky_s1, ky_cs, ky_pop, ky_nth, ky_snt, ky_obj, ky_ari, ky_arl, ky_arr, ky_arn, ky_fv, ky_rcv, List.map_cons, List.map_nil, List.drop_succ_cons, List.drop_zero, Value.category, Nat.reduceAdd, Nat.reduceSub, true_and, and_true, true_or, or_true, reduceCtorEq, ite_true, ite_false, eq_self, Nat.reduceEqDiff, Nat.reduceLeDiff, nI_add, nI_1, nI_leI, nI_ltI, nI_eq, nI_clamp, kz_m1, kz_mn, kz_mn2, kz_n0, kz_0n, kz_0, kz_le0, kz_0lt, false_implies, true_implies, not_false_eq_true, not_true_eq_false, Nat.zero_le, kb_0, kz_10, kz_of, ky_sw, kz_mx, kz_mi, kh0, kh1, kh2, kh23, kh30, kh40, kh42, kh37, kh44, kh46, kh47, kh48, kh12, kh53, kz_1, kz_cmp0, hne]) | (refine ⟨vp_in_nI (by omega) (by omega), ?_⟩) | (rw [if_neg (by decide)]; refine ⟨by decide, by decide, ?_⟩) | (refine ⟨by decide, by decide, ?_⟩) | (refine ⟨fun zc => ?_, fun zc => ?_⟩ <;> try (exfalso; omega)) | fail)
  intro f1 hB1 hF1
  simp only [ky_aft, ky_vl, Nat.reduceAdd]
  have h1' : kK a f1 (s.setB 0 s.bc) := kK_b h (fun j hj => hF1 j (by omega)) hB1
  have hA1 : kAl a f a f1 kL7 := kAl_fr h.1 fun j hj => hF1 j (by unfold kL7 at hj; omega)
  have hy' := fun a' f' s' q1 q2 q3 => hy j w b a' f' s' hj hw b1 b8 hxe rfl rfl hN q1 q2 (kAl_tr hA1 q3 fun j hj => ⟨hj, hj⟩)
  obtain ⟨kh0, kh1, kh2, kh23, kh30, kh40, kh42, ⟨_, kh37⟩, ⟨_, kh44⟩, ⟨_, kh46⟩, kh47, ⟨_, kh48⟩, ⟨_, kh12⟩, kh53⟩ := kK_hd h1'
  by_cases hj0 : j = 0
  · rw [if_pos hj0] at hy'
    have ex : x = -1 := by rw [hxe, hj0]; exact kz_z
    repeat' (first | (refine kx157 h1' hj hxe (show 3 ≤ 3 by omega) (fun _ => rfl) ⟨_, rfl, hwd⟩ ?_) | (refine ky_ok_stp rfl ?_; simp (disch := first | omega | assumption) only [ky_stp, ky_inv, ky_ldi, ky_ldl, ky_ldd, ky_lda, ky_cl2, ky_st1, ky_st2, ky_s1i, ky_s2i, ky_s1l, ky_s2l, ky_sli, ky_s1f, ky_s2f, ky_s1d, ky_s2d, ky_sr, ky_sai, ky_sasi, ky_sasl, ky_sasr, ky_svr, ky_sv, ky_sv2, ky_s1, ky_cs, ky_pop, ky_nth, ky_snt, ky_obj, ky_ari, ky_arl, ky_arr, ky_arn, ky_fv, ky_rcv, List.map_cons, List.map_nil, List.drop_succ_cons, List.drop_zero, Value.category, Nat.reduceAdd, Nat.reduceSub, true_and, and_true, true_or, or_true, reduceCtorEq, ite_true, ite_false, eq_self, Nat.reduceEqDiff, Nat.reduceLeDiff, nI_add, nI_1, nI_leI, nI_ltI, nI_eq, nI_clamp, kz_m1, kz_mn, kz_mn2, kz_n0, kz_0n, kz_0, kz_le0, kz_0lt, false_implies, true_implies, not_false_eq_true, not_true_eq_false, Nat.zero_le, kb_0, kz_10, kz_of, ky_sw, kz_mx, kz_mi, kh0, kh1, kh2, kh23, kh30, kh40, kh42, kh37, kh44, kh46, kh47, kh48, kh12, kh53, eq_true ex, kz_3x]) | (refine ⟨vp_in_nI (by omega) (by omega), ?_⟩) | (rw [if_neg (by decide)]; refine ⟨by decide, by decide, ?_⟩) | (refine ⟨by decide, by decide, ?_⟩) | (refine ⟨fun zc => ?_, fun zc => ?_⟩ <;> try (exfalso; omega)) | fail)
    intro a' f' s' q1 q2 q3
    simp only [ky_aft, ky_vl, Nat.reduceAdd]
    repeat' (first | (refine ky_ok_stp rfl ?_; simp (disch := first | omega | assumption) only [ky_stp, ky_inv, ky_ldi, ky_ldl, ky_ldd, ky_lda, ky_cl2, ky_st1, ky_st2, ky_s1i, ky_s2i, ky_s1l, ky_s2l, ky_sli, ky_s1f, ky_s2f, ky_s1d, ky_s2d, ky_sr, ky_sai, ky_sasi, ky_sasl, ky_sasr, ky_svr, ky_sv, ky_sv2, ky_s1, ky_cs, ky_pop, ky_nth, ky_snt, ky_obj, ky_ari, ky_arl, ky_arr, ky_arn, ky_fv, ky_rcv, List.map_cons, List.map_nil, List.drop_succ_cons, List.drop_zero, Value.category, Nat.reduceAdd, Nat.reduceSub, true_and, and_true, true_or, or_true, reduceCtorEq, ite_true, ite_false, eq_self, Nat.reduceEqDiff, Nat.reduceLeDiff, nI_add, nI_1, nI_leI, nI_ltI, nI_eq, nI_clamp, kz_m1, kz_mn, kz_mn2, kz_n0, kz_0n, kz_0, kz_le0, kz_0lt, false_implies, true_implies, not_false_eq_true, not_true_eq_false, Nat.zero_le, kb_0, kz_10, kz_of, ky_sw, kz_mx, kz_mi]) | (refine ⟨vp_in_nI (by omega) (by omega), ?_⟩) | (refine ⟨fun zc => ?_, fun zc => ?_⟩ <;> try (exfalso; omega)) | fail)
    exact hy' a' f' s' q1 q2 q3
  · rw [if_neg hj0] at hy'
    have ex : (x = -1) = False := by rw [hxe]; exact kz_ne1 (by omega)
    repeat' (first | (refine kx157 h1' hj hxe hw (fun z => absurd z hj0) ⟨_, rfl, hwd⟩ ?_) | (refine ky_ok_stp rfl ?_; simp (disch := first | omega | assumption) only [ky_stp, ky_inv, ky_ldi, ky_ldl, ky_ldd, ky_lda, ky_cl2, ky_st1, ky_st2, ky_s1i, ky_s2i, ky_s1l, ky_s2l, ky_sli, ky_s1f, ky_s2f, ky_s1d, ky_s2d, ky_sr, ky_sai, ky_sasi, ky_sasl, ky_sasr, ky_svr, ky_sv, ky_sv2, ky_s1, ky_cs, ky_pop, ky_nth, ky_snt, ky_obj, ky_ari, ky_arl, ky_arr, ky_arn, ky_fv, ky_rcv, List.map_cons, List.map_nil, List.drop_succ_cons, List.drop_zero, Value.category, Nat.reduceAdd, Nat.reduceSub, true_and, and_true, true_or, or_true, reduceCtorEq, ite_true, ite_false, eq_self, Nat.reduceEqDiff, Nat.reduceLeDiff, nI_add, nI_1, nI_leI, nI_ltI, nI_eq, nI_clamp, kz_m1, kz_mn, kz_mn2, kz_n0, kz_0n, kz_0, kz_le0, kz_0lt, false_implies, true_implies, not_false_eq_true, not_true_eq_false, Nat.zero_le, kb_0, kz_10, kz_of, ky_sw, kz_mx, kz_mi, kh0, kh1, kh2, kh23, kh30, kh40, kh42, kh37, kh44, kh46, kh47, kh48, kh12, kh53, ex]) | (refine ⟨vp_in_nI (by omega) (by omega), ?_⟩) | (rw [if_neg (by decide)]; refine ⟨by decide, by decide, ?_⟩) | (refine ⟨by decide, by decide, ?_⟩) | (refine ⟨fun zc => ?_, fun zc => ?_⟩ <;> try (exfalso; omega)) | fail)
    intro a' f' s' q1 q2 q3
    simp only [ky_aft, ky_vl, Nat.reduceAdd]
    repeat' (first | (refine ky_ok_stp rfl ?_; simp (disch := first | omega | assumption) only [ky_stp, ky_inv, ky_ldi, ky_ldl, ky_ldd, ky_lda, ky_cl2, ky_st1, ky_st2, ky_s1i, ky_s2i, ky_s1l, ky_s2l, ky_sli, ky_s1f, ky_s2f, ky_s1d, ky_s2d, ky_sr, ky_sai, ky_sasi, ky_sasl, ky_sasr, ky_svr, ky_sv, ky_sv2, ky_s1, ky_cs, ky_pop, ky_nth, ky_snt, ky_obj, ky_ari, ky_arl, ky_arr, ky_arn, ky_fv, ky_rcv, List.map_cons, List.map_nil, List.drop_succ_cons, List.drop_zero, Value.category, Nat.reduceAdd, Nat.reduceSub, true_and, and_true, true_or, or_true, reduceCtorEq, ite_true, ite_false, eq_self, Nat.reduceEqDiff, Nat.reduceLeDiff, nI_add, nI_1, nI_leI, nI_ltI, nI_eq, nI_clamp, kz_m1, kz_mn, kz_mn2, kz_n0, kz_0n, kz_0, kz_le0, kz_0lt, false_implies, true_implies, not_false_eq_true, not_true_eq_false, Nat.zero_le, kb_0, kz_10, kz_of, ky_sw, kz_mx, kz_mi]) | (refine ⟨vp_in_nI (by omega) (by omega), ?_⟩) | (refine ⟨fun zc => ?_, fun zc => ?_⟩ <;> try (exfalso; omega)) | fail)
    exact hy' a' f' s' q1 q2 q3
end KXA
