/-! ## how many NUMBERs a move changes -/
noncomputable def kChg (z : kZ) (p t w : Nat) : Nat := kCt (fun i => ¬ kSn (kMz z p t w) z i (kMi p (kEnd z p) (kTo2 z t w) i)) z.n
def kKn (z : kZ) (p t w : Nat) : Nat := if kTo2 z t w = kEnd z p then p else kTo2 z t w
theorem kMi_kn {z : kZ} {p t w : Nat} (hp : p < z.n) : ∀ j, kMi p (kEnd z p) (kTo2 z t w) j = kMi p (kEnd z p) (kKn z p t w) j := by
  intro j
  have hE := kEnd_le hp
  unfold kKn
  by_cases e : kTo2 z t w = kEnd z p
  · rw [if_pos e, e]
    unfold kMi
    rw [if_neg (by omega), if_pos (Nat.le_refl _)]
    by_cases e1 : j < p
    · rw [if_pos e1, if_pos e1]
    · rw [if_neg e1, if_neg e1, if_neg (by omega)]
      by_cases e2 : j + p < p + kEnd z p
      · rw [if_pos (by omega), if_pos e2]; omega
      · rw [if_neg (by omega), if_neg e2, if_neg (by omega)]
  · rw [if_neg e]
theorem kLB_nl {z : kZ} (h : kZo z) {t w : Nat} (ht : t < z.n) : kLB (kL z.R) (t + 1) w = nI (kNl z t w) := by
  obtain ⟨et, t1, t6⟩ := h.lv t ht
  unfold kLB kNl
  by_cases e : w = 0 ∨ w = 1
  · rw [if_pos e, if_pos e]; exact et
  · rw [if_neg e, if_neg e]
    show kL z.R t + 1 = _
    rw [et, show (1 : Int32) = nI 1 from rfl, nI_add]
theorem kMz_kn {z : kZ} (h : kZo z) {p t w t' w' : Nat} (hp : p < z.n) (ht : t < z.n) (ht' : t' < z.n) (hk : kKn z p t w = kKn z p t' w') (hl : kNl z t w = kNl z t' w') : kMz z p t w = kMz z p t' w' := by
  have e : ∀ j, kMi p (kEnd z p) (kTo2 z t w) j = kMi p (kEnd z p) (kTo2 z t' w') j := fun j => by rw [kMi_kn hp, kMi_kn hp, hk]
  unfold kMz
  rw [kLB_nl h ht, kLB_nl h ht', hl]
  simp only [e]
  rfl
theorem kChg_kn {z : kZ} (h : kZo z) {p t w t' w' : Nat} (hp : p < z.n) (ht : t < z.n) (ht' : t' < z.n) (hk : kKn z p t w = kKn z p t' w') (hl : kNl z t w = kNl z t' w') : kChg z p t w = kChg z p t' w' := by
  have e : ∀ j, kMi p (kEnd z p) (kTo2 z t w) j = kMi p (kEnd z p) (kTo2 z t' w') j := fun j => by rw [kMi_kn hp, kMi_kn hp, hk]
  unfold kChg
  rw [kMz_kn h hp ht ht' hk hl]
  simp only [e]
def kDF (j : Nat) : Prop := 12 ≤ j ∧ j ≤ 22 ∨ 30 ≤ j ∧ j ≤ 36
section KXP
variable {adK a : Nat → Nat} {f : ky_H} {s : kSt} {Q : ky_Q} {x y v : Int32} {p t w i e l j k : Nat}
theorem kx154 (h : kK a f s) (hp : p < s.o.n) (ht : t < s.o.n) (hw : w ≤ 3) (h0 : kMR s.o p t w = 0) (hN : kNu a 23 f s.o.n (kKD s.o) (kCO s.o) (kPF s.o))
    (hQ : ∀ f', kK a f' s → kNu a 23 f' s.o.n (kKD s.o) (kCO s.o) (kPF s.o) → kfr a f f' kDF → Q (.inl (some (.int (nI (kChg s.o p t w))))) f') : ky_cl adK 154 [.ref (a 0), .int (nI p), .int (nI t), .int (nI w)] f Q := by
  have ha := h.1
  have hn := h.2.2.2.o.n60
  have ho := h.2.2.2.o
  have hwN := kZo_w ho
  have hVN := kZo_V ho
  obtain ⟨hd, -⟩ := kMR_0 ho hp ht h0
  obtain ⟨hto, hton⟩ := kMR_to (w := w) ho hp ht hd
  have hom := kMz_ok ho hp ht h0
  have hwM := kZo_w hom
  have hVM := kZo_V hom
  have hE := kEnd_le hp
  have hnm : (kMz s.o p t w).n = s.o.n := rfl
  have loop : ∀ m i f G z', i + m = s.o.n → kK a f s → kNu a 23 f s.o.n (kKD s.o) (kCO s.o) (kPF s.o) → kNu a 30 f s.o.n (kKD (kMz s.o p t w)) (kCO (kMz s.o p t w)) (kPF (kMz s.o p t w)) → kW a 12 f s.o.n z' G → (∀ j, j < s.o.n → G j = nI (kMi p (kEnd s.o p) (kTo2 s.o t w) j)) → Q (.inl (some (.int (nI (kChg s.o p t w))))) f →
      ky_ok adK 154 32 [some (.ref (a 0)), some (.int (nI p)), some (.int (nI t)), some (.int (nI w)), some (.int (nI (kCt (fun i => ¬ kSn (kMz s.o p t w) s.o i (kMi p (kEnd s.o p) (kTo2 s.o t w) i)) i))), some (.int (nI i))] [] f 0 0 Q := by
    intro m
    induction m with
    | zero =>
      intro i f G z' hi h hN hM hW hG hq
      obtain ⟨kh0, kh1, kh2, kh23, kh30, kh40, kh42, ⟨_, kh37⟩, ⟨_, kh44⟩, ⟨_, kh46⟩, kh47, ⟨_, kh48⟩, ⟨_, kh12⟩, kh53⟩ := kK_hd h
      have y12 := kW_lv hW
      repeat' (first | (refine ky_ok_stp rfl ?_; simp (disch := first | omega | assumption) only [ky_stp, ky_inv, ky_ldi, ky_ldl, ky_ldd, ky_lda, ky_cl2, ky_st1, ky_st2, ky_s1i, ky_s2i, ky_s1l, ky_s2l, ky_sli, ky_s1f, ky_s2f, ky_s1d, ky_s2d, ky_sr, ky_sai, ky_sasi, ky_sasl, ky_sasr, ky_svr, ky_sv, ky_sv2, ky_s1, ky_cs, ky_pop, ky_nth, ky_snt, ky_obj, ky_ari, ky_arl, ky_arr, ky_arn, ky_fv, ky_rcv, List.map_cons, List.map_nil, List.drop_succ_cons, List.drop_zero, Value.category, Nat.reduceAdd, Nat.reduceSub, true_and, and_true, true_or, or_true, reduceCtorEq, ite_true, ite_false, eq_self, Nat.reduceEqDiff, Nat.reduceLeDiff, nI_add, nI_1, nI_leI, nI_ltI, nI_eq, nI_clamp, kz_m1, kz_mn, kz_mn2, kz_n0, kz_0n, kz_0, kz_le0, kz_0lt, false_implies, true_implies, not_false_eq_true, not_true_eq_false, Nat.zero_le, kb_0, kz_10, kz_of, ky_sw, kz_mx, kz_mi, kh0, y12]) | (refine ⟨vp_in_nI (by omega) (by omega), ?_⟩) | (refine ⟨fun zc => ?_, fun zc => ?_⟩ <;> try (exfalso; omega)) | fail)
      obtain rfl : i = s.o.n := by omega
      exact hq
    | succ m ih =>
      intro i f G z' hi h hN hM hW hG hq
      obtain ⟨kh0, kh1, kh2, kh23, kh30, kh40, kh42, ⟨_, kh37⟩, ⟨_, kh44⟩, ⟨_, kh46⟩, kh47, ⟨_, kh48⟩, ⟨_, kh12⟩, kh53⟩ := kK_hd h
      have y12 := kW_lv hW
      have hi' : i < s.o.n := by omega
      have hr := kMi_r (j := i) (show p < kEnd s.o p by omega) hto
      have hmi : kMi p (kEnd s.o p) (kTo2 s.o t w) i < s.o.n := by unfold kMr at hr; omega
      obtain ⟨KD, CT, PX, NL, LV, CH, w5, w6⟩ := id hN
      obtain ⟨KD2, CT2, PX2, NL2, LV2, CH2, v5, v6⟩ := id hM
      have hle := kCt_le (fun i => ¬ kSn (kMz s.o p t w) s.o i (kMi p (kEnd s.o p) (kTo2 s.o t w) i)) i
      (refine ky_ok_stp rfl ?_; simp (disch := first | omega | assumption) only [ky_stp, ky_inv, ky_ldi, ky_ldl, ky_ldd, ky_lda, ky_cl2, ky_st1, ky_st2, ky_s1i, ky_s2i, ky_s1l, ky_s2l, ky_sli, ky_s1f, ky_s2f, ky_s1d, ky_s2d, ky_sr, ky_sai, ky_sasi, ky_sasl, ky_sasr, ky_svr, ky_sv, ky_sv2, ky_s1, ky_cs, ky_pop, ky_nth, ky_snt, ky_obj, ky_ari, ky_arl, ky_arr, ky_arn, ky_fv, ky_rcv, List.map_cons, List.map_nil, List.drop_succ_cons, List.drop_zero, Value.category, Nat.reduceAdd, Nat.reduceSub, true_and, and_true, true_or, or_true, reduceCtorEq, ite_true, ite_false, eq_self, Nat.reduceEqDiff, Nat.reduceLeDiff, nI_add, nI_1, nI_leI, nI_ltI, nI_eq, nI_clamp, kz_m1, kz_mn, kz_mn2, kz_n0, kz_0n, kz_0, kz_le0, kz_0lt, false_implies, true_implies, not_false_eq_true, not_true_eq_false, Nat.zero_le, kb_0, kz_10, kz_of, ky_sw, kz_mx, kz_mi])
      by_cases hc : kSn (kMz s.o p t w) s.o i (kMi p (kEnd s.o p) (kTo2 s.o t w) i)
      · have e1 := kCt_s0 (p := fun i => ¬ kSn (kMz s.o p t w) s.o i (kMi p (kEnd s.o p) (kTo2 s.o t w) i)) (i := i) (fun z => z hc)
        repeat' (first | ((refine kx30 hW.1 hn hi' ?_; rw [hG i hi']; simp only [ky_aft, ky_vl, Nat.reduceAdd])) | ((refine kx15 v5 v6 hwM w5 w6 hwN hn hn hi' hmi hVM hVN (fun _ => ?_) (fun z => absurd hc z); simp only [ky_aft, ky_vl, Nat.reduceAdd])) | (exact (by have := ih (i + 1) f G z' (by omega) h hN hM hW hG hq; rw [e1] at this; exact this)) | (refine ky_ok_stp rfl ?_; simp (disch := first | omega | assumption) only [ky_stp, ky_inv, ky_ldi, ky_ldl, ky_ldd, ky_lda, ky_cl2, ky_st1, ky_st2, ky_s1i, ky_s2i, ky_s1l, ky_s2l, ky_sli, ky_s1f, ky_s2f, ky_s1d, ky_s2d, ky_sr, ky_sai, ky_sasi, ky_sasl, ky_sasr, ky_svr, ky_sv, ky_sv2, ky_s1, ky_cs, ky_pop, ky_nth, ky_snt, ky_obj, ky_ari, ky_arl, ky_arr, ky_arn, ky_fv, ky_rcv, List.map_cons, List.map_nil, List.drop_succ_cons, List.drop_zero, Value.category, Nat.reduceAdd, Nat.reduceSub, true_and, and_true, true_or, or_true, reduceCtorEq, ite_true, ite_false, eq_self, Nat.reduceEqDiff, Nat.reduceLeDiff, nI_add, nI_1, nI_leI, nI_ltI, nI_eq, nI_clamp, kz_m1, kz_mn, kz_mn2, kz_n0, kz_0n, kz_0, kz_le0, kz_0lt, false_implies, true_implies, not_false_eq_true, not_true_eq_false, Nat.zero_le, kb_0, kz_10, kz_of, ky_sw, kz_mx, kz_mi, kh0, y12, kh23, kh30, kz_10]) | (refine ⟨vp_in_nI (by omega) (by omega), ?_⟩) | (refine ⟨fun zc => ?_, fun zc => ?_⟩ <;> try (exfalso; omega)) | fail)
      · have e1 := kCt_s1 (p := fun i => ¬ kSn (kMz s.o p t w) s.o i (kMi p (kEnd s.o p) (kTo2 s.o t w) i)) (i := i) hc
        repeat' (first | ((refine kx30 hW.1 hn hi' ?_; rw [hG i hi']; simp only [ky_aft, ky_vl, Nat.reduceAdd])) | ((refine kx15 v5 v6 hwM w5 w6 hwN hn hn hi' hmi hVM hVN (fun z => absurd z hc) (fun _ => ?_); simp only [ky_aft, ky_vl, Nat.reduceAdd])) | (exact (by have := ih (i + 1) f G z' (by omega) h hN hM hW hG hq; rw [e1] at this; exact this)) | (refine ky_ok_stp rfl ?_; simp (disch := first | omega | assumption) only [ky_stp, ky_inv, ky_ldi, ky_ldl, ky_ldd, ky_lda, ky_cl2, ky_st1, ky_st2, ky_s1i, ky_s2i, ky_s1l, ky_s2l, ky_sli, ky_s1f, ky_s2f, ky_s1d, ky_s2d, ky_sr, ky_sai, ky_sasi, ky_sasl, ky_sasr, ky_svr, ky_sv, ky_sv2, ky_s1, ky_cs, ky_pop, ky_nth, ky_snt, ky_obj, ky_ari, ky_arl, ky_arr, ky_arn, ky_fv, ky_rcv, List.map_cons, List.map_nil, List.drop_succ_cons, List.drop_zero, Value.category, Nat.reduceAdd, Nat.reduceSub, true_and, and_true, true_or, or_true, reduceCtorEq, ite_true, ite_false, eq_self, Nat.reduceEqDiff, Nat.reduceLeDiff, nI_add, nI_1, nI_leI, nI_ltI, nI_eq, nI_clamp, kz_m1, kz_mn, kz_mn2, kz_n0, kz_0n, kz_0, kz_le0, kz_0lt, false_implies, true_implies, not_false_eq_true, not_true_eq_false, Nat.zero_le, kb_0, kz_10, kz_of, ky_sw, kz_mx, kz_mi, kh0, y12, kh23, kh30, kz_10]) | (refine ⟨vp_in_nI (by omega) (by omega), ?_⟩) | (refine ⟨fun zc => ?_, fun zc => ?_⟩ <;> try (exfalso; omega)) | fail)
  obtain ⟨kh0, kh1, kh2, kh23, kh30, kh40, kh42, ⟨_, kh37⟩, ⟨_, kh44⟩, ⟨_, kh46⟩, kh47, ⟨_, kh48⟩, ⟨_, kh12⟩, kh53⟩ := kK_hd h
  obtain ⟨zd, ⟨Gd, hWd⟩, hSd⟩ := h.2.2.1.d
  obtain ⟨⟨G, hW⟩, hS⟩ := h.2.1.z
  refine ⟨Nat.le_of_ble_eq_true rfl, fun z => absurd z (by decide), ?_⟩; show ky_ok adK 154 0 [some (.ref (a 0)), some (.int (nI p)), some (.int (nI t)), some (.int (nI w)), none, none] [] f 0 0 _
  repeat' (first | (refine kx51 (e := kEnd s.o p) (to := kTo2 s.o t w) ha (by omega) hWd hSd hW hS hn hp ht hw rfl rfl hto ?_) | (refine ky_ok_stp rfl ?_; simp (disch := first | omega | assumption) only [ky_stp, ky_inv, ky_ldi, ky_ldl, ky_ldd, ky_lda, ky_cl2, ky_st1, ky_st2, ky_s1i, ky_s2i, ky_s1l, ky_s2l, ky_sli, ky_s1f, ky_s2f, ky_s1d, ky_s2d, ky_sr, ky_sai, ky_sasi, ky_sasl, ky_sasr, ky_svr, ky_sv, ky_sv2, ky_s1, ky_cs, ky_pop, ky_nth, ky_snt, ky_obj, ky_ari, ky_arl, ky_arr, ky_arn, ky_fv, ky_rcv, List.map_cons, List.map_nil, List.drop_succ_cons, List.drop_zero, Value.category, Nat.reduceAdd, Nat.reduceSub, true_and, and_true, true_or, or_true, reduceCtorEq, ite_true, ite_false, eq_self, Nat.reduceEqDiff, Nat.reduceLeDiff, nI_add, nI_1, nI_leI, nI_ltI, nI_eq, nI_clamp, kz_m1, kz_mn, kz_mn2, kz_n0, kz_0n, kz_0, kz_le0, kz_0lt, false_implies, true_implies, not_false_eq_true, not_true_eq_false, Nat.zero_le, kb_0, kz_10, kz_of, ky_sw, kz_mx, kz_mi, kh0, kh1, kh2, kh23, kh30, kh40, kh42, kh37, kh44, kh46, kh47, kh48, kh12, kh53]) | (refine ⟨vp_in_nI (by omega) (by omega), ?_⟩) | (refine ⟨fun zc => ?_, fun zc => ?_⟩ <;> try (exfalso; omega)) | fail)
  intro f1 R1 G1 S1 hW1 hS1 hF1 hR1 hq1
  simp only [ky_aft, ky_vl, Nat.reduceAdd]
  have hr1 : ∀ j, kMr p (kEnd s.o p) (kTo2 s.o t w) (kMi p (kEnd s.o p) (kTo2 s.o t w) j) j := fun j => kMi_r (show p < kEnd s.o p by omega) hto
  have hz1 : kZb a 12 f1 ⟨s.o.n, R1, S1⟩ := ⟨⟨G1, hW1⟩, hS1⟩
  have he1 : kZe (kMz s.o p t w) ⟨s.o.n, R1, S1⟩ := ⟨rfl, fun i hi => (hR1 _ i hi (hr1 i)).1, hq1⟩
  have hF1' : kfr a f f1 kDF := fun j hj => hF1 j (by unfold kBl; unfold kDF at hj; omega)
  have h1 : kK a f1 s := by
    obtain ⟨b1, b2, b3, b4⟩ := h
    refine ⟨b1, kK1_fr b2 fun j hj => hF1 j (by unfold ksc at hj; unfold kBl; omega), kK2_fr b3 hF1 (.inr ⟨_, hz1⟩) (.inl fun j _ _ => by unfold kBl; omega) (.inl fun j _ _ => by unfold kBl; omega) (.inl ⟨by unfold kBl; omega, by unfold kBl; omega⟩) (.inl (by unfold kBl; omega)) (.inl fun j _ _ => by unfold kBl; omega) (.inl (by unfold kBl; omega)) (.inl (by unfold kBl; omega)) (.inl (by unfold kBl; omega)), b4⟩
  have hN1 : kNu a 23 f1 s.o.n (kKD s.o) (kCO s.o) (kPF s.o) := kNu_fr hN fun j z1 z2 => hF1 j (by unfold kBl; omega)
  obtain ⟨kh0, kh1, kh2, kh23, kh30, kh40, kh42, ⟨_, kh37⟩, ⟨_, kh44⟩, ⟨_, kh46⟩, kh47, ⟨_, kh48⟩, ⟨_, kh12⟩, kh53⟩ := kK_hd h1
  have y12 := kW_lv hW1
  repeat' (first | (refine kx10z (z := kMz s.o p t w) ha (by omega) hz1 he1 hom h1.2.2.1.db ?_) | (refine ky_ok_stp rfl ?_; simp (disch := first | omega | assumption) only [ky_stp, ky_inv, ky_ldi, ky_ldl, ky_ldd, ky_lda, ky_cl2, ky_st1, ky_st2, ky_s1i, ky_s2i, ky_s1l, ky_s2l, ky_sli, ky_s1f, ky_s2f, ky_s1d, ky_s2d, ky_sr, ky_sai, ky_sasi, ky_sasl, ky_sasr, ky_svr, ky_sv, ky_sv2, ky_s1, ky_cs, ky_pop, ky_nth, ky_snt, ky_obj, ky_ari, ky_arl, ky_arr, ky_arn, ky_fv, ky_rcv, List.map_cons, List.map_nil, List.drop_succ_cons, List.drop_zero, Value.category, Nat.reduceAdd, Nat.reduceSub, true_and, and_true, true_or, or_true, reduceCtorEq, ite_true, ite_false, eq_self, Nat.reduceEqDiff, Nat.reduceLeDiff, nI_add, nI_1, nI_leI, nI_ltI, nI_eq, nI_clamp, kz_m1, kz_mn, kz_mn2, kz_n0, kz_0n, kz_0, kz_le0, kz_0lt, false_implies, true_implies, not_false_eq_true, not_true_eq_false, Nat.zero_le, kb_0, kz_10, kz_of, ky_sw, kz_mx, kz_mi, kh0, kh23, kh30, y12]) | (refine ⟨vp_in_nI (by omega) (by omega), ?_⟩) | (refine ⟨fun zc => ?_, fun zc => ?_⟩ <;> try (exfalso; omega)) | fail)
  intro f2 hM2 hF2
  simp only [ky_aft, ky_vl, Nat.reduceAdd]
  have hF2' : kfr a f1 f2 kDF := fun j hj => hF2 j (by unfold kNF; unfold kDF at hj; omega)
  have hW2 : kW a 12 f2 s.o.n R1 G1 := kW_fr hW1 fun j z1 z2 => hF2 j (by unfold kNF; omega)
  have h2 : kK a f2 s := by
    obtain ⟨b1, b2, b3, b4⟩ := h1
    refine ⟨b1, kK1_fr b2 fun j hj => hF2 j (by unfold ksc at hj; unfold kNF; omega), kK2_fr b3 hF2 (.inl fun j _ _ => by unfold kNF; omega) (.inl fun j _ _ => by unfold kNF; omega) (.inr (kK_kNu hM2)) (.inl ⟨by unfold kNF; omega, by unfold kNF; omega⟩) (.inl (by unfold kNF; omega)) (.inl fun j _ _ => by unfold kNF; omega) (.inl (by unfold kNF; omega)) (.inl (by unfold kNF; omega)) (.inl (by unfold kNF; omega)), b4⟩
  have hN2 : kNu a 23 f2 s.o.n (kKD s.o) (kCO s.o) (kPF s.o) := kNu_fr hN1 fun j z1 z2 => hF2 j (by unfold kNF; omega)
  repeat' (first | (refine loop s.o.n 0 f2 G1 R1 (by omega) h2 hN2 hM2 hW2 (fun j hj => (hR1 _ j hj (hr1 j)).2) (hQ f2 h2 hN2 (kfr_tr hF1' hF2' fun j hj => ⟨hj, hj⟩))) | (refine ky_ok_stp rfl ?_; simp (disch := first | omega | assumption) only [ky_stp, ky_inv, ky_ldi, ky_ldl, ky_ldd, ky_lda, ky_cl2, ky_st1, ky_st2, ky_s1i, ky_s2i, ky_s1l, ky_s2l, ky_sli, ky_s1f, ky_s2f, ky_s1d, ky_s2d, ky_sr, ky_sai, ky_sasi, ky_sasl, ky_sasr, ky_svr, ky_sv, ky_sv2, ky_s1, ky_cs, ky_pop, ky_nth, ky_snt, ky_obj, ky_ari, ky_arl, ky_arr, ky_arn, ky_fv, ky_rcv, List.map_cons, List.map_nil, List.drop_succ_cons, List.drop_zero, Value.category, Nat.reduceAdd, Nat.reduceSub, true_and, and_true, true_or, or_true, reduceCtorEq, ite_true, ite_false, eq_self, Nat.reduceEqDiff, Nat.reduceLeDiff, nI_add, nI_1, nI_leI, nI_ltI, nI_eq, nI_clamp, kz_m1, kz_mn, kz_mn2, kz_n0, kz_0n, kz_0, kz_le0, kz_0lt, false_implies, true_implies, not_false_eq_true, not_true_eq_false, Nat.zero_le, kb_0, kz_10, kz_of, ky_sw, kz_mx, kz_mi]) | (refine ⟨vp_in_nI (by omega) (by omega), ?_⟩) | (refine ⟨fun zc => ?_, fun zc => ?_⟩ <;> try (exfalso; omega)) | fail)
theorem kx108 (h : kK a f s) (hy : ∀ p t w f', p < s.o.n → t < s.o.n → w ≤ 3 → x = nI p → y = nI t → v = nI w → kK a f' s → kfr a f f' kL7 → Q (.inl (some (.int (if kMR s.o p t w = 0 then nI (kChg s.o p t w) else -1)))) f') (h2 : ¬ (kHas s.o.n x ∧ kHas s.o.n y) → Q (.inr 2) f) (h1 : kHas s.o.n x → kHas s.o.n y → ¬ kRg 0 3 v → Q (.inr 1) f) : ky_cl adK 108 [.ref (a 0), .int x, .int y, .int v] f Q := by
  obtain ⟨kh0, kh1, kh2, kh23, kh30, kh40, kh42, ⟨_, kh37⟩, ⟨_, kh44⟩, ⟨_, kh46⟩, kh47, ⟨_, kh48⟩, ⟨_, kh12⟩, kh53⟩ := kK_hd h
  refine ⟨Nat.le_of_ble_eq_true rfl, fun z => absurd z (by decide), ?_⟩; show ky_ok adK 108 0 [some (.ref (a 0)), some (.int x), some (.int y), some (.int v)] [] f 0 0 _
  by_cases hx : kHas s.o.n x
  case neg =>
    have hq := h2 fun z => hx z.1
    repeat' (first | ((refine kx128 h (fun z => absurd z hx) (fun _ => ?_); exact hq)) | (refine ky_ok_stp rfl ?_; simp (disch := first | omega | assumption) only [ky_stp, ky_inv, ky_ldi, ky_ldl, ky_ldd, ky_lda, ky_cl2, ky_st1, ky_st2, ky_s1i, ky_s2i, ky_s1l, ky_s2l, ky_sli, ky_s1f, ky_s2f, ky_s1d, ky_s2d, ky_sr, ky_sai, ky_sasi, ky_sasl, ky_sasr, ky_svr, ky_sv, ky_sv2, ky_s1, ky_cs, ky_pop, ky_nth, ky_snt, ky_obj, ky_ari, ky_arl, ky_arr, ky_arn, ky_fv, ky_rcv, List.map_cons, List.map_nil, List.drop_succ_cons, List.drop_zero, Value.category, Nat.reduceAdd, Nat.reduceSub, true_and, and_true, true_or, or_true, reduceCtorEq, ite_true, ite_false, eq_self, Nat.reduceEqDiff, Nat.reduceLeDiff, nI_add, nI_1, nI_leI, nI_ltI, nI_eq, nI_clamp, kz_m1, kz_mn, kz_mn2, kz_n0, kz_0n, kz_0, kz_le0, kz_0lt, false_implies, true_implies, not_false_eq_true, not_true_eq_false, Nat.zero_le, kb_0, kz_10, kz_of, ky_sw, kz_mx, kz_mi, kh0, kh1, kh2, kh23, kh30, kh40, kh42, kh37, kh44, kh46, kh47, kh48, kh12, kh53]) | (refine ⟨vp_in_nI (by omega) (by omega), ?_⟩) | (rw [if_neg (by decide)]; refine ⟨by decide, by decide, ?_⟩) | (refine ⟨by decide, by decide, ?_⟩) | (refine ⟨fun zc => ?_, fun zc => ?_⟩ <;> try (exfalso; omega)) | fail)
  by_cases hyy : kHas s.o.n y
  case neg =>
    have hq := h2 fun z => hyy z.2
    repeat' (first | ((refine kx128 h (fun _ => ?_) (fun z => absurd hx z); simp only [ky_aft, ky_vl, Nat.reduceAdd])) | ((refine kx128 h (fun z => absurd z hyy) (fun _ => ?_); exact hq)) | (refine ky_ok_stp rfl ?_; simp (disch := first | omega | assumption) only [ky_stp, ky_inv, ky_ldi, ky_ldl, ky_ldd, ky_lda, ky_cl2, ky_st1, ky_st2, ky_s1i, ky_s2i, ky_s1l, ky_s2l, ky_sli, ky_s1f, ky_s2f, ky_s1d, ky_s2d, ky_sr, ky_sai, ky_sasi, ky_sasl, ky_sasr, ky_svr, ky_sv, ky_sv2, ky_s1, ky_cs, ky_pop, ky_nth, ky_snt, ky_obj, ky_ari, ky_arl, ky_arr, ky_arn, ky_fv, ky_rcv, List.map_cons, List.map_nil, List.drop_succ_cons, List.drop_zero, Value.category, Nat.reduceAdd, Nat.reduceSub, true_and, and_true, true_or, or_true, reduceCtorEq, ite_true, ite_false, eq_self, Nat.reduceEqDiff, Nat.reduceLeDiff, nI_add, nI_1, nI_leI, nI_ltI, nI_eq, nI_clamp, kz_m1, kz_mn, kz_mn2, kz_n0, kz_0n, kz_0, kz_le0, kz_0lt, false_implies, true_implies, not_false_eq_true, not_true_eq_false, Nat.zero_le, kb_0, kz_10, kz_of, ky_sw, kz_mx, kz_mi, kh0, kh1, kh2, kh23, kh30, kh40, kh42, kh37, kh44, kh46, kh47, kh48, kh12, kh53]) | (refine ⟨vp_in_nI (by omega) (by omega), ?_⟩) | (rw [if_neg (by decide)]; refine ⟨by decide, by decide, ?_⟩) | (refine ⟨by decide, by decide, ?_⟩) | (refine ⟨fun zc => ?_, fun zc => ?_⟩ <;> try (exfalso; omega)) | fail)
  by_cases hv : kRg 0 3 v
  case neg =>
    have hq := h1 hx hyy hv
    repeat' (first | ((refine kx128 h (fun _ => ?_) (fun z => absurd hx z); simp only [ky_aft, ky_vl, Nat.reduceAdd])) | ((refine kx128 h (fun _ => ?_) (fun z => absurd hyy z); simp only [ky_aft, ky_vl, Nat.reduceAdd])) | ((refine kx132 (lo := 0) (hi := 3) (by decide) (by decide) (fun z => absurd z hv) (fun _ => ?_); exact hq)) | (refine ky_ok_stp rfl ?_; simp (disch := first | omega | assumption) only [ky_stp, ky_inv, ky_ldi, ky_ldl, ky_ldd, ky_lda, ky_cl2, ky_st1, ky_st2, ky_s1i, ky_s2i, ky_s1l, ky_s2l, ky_sli, ky_s1f, ky_s2f, ky_s1d, ky_s2d, ky_sr, ky_sai, ky_sasi, ky_sasl, ky_sasr, ky_svr, ky_sv, ky_sv2, ky_s1, ky_cs, ky_pop, ky_nth, ky_snt, ky_obj, ky_ari, ky_arl, ky_arr, ky_arn, ky_fv, ky_rcv, List.map_cons, List.map_nil, List.drop_succ_cons, List.drop_zero, Value.category, Nat.reduceAdd, Nat.reduceSub, true_and, and_true, true_or, or_true, reduceCtorEq, ite_true, ite_false, eq_self, Nat.reduceEqDiff, Nat.reduceLeDiff, nI_add, nI_1, nI_leI, nI_ltI, nI_eq, nI_clamp, kz_m1, kz_mn, kz_mn2, kz_n0, kz_0n, kz_0, kz_le0, kz_0lt, false_implies, true_implies, not_false_eq_true, not_true_eq_false, Nat.zero_le, kb_0, kz_10, kz_of, ky_sw, kz_mx, kz_mi, kh0, kh1, kh2, kh23, kh30, kh40, kh42, kh37, kh44, kh46, kh47, kh48, kh12, kh53]) | (refine ⟨vp_in_nI (by omega) (by omega), ?_⟩) | (rw [if_neg (by decide)]; refine ⟨by decide, by decide, ?_⟩) | (refine ⟨by decide, by decide, ?_⟩) | (refine ⟨fun zc => ?_, fun zc => ?_⟩ <;> try (exfalso; omega)) | fail)
  obtain ⟨p, hp, rfl⟩ := id hx
  obtain ⟨t, ht, rfl⟩ := id hyy
  obtain ⟨w, _, hw, rfl⟩ := id hv
  by_cases h0 : kMR s.o p t w = 0
  · repeat' (first | ((refine kx128 h (fun _ => ?_) (fun z => absurd hx z); simp only [ky_aft, ky_vl, Nat.reduceAdd])) | ((refine kx128 h (fun _ => ?_) (fun z => absurd hyy z); simp only [ky_aft, ky_vl, Nat.reduceAdd])) | ((refine kx132 (lo := 0) (hi := 3) (by decide) (by decide) (fun _ => ?_) (fun z => absurd hv z); simp only [ky_aft, ky_vl, Nat.reduceAdd])) | (refine kx152 h hp ht hw ?_; simp only [ky_aft, ky_vl, Nat.reduceAdd]) | (refine kx10k h ?_) | (refine ky_ok_stp rfl ?_; simp (disch := first | omega | assumption) only [ky_stp, ky_inv, ky_ldi, ky_ldl, ky_ldd, ky_lda, ky_cl2, ky_st1, ky_st2, ky_s1i, ky_s2i, ky_s1l, ky_s2l, ky_sli, ky_s1f, ky_s2f, ky_s1d, ky_s2d, ky_sr, ky_sai, ky_sasi, ky_sasl, ky_sasr, ky_svr, ky_sv, ky_sv2, ky_s1, ky_cs, ky_pop, ky_nth, ky_snt, ky_obj, ky_ari, ky_arl, ky_arr, ky_arn, ky_fv, ky_rcv, List.map_cons, List.map_nil, List.drop_succ_cons, List.drop_zero, Value.category, Nat.reduceAdd, Nat.reduceSub, true_and, and_true, true_or, or_true, reduceCtorEq, ite_true, ite_false, eq_self, Nat.reduceEqDiff, Nat.reduceLeDiff, nI_add, nI_1, nI_leI, nI_ltI, nI_eq, nI_clamp, kz_m1, kz_mn, kz_mn2, kz_n0, kz_0n, kz_0, kz_le0, kz_0lt, false_implies, true_implies, not_false_eq_true, not_true_eq_false, Nat.zero_le, kb_0, kz_10, kz_of, ky_sw, kz_mx, kz_mi, kh0, kh1, kh2, kh23, kh30, kh40, kh42, kh37, kh44, kh46, kh47, kh48, kh12, kh53, eq_true h0]) | (refine ⟨vp_in_nI (by omega) (by omega), ?_⟩) | (rw [if_neg (by decide)]; refine ⟨by decide, by decide, ?_⟩) | (refine ⟨by decide, by decide, ?_⟩) | (refine ⟨fun zc => ?_, fun zc => ?_⟩ <;> try (exfalso; omega)) | fail)
    intro f1 g1 g2 g3
    simp only [ky_aft, ky_vl, Nat.reduceAdd]
    obtain ⟨kh0, kh1, kh2, kh23, kh30, kh40, kh42, ⟨_, kh37⟩, ⟨_, kh44⟩, ⟨_, kh46⟩, kh47, ⟨_, kh48⟩, ⟨_, kh12⟩, kh53⟩ := kK_hd g1
    repeat' (first | (refine kx154 g1 hp ht hw h0 g2 ?_) | (refine ky_ok_stp rfl ?_; simp (disch := first | omega | assumption) only [ky_stp, ky_inv, ky_ldi, ky_ldl, ky_ldd, ky_lda, ky_cl2, ky_st1, ky_st2, ky_s1i, ky_s2i, ky_s1l, ky_s2l, ky_sli, ky_s1f, ky_s2f, ky_s1d, ky_s2d, ky_sr, ky_sai, ky_sasi, ky_sasl, ky_sasr, ky_svr, ky_sv, ky_sv2, ky_s1, ky_cs, ky_pop, ky_nth, ky_snt, ky_obj, ky_ari, ky_arl, ky_arr, ky_arn, ky_fv, ky_rcv, List.map_cons, List.map_nil, List.drop_succ_cons, List.drop_zero, Value.category, Nat.reduceAdd, Nat.reduceSub, true_and, and_true, true_or, or_true, reduceCtorEq, ite_true, ite_false, eq_self, Nat.reduceEqDiff, Nat.reduceLeDiff, nI_add, nI_1, nI_leI, nI_ltI, nI_eq, nI_clamp, kz_m1, kz_mn, kz_mn2, kz_n0, kz_0n, kz_0, kz_le0, kz_0lt, false_implies, true_implies, not_false_eq_true, not_true_eq_false, Nat.zero_le, kb_0, kz_10, kz_of, ky_sw, kz_mx, kz_mi, kh0, kh1, kh2, kh23, kh30, kh40, kh42, kh37, kh44, kh46, kh47, kh48, kh12, kh53]) | (refine ⟨vp_in_nI (by omega) (by omega), ?_⟩) | (rw [if_neg (by decide)]; refine ⟨by decide, by decide, ?_⟩) | (refine ⟨by decide, by decide, ?_⟩) | (refine ⟨fun zc => ?_, fun zc => ?_⟩ <;> try (exfalso; omega)) | fail)
    intro f2 k1 k2 k3
    simp only [ky_aft, ky_vl, Nat.reduceAdd]
    repeat' (first | (refine ky_ok_stp rfl ?_; simp (disch := first | omega | assumption) only [ky_stp, ky_inv, ky_ldi, ky_ldl, ky_ldd, ky_lda, ky_cl2, ky_st1, ky_st2, ky_s1i, ky_s2i, ky_s1l, ky_s2l, ky_sli, ky_s1f, ky_s2f, ky_s1d, ky_s2d, ky_sr, ky_sai, ky_sasi, ky_sasl, ky_sasr, ky_svr, ky_sv, ky_sv2, ky_s1, ky_cs, ky_pop, ky_nth, ky_snt, ky_obj, ky_ari, ky_arl, ky_arr, ky_arn, ky_fv, ky_rcv, List.map_cons, List.map_nil, List.drop_succ_cons, List.drop_zero, Value.category, Nat.reduceAdd, Nat.reduceSub, true_and, and_true, true_or, or_true, reduceCtorEq, ite_true, ite_false, eq_self, Nat.reduceEqDiff, Nat.reduceLeDiff, nI_add, nI_1, nI_leI, nI_ltI, nI_eq, nI_clamp, kz_m1, kz_mn, kz_mn2, kz_n0, kz_0n, kz_0, kz_le0, kz_0lt, false_implies, true_implies, not_false_eq_true, not_true_eq_false, Nat.zero_le, kb_0, kz_10, kz_of, ky_sw, kz_mx, kz_mi]) | (refine ⟨vp_in_nI (by omega) (by omega), ?_⟩) | (refine ⟨fun zc => ?_, fun zc => ?_⟩ <;> try (exfalso; omega)) | fail)
    have := hy p t w f2 hp ht hw rfl rfl rfl k1 (kfr_tr g3 k3 fun j hj => ⟨by unfold kNF; unfold kL7 at hj; omega, by unfold kDF; unfold kL7 at hj; omega⟩)
    rw [if_pos h0] at this; exact this
  · repeat' (first | ((refine kx128 h (fun _ => ?_) (fun z => absurd hx z); simp only [ky_aft, ky_vl, Nat.reduceAdd])) | ((refine kx128 h (fun _ => ?_) (fun z => absurd hyy z); simp only [ky_aft, ky_vl, Nat.reduceAdd])) | ((refine kx132 (lo := 0) (hi := 3) (by decide) (by decide) (fun _ => ?_) (fun z => absurd hv z); simp only [ky_aft, ky_vl, Nat.reduceAdd])) | (refine kx152 h hp ht hw ?_; simp only [ky_aft, ky_vl, Nat.reduceAdd]) | (refine ky_ok_stp rfl ?_; simp (disch := first | omega | assumption) only [ky_stp, ky_inv, ky_ldi, ky_ldl, ky_ldd, ky_lda, ky_cl2, ky_st1, ky_st2, ky_s1i, ky_s2i, ky_s1l, ky_s2l, ky_sli, ky_s1f, ky_s2f, ky_s1d, ky_s2d, ky_sr, ky_sai, ky_sasi, ky_sasl, ky_sasr, ky_svr, ky_sv, ky_sv2, ky_s1, ky_cs, ky_pop, ky_nth, ky_snt, ky_obj, ky_ari, ky_arl, ky_arr, ky_arn, ky_fv, ky_rcv, List.map_cons, List.map_nil, List.drop_succ_cons, List.drop_zero, Value.category, Nat.reduceAdd, Nat.reduceSub, true_and, and_true, true_or, or_true, reduceCtorEq, ite_true, ite_false, eq_self, Nat.reduceEqDiff, Nat.reduceLeDiff, nI_add, nI_1, nI_leI, nI_ltI, nI_eq, nI_clamp, kz_m1, kz_mn, kz_mn2, kz_n0, kz_0n, kz_0, kz_le0, kz_0lt, false_implies, true_implies, not_false_eq_true, not_true_eq_false, Nat.zero_le, kb_0, kz_10, kz_of, ky_sw, kz_mx, kz_mi, kh0, kh1, kh2, kh23, kh30, kh40, kh42, kh37, kh44, kh46, kh47, kh48, kh12, kh53, eq_false h0]) | (refine ⟨vp_in_nI (by omega) (by omega), ?_⟩) | (rw [if_neg (by decide)]; refine ⟨by decide, by decide, ?_⟩) | (refine ⟨by decide, by decide, ?_⟩) | (refine ⟨fun zc => ?_, fun zc => ?_⟩ <;> try (exfalso; omega)) | fail)
    have := hy p t w f hp ht hw rfl rfl rfl h kfr_rf
    rw [if_neg h0] at this; exact this
theorem kx153 {P : Nat → Int32} (h : kK a f s) (hp : p < s.o.n) (ht : t < s.o.n) (hw : w ≤ 3) (hP : f (a 56) = some (.inl (3, 61, .inl P)))
    (hN : ¬ kMR s.o p t w = 0 ∨ ¬ P (kKn s.o p t w) = 0 → Q (.inl (some (.int 0))) f) (hY : kMR s.o p t w = 0 → P (kKn s.o p t w) = 0 → ∀ f', kK a f' s → f' (a 56) = some (.inl (3, 61, .inl (upd P (kKn s.o p t w) 1))) → kfr a f f' (fun j => j = 56) → Q (.inl (some (.int 1))) f') : ky_cl adK 153 [.ref (a 0), .int (nI p), .int (nI t), .int (nI w)] f Q := by
  obtain ⟨kh0, kh1, kh2, kh23, kh30, kh40, kh42, ⟨_, kh37⟩, ⟨_, kh44⟩, ⟨_, kh46⟩, kh47, ⟨_, kh48⟩, ⟨_, kh12⟩, kh53⟩ := kK_hd h
  have hn := h.2.2.2.o.n60
  have ho := h.2.2.2.o
  obtain ⟨G, hW⟩ := h.2.1.z.1
  have e61 : (61 : Int32) = nI 61 := rfl
  refine ⟨Nat.le_of_ble_eq_true rfl, fun z => absurd z (by decide), ?_⟩; show ky_ok adK 153 0 [some (.ref (a 0)), some (.int (nI p)), some (.int (nI t)), some (.int (nI w)), none, none] [] f 0 0 _
  by_cases h0 : kMR s.o p t w = 0
  case neg =>
    repeat' (first | (refine kx152 h hp ht hw ?_; simp only [ky_aft, ky_vl, Nat.reduceAdd]) | (refine ky_ok_stp rfl ?_; simp (disch := first | omega | assumption) only [ky_stp, ky_inv, ky_ldi, ky_ldl, ky_ldd, ky_lda, ky_cl2, ky_st1, ky_st2, ky_s1i, ky_s2i, ky_s1l, ky_s2l, ky_sli, ky_s1f, ky_s2f, ky_s1d, ky_s2d, ky_sr, ky_sai, ky_sasi, ky_sasl, ky_sasr, ky_svr, ky_sv, ky_sv2, ky_s1, ky_cs, ky_pop, ky_nth, ky_snt, ky_obj, ky_ari, ky_arl, ky_arr, ky_arn, ky_fv, ky_rcv, List.map_cons, List.map_nil, List.drop_succ_cons, List.drop_zero, Value.category, Nat.reduceAdd, Nat.reduceSub, true_and, and_true, true_or, or_true, reduceCtorEq, ite_true, ite_false, eq_self, Nat.reduceEqDiff, Nat.reduceLeDiff, nI_add, nI_1, nI_leI, nI_ltI, nI_eq, nI_clamp, kz_m1, kz_mn, kz_mn2, kz_n0, kz_0n, kz_0, kz_le0, kz_0lt, false_implies, true_implies, not_false_eq_true, not_true_eq_false, Nat.zero_le, kb_0, kz_10, kz_of, ky_sw, kz_mx, kz_mi, kh0, kh1, kh2, kh23, kh30, kh40, kh42, kh37, kh44, kh46, kh47, kh48, kh12, kh53, eq_false h0]) | (refine ⟨vp_in_nI (by omega) (by omega), ?_⟩) | (refine ⟨fun zc => ?_, fun zc => ?_⟩ <;> try (exfalso; omega)) | fail)
    exact hN (Or.inl h0)
  obtain ⟨hd, -⟩ := kMR_0 ho hp ht h0
  obtain ⟨hto, hton⟩ := kMR_to (w := w) ho hp ht hd
  have hE := kEnd_le hp
  have hkn : kKn s.o p t w ≤ s.o.n := by unfold kKn; split <;> omega
  have hq1 : kK a (ky_up f (a 56) (.inl (3, 61, .inl (upd P (kKn s.o p t w) 1)))) s := by
    obtain ⟨b1, b2, b3, b4⟩ := h
    have hF : kfr a f (ky_up f (a 56) (.inl (3, 61, .inl (upd P (kKn s.o p t w) 1)))) (fun j => j = 56) := kfr_up b1 kfr_rf rfl
    exact ⟨b1, kK1_fr b2 fun j hj => hF j (by unfold ksc at hj; omega), kK2_fr b3 hF (.inl fun j _ _ => by omega) (.inl fun j _ _ => by omega) (.inl fun j _ _ => by omega) (.inl ⟨by omega, by omega⟩) (.inl (by omega)) (.inl fun j _ _ => by omega) (.inl (by omega)) (.inl (by omega)) (.inr ⟨_, kz_same⟩), b4⟩
  have hY := fun g => hY h0 g _ hq1 kz_same (kfr_up h.1 kfr_rf rfl)
  have hN := fun g => hN (Or.inr g)
  have nb1 : ky_nb 3 1 = 1 := by decide
  unfold kKn at hkn hY hN
  by_cases e : kTo2 s.o t w = kEnd s.o p
  · rw [if_pos e] at hkn hY hN
    by_cases hP0 : P p = 0
    · repeat' (first | (refine kx152 h hp ht hw ?_; simp only [ky_aft, ky_vl, Nat.reduceAdd]) | ((refine kx41 (j := t + 1) hW.1 hn ht (nI_pred t).symm hw (fun z => by omega) ?_; show ky_aft _ _ _ _ _ _ _ _ _ (.inl (some (.int (nI (kTo2 s.o t w))))) f; simp only [ky_aft, ky_vl, Nat.reduceAdd])) | ((refine kx32 (j := p + 1) hW.1 hn hp (nI_pred p).symm ?_; show ky_aft _ _ _ _ _ _ _ _ _ (.inl (some (.int (nI (kEnd s.o p))))) f; simp only [ky_aft, ky_vl, Nat.reduceAdd])) | (refine ky_ok_stp rfl ?_; simp (disch := first | omega | assumption) only [ky_stp, ky_inv, ky_ldi, ky_ldl, ky_ldd, ky_lda, ky_cl2, ky_st1, ky_st2, ky_s1i, ky_s2i, ky_s1l, ky_s2l, ky_sli, ky_s1f, ky_s2f, ky_s1d, ky_s2d, ky_sr, ky_sai, ky_sasi, ky_sasl, ky_sasr, ky_svr, ky_sv, ky_sv2, ky_s1, ky_cs, ky_pop, ky_nth, ky_snt, ky_obj, ky_ari, ky_arl, ky_arr, ky_arn, ky_fv, ky_rcv, List.map_cons, List.map_nil, List.drop_succ_cons, List.drop_zero, Value.category, Nat.reduceAdd, Nat.reduceSub, true_and, and_true, true_or, or_true, reduceCtorEq, ite_true, ite_false, eq_self, Nat.reduceEqDiff, Nat.reduceLeDiff, nI_add, nI_1, nI_leI, nI_ltI, nI_eq, nI_clamp, kz_m1, kz_mn, kz_mn2, kz_n0, kz_0n, kz_0, kz_le0, kz_0lt, false_implies, true_implies, not_false_eq_true, not_true_eq_false, Nat.zero_le, kb_0, kz_10, kz_of, ky_sw, kz_mx, kz_mi, kh0, kh1, kh2, kh23, kh30, kh40, kh42, kh37, kh44, kh46, kh47, kh48, kh12, kh53, eq_true h0, e, hP, kz_of, hP0, nb1, e61]) | (refine ⟨vp_in_nI (by omega) (by omega), ?_⟩) | (refine ⟨fun zc => ?_, fun zc => ?_⟩ <;> try (exfalso; omega)) | fail)
      exact hY hP0
    · repeat' (first | (refine kx152 h hp ht hw ?_; simp only [ky_aft, ky_vl, Nat.reduceAdd]) | ((refine kx41 (j := t + 1) hW.1 hn ht (nI_pred t).symm hw (fun z => by omega) ?_; show ky_aft _ _ _ _ _ _ _ _ _ (.inl (some (.int (nI (kTo2 s.o t w))))) f; simp only [ky_aft, ky_vl, Nat.reduceAdd])) | ((refine kx32 (j := p + 1) hW.1 hn hp (nI_pred p).symm ?_; show ky_aft _ _ _ _ _ _ _ _ _ (.inl (some (.int (nI (kEnd s.o p))))) f; simp only [ky_aft, ky_vl, Nat.reduceAdd])) | (refine ky_ok_stp rfl ?_; simp (disch := first | omega | assumption) only [ky_stp, ky_inv, ky_ldi, ky_ldl, ky_ldd, ky_lda, ky_cl2, ky_st1, ky_st2, ky_s1i, ky_s2i, ky_s1l, ky_s2l, ky_sli, ky_s1f, ky_s2f, ky_s1d, ky_s2d, ky_sr, ky_sai, ky_sasi, ky_sasl, ky_sasr, ky_svr, ky_sv, ky_sv2, ky_s1, ky_cs, ky_pop, ky_nth, ky_snt, ky_obj, ky_ari, ky_arl, ky_arr, ky_arn, ky_fv, ky_rcv, List.map_cons, List.map_nil, List.drop_succ_cons, List.drop_zero, Value.category, Nat.reduceAdd, Nat.reduceSub, true_and, and_true, true_or, or_true, reduceCtorEq, ite_true, ite_false, eq_self, Nat.reduceEqDiff, Nat.reduceLeDiff, nI_add, nI_1, nI_leI, nI_ltI, nI_eq, nI_clamp, kz_m1, kz_mn, kz_mn2, kz_n0, kz_0n, kz_0, kz_le0, kz_0lt, false_implies, true_implies, not_false_eq_true, not_true_eq_false, Nat.zero_le, kb_0, kz_10, kz_of, ky_sw, kz_mx, kz_mi, kh0, kh1, kh2, kh23, kh30, kh40, kh42, kh37, kh44, kh46, kh47, kh48, kh12, kh53, eq_true h0, e, hP, kz_of, eq_false hP0, nb1, e61]) | (refine ⟨vp_in_nI (by omega) (by omega), ?_⟩) | (refine ⟨fun zc => ?_, fun zc => ?_⟩ <;> try (exfalso; omega)) | fail)
      exact hN hP0
  · rw [if_neg e] at hkn hY hN
    have e' : (nI (kTo2 s.o t w) = nI (kEnd s.o p)) = False := by rw [nI_eq (by omega) (by omega)]; exact eq_false e
    by_cases hP0 : P (kTo2 s.o t w) = 0
    · repeat' (first | (refine kx152 h hp ht hw ?_; simp only [ky_aft, ky_vl, Nat.reduceAdd]) | ((refine kx41 (j := t + 1) hW.1 hn ht (nI_pred t).symm hw (fun z => by omega) ?_; show ky_aft _ _ _ _ _ _ _ _ _ (.inl (some (.int (nI (kTo2 s.o t w))))) f; simp only [ky_aft, ky_vl, Nat.reduceAdd])) | ((refine kx32 (j := p + 1) hW.1 hn hp (nI_pred p).symm ?_; show ky_aft _ _ _ _ _ _ _ _ _ (.inl (some (.int (nI (kEnd s.o p))))) f; simp only [ky_aft, ky_vl, Nat.reduceAdd])) | (refine ky_ok_stp rfl ?_; simp (disch := first | omega | assumption) only [ky_stp, ky_inv, ky_ldi, ky_ldl, ky_ldd, ky_lda, ky_cl2, ky_st1, ky_st2, ky_s1i, ky_s2i, ky_s1l, ky_s2l, ky_sli, ky_s1f, ky_s2f, ky_s1d, ky_s2d, ky_sr, ky_sai, ky_sasi, ky_sasl, ky_sasr, ky_svr, ky_sv, ky_sv2, ky_s1, ky_cs, ky_pop, ky_nth, ky_snt, ky_obj, ky_ari, ky_arl, ky_arr, ky_arn, ky_fv, ky_rcv, List.map_cons, List.map_nil, List.drop_succ_cons, List.drop_zero, Value.category, Nat.reduceAdd, Nat.reduceSub, true_and, and_true, true_or, or_true, reduceCtorEq, ite_true, ite_false, eq_self, Nat.reduceEqDiff, Nat.reduceLeDiff, nI_add, nI_1, nI_leI, nI_ltI, nI_eq, nI_clamp, kz_m1, kz_mn, kz_mn2, kz_n0, kz_0n, kz_0, kz_le0, kz_0lt, false_implies, true_implies, not_false_eq_true, not_true_eq_false, Nat.zero_le, kb_0, kz_10, kz_of, ky_sw, kz_mx, kz_mi, kh0, kh1, kh2, kh23, kh30, kh40, kh42, kh37, kh44, kh46, kh47, kh48, kh12, kh53, eq_true h0, e', hP, kz_of, hP0, nb1, e61]) | (refine ⟨vp_in_nI (by omega) (by omega), ?_⟩) | (refine ⟨fun zc => ?_, fun zc => ?_⟩ <;> try (exfalso; omega)) | fail)
      exact hY hP0
    · repeat' (first | (refine kx152 h hp ht hw ?_; simp only [ky_aft, ky_vl, Nat.reduceAdd]) | ((refine kx41 (j := t + 1) hW.1 hn ht (nI_pred t).symm hw (fun z => by omega) ?_; show ky_aft _ _ _ _ _ _ _ _ _ (.inl (some (.int (nI (kTo2 s.o t w))))) f; simp only [ky_aft, ky_vl, Nat.reduceAdd])) | ((refine kx32 (j := p + 1) hW.1 hn hp (nI_pred p).symm ?_; show ky_aft _ _ _ _ _ _ _ _ _ (.inl (some (.int (nI (kEnd s.o p))))) f; simp only [ky_aft, ky_vl, Nat.reduceAdd])) | (refine ky_ok_stp rfl ?_; simp (disch := first | omega | assumption) only [ky_stp, ky_inv, ky_ldi, ky_ldl, ky_ldd, ky_lda, ky_cl2, ky_st1, ky_st2, ky_s1i, ky_s2i, ky_s1l, ky_s2l, ky_sli, ky_s1f, ky_s2f, ky_s1d, ky_s2d, ky_sr, ky_sai, ky_sasi, ky_sasl, ky_sasr, ky_svr, ky_sv, ky_sv2, ky_s1, ky_cs, ky_pop, ky_nth, ky_snt, ky_obj, ky_ari, ky_arl, ky_arr, ky_arn, ky_fv, ky_rcv, List.map_cons, List.map_nil, List.drop_succ_cons, List.drop_zero, Value.category, Nat.reduceAdd, Nat.reduceSub, true_and, and_true, true_or, or_true, reduceCtorEq, ite_true, ite_false, eq_self, Nat.reduceEqDiff, Nat.reduceLeDiff, nI_add, nI_1, nI_leI, nI_ltI, nI_eq, nI_clamp, kz_m1, kz_mn, kz_mn2, kz_n0, kz_0n, kz_0, kz_le0, kz_0lt, false_implies, true_implies, not_false_eq_true, not_true_eq_false, Nat.zero_le, kb_0, kz_10, kz_of, ky_sw, kz_mx, kz_mi, kh0, kh1, kh2, kh23, kh30, kh40, kh42, kh37, kh44, kh46, kh47, kh48, kh12, kh53, eq_true h0, e', hP, kz_of, eq_false hP0, nb1, e61]) | (refine ⟨vp_in_nI (by omega) (by omega), ?_⟩) | (refine ⟨fun zc => ?_, fun zc => ?_⟩ <;> try (exfalso; omega)) | fail)
      exact hN hP0
end KXP
