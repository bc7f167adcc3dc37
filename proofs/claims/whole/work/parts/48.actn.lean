/-! ## acts: more methods -/
def kRef (s : kSt) (k : Nat) : kSt := s.setA (upd s.ac k (s.ac k + 1))
/-- what an act makes: its answer, the state -/
def kTm (s : kSt) (p : Nat) : Int32 × kSt := (nI (kEnd s.o p - p), (kBeg s).setO (kRmz s.o p))
def kTd (s : kSt) (p : Nat) : Int32 × kSt := (nI (s.o.n - 1), (kBeg s).setO (kDsz s.o p))
def kTv' (s : kSt) (p t w : Nat) : Int32 × kSt := if kMR s.o p t w = 0 then (nI (if kTo2 s.o t w ≤ p then kTo2 s.o t w else kTo2 s.o t w - (kEnd s.o p - p)), (kBeg s).setO (kMz s.o p t w)) else (-(kMR s.o p t w), kRef s (kMR s.o p t w).toNatClampNeg)
def kTp (s : kSt) (p : Nat) : Int32 × kSt := if kV s.o.R p = 1 then (-(nI 4), kRef s 4) else (nI (kV s.o.R p - 1), (kBeg s).setO (kShz s.o p (-1)))
def kTe' (s : kSt) (p : Nat) : Int32 × kSt := if kSb (kL s.o.R) (kL s.o.R p) p 0 = 0 then (-(nI 5), kRef s 5) else if 6 ≤ kG (kL s.o.R) p (kEnd s.o p - p) 0 then (-(nI 1), kRef s 1) else (nI (kV s.o.R p + 1), (kBeg s).setO (kShz s.o p 1))
/-- flags -/
def kFdz (z : kZ) (p : Nat) (b : Int32) : kZ := ⟨z.n, kru z.R p ((z.R p).1, (z.R p).2.1, (z.R p).2.2.1, b), z.S⟩
def kPnz (z : kZ) (p : Nat) (b : Int32) : kZ := ⟨z.n, kru z.R p ((z.R p).1, (z.R p).2.1, b, (z.R p).2.2.2), z.S⟩
def kTf (s : kSt) (p : Nat) (b : Int32) : Int32 × kSt := if kFo s.o.R p = b then (-(nI 7), kRef s 7) else if ¬ b = 0 ∧ ¬ p + 1 < kEnd s.o p then (-(nI 6), kRef s 6) else (nI (kVl (kFdz s.o p b)).length, (kBeg s).setO (kFdz s.o p b))
theorem kZo_lw {z : kZ} (h : kZo z) {R : Nat → kR} (hm : ∀ j, j < z.n → (R j).1 = (z.R j).1 ∧ (R j).2.1 = (z.R j).2.1) (hf : ∀ j, j < z.n → k01 (kPl R j) ∧ k01 (kFo R j)) : kZo ⟨z.n, R, z.S⟩ := by
  refine kZo_mk h (V := kV z.R) h.n60 (fun j hj => ?_) (kZo_ov h) (fun j hj => ?_) hf
  · show (R j).2.1 = _
    rw [(hm j hj).2]; exact (h.lv j hj).1
  · obtain ⟨w, w1, w2⟩ := h.wd j hj
    exact ⟨w, (hm j hj).1.trans w1, w2⟩
theorem kFdz_ok {z : kZ} (h : kZo z) {p : Nat} {b : Int32} (hb : k01 b) : kZo (kFdz z p b) := by
  refine kZo_lw h (fun j hj => ?_) fun j hj => ?_
  · by_cases e : j = p
    · subst e; rw [kru_s]; exact ⟨rfl, rfl⟩
    · rw [kru_o _ _ e]; exact ⟨rfl, rfl⟩
  · have := h.fl j hj
    unfold kPl kFo at this ⊢
    by_cases e : j = p
    · subst e; rw [kru_s]; exact ⟨this.1, hb⟩
    · rw [kru_o _ _ e]; exact this
theorem kPnz_ok {z : kZ} (h : kZo z) {p : Nat} {b : Int32} (hb : k01 b) : kZo (kPnz z p b) := by
  refine kZo_lw h (fun j hj => ?_) fun j hj => ?_
  · by_cases e : j = p
    · subst e; rw [kru_s]; exact ⟨rfl, rfl⟩
    · rw [kru_o _ _ e]; exact ⟨rfl, rfl⟩
  · have := h.fl j hj
    unfold kPl kFo at this ⊢
    by_cases e : j = p
    · subst e; rw [kru_s]; exact ⟨hb, this.2⟩
    · rw [kru_o _ _ e]; exact this
theorem kVs_e {L L' F F' : Nat → Int32} : ∀ m g i l, (∀ j, i ≤ j → j < i + m → L' j = L j ∧ F' j = F j) → kVs L' F' g i m l = kVs L F g i m l
  | 0, _, _, _, _ => rfl
  | m + 1, g, i, l, h => by
    obtain ⟨e1, e2⟩ := h i (Nat.le_refl _) (by omega)
    rw [kVs, kVs, e1, e2]
    split
    · exact kVs_e m _ (i + 1) _ fun j z1 z2 => h j (by omega) (by omega)
    · exact kVs_e m _ (i + 1) _ fun j z1 z2 => h j (by omega) (by omega)
theorem kVl_e {z z' : kZ} (h : kZe z z') : kVl z' = kVl z := by
  unfold kVl
  rw [h.1]
  exact kVs_e _ _ _ _ fun j z1 z2 => by unfold kL kFo; rw [h.2.1 j (by omega)]; exact ⟨rfl, rfl⟩
theorem kE_e {L L' : Nat → Int32} {lv : Int32} : ∀ m i, (∀ j, i ≤ j → j < i + m → L' j = L j) → kE L' lv i m = kE L lv i m
  | 0, _, _ => rfl
  | m + 1, i, h => by
    rw [kE, kE, h i (Nat.le_refl _) (by omega)]
    split
    · exact kE_e m (i + 1) fun j z1 z2 => h j (by omega) (by omega)
    · rfl
theorem kZe_L {z z' : kZ} (h : kZe z z') {i : Nat} (hi : i < z.n) : kL z'.R i = kL z.R i := by unfold kL; rw [h.2.1 i hi]
theorem kEnd_e {z z' : kZ} (h : kZe z z') {p : Nat} (hp : p < z.n) : kEnd z' p = kEnd z p := by
  unfold kEnd
  rw [h.1, kZe_L h hp]
  exact kE_e _ _ fun j z1 z2 => kZe_L h (by omega)
theorem kTo2_f {z z' : kZ} (h : kZe z z') {t w : Nat} (ht : t < z.n) : kTo2 z' t w = kTo2 z t w := by
  rw [kTo2_e, kTo2_e, kEnd_e h ht]
theorem kLB_f {z z' : kZ} (h : kZe z z') {t w : Nat} (ht : t < z.n) : kLB (kL z'.R) (t + 1) w = kLB (kL z.R) (t + 1) w := by
  unfold kLB
  show (if w = 0 ∨ w = 1 then kL z'.R t else kL z'.R t + 1) = (if w = 0 ∨ w = 1 then kL z.R t else kL z.R t + 1)
  rw [kZe_L h ht]
theorem kSq_tr {S S' S'' : Nat → Nat → Int32} {l : Nat} (h : kSq S' S l) (h' : kSq S'' S' l) : kSq S'' S l := ⟨h'.1.trans h.1, h'.2.1.trans h.2.1, h'.2.2.1.trans h.2.2.1, h'.2.2.2.trans h.2.2.2⟩
theorem kAct_fin2 {a a' : Nat → Nat} {f f1 f2 : ky_H} {s : kSt} {z' wm w : kZ} (hK : kK a' f1 (kBeg' s z')) (hA : kAl a f a' f1 kBF) (he : kZe s.o z') (hF : kfr a' f1 f2 (kBl 1)) (hZ : kZb a' 1 f2 w) (hm : kZe wm w) (hwo : kZo wm) : ∃ s', kSe ((kBeg s).setO wm) s' ∧ kK a' f2 s' ∧ kAl a f a' f2 kL7 := by
  refine ⟨(kBeg' s z').setO w, kAct_e he hm, kK_o hK hF hZ (kZo_e hm hwo), kAl_tr hA (kAl_fr hK.1 hF) fun j hj => ⟨fun w => hj (by unfold kBF kHF at w; unfold kL7; omega), fun w => hj (by unfold kBl at w; unfold kL7; omega)⟩⟩
theorem kMR_v (z : kZ) (p t w : Nat) : kMR z p t w = 0 ∨ kMR z p t w = nI 1 ∨ kMR z p t w = nI 2 := by
  unfold kMR
  split
  · exact Or.inr (Or.inr rfl)
  · split
    · exact Or.inr (Or.inl rfl)
    · exact Or.inl rfl
section KXA
variable {adK a : Nat → Nat} {f : ky_H} {s : kSt} {Q : ky_Q} {x y v : Int32} {p t w i e l j k : Nat}
theorem kRef_al {a : Nat → Nat} {f f' : ky_H} (ha : kI a) (hF : kfr a f f' (fun j => j = 53)) : kAl a f a f' kL7 := kAl_fr ha fun j hj => hF j (by unfold kL7 at hj; omega)
theorem kx159 (h : kK a f s) (hp : p < s.o.n) (hQ : ∀ a' f' s', kSe (kTd s p).2 s' → kK a' f' s' → kAl a f a' f' kL7 → Q (.inl (some (.int (kTd s p).1))) f') : ky_cl adK 159 [.ref (a 0), .int (nI p)] f Q := by
  obtain ⟨kh0, kh1, kh2, kh23, kh30, kh40, kh42, ⟨_, kh37⟩, ⟨_, kh44⟩, ⟨_, kh46⟩, kh47, ⟨_, kh48⟩, ⟨_, kh12⟩, kh53⟩ := kK_hd h
  have ho := h.2.2.2.o
  have hn := ho.n60
  obtain ⟨G, hW⟩ := h.2.1.z.1
  have hE := kEnd_le hp
  refine ⟨Nat.le_of_ble_eq_true rfl, fun z => absurd z (by decide), ?_⟩; show ky_ok adK 159 0 [some (.ref (a 0)), some (.int (nI p)), none, none] [] f 0 0 _
  repeat' (first | ((refine kx32 (j := p + 1) hW.1 hn hp (nI_pred p).symm ?_; show ky_aft _ _ _ _ _ _ _ _ _ (.inl (some (.int (nI (kEnd s.o p))))) _; simp only [ky_aft, ky_vl, Nat.reduceAdd])) | (refine kx156 h ?_) | (refine ky_ok_stp rfl ?_; simp (disch := first | omega | assumption) only [ky_stp, ky_inv, ky_ldi, ky_ldl, ky_ldd, ky_lda, ky_cl2, ky_st1, ky_st2, ky_s1i, ky_s2i, ky_s1l, ky_s2l, ky_sli, ky_s1f, ky_s2f, ky_s1d, ky_s2d, ky_sr, ky_sai, ky_sasi, ky_sasl, ky_sasr, ky_svr, ky_sv, ky_sv2, ky_s1, ky_cs, ky_pop, ky_nth, ky_snt, ky_obj, ky_ari, ky_arl, ky_arr, ky_arn, ky_fv, ky_rcv, List.map_cons, List.map_nil, List.drop_succ_cons, List.drop_zero, Value.category, Nat.reduceAdd, Nat.reduceSub, true_and, and_true, true_or, or_true, reduceCtorEq, ite_true, ite_false, eq_self, Nat.reduceEqDiff, Nat.reduceLeDiff, nI_add, nI_1, nI_leI, nI_ltI, nI_eq, nI_clamp, kz_m1, kz_mn, kz_mn2, kz_n0, kz_0n, kz_0, kz_le0, kz_0lt, false_implies, true_implies, not_false_eq_true, not_true_eq_false, Nat.zero_le, kb_0, kz_10, kz_of, ky_sw, kz_mx, kz_mi, kh0, kh1, kh2, kh23, kh30, kh40, kh42, kh37, kh44, kh46, kh47, kh48, kh12, kh53]) | (refine ⟨vp_in_nI (by omega) (by omega), ?_⟩) | (rw [if_neg (by decide)]; refine ⟨by decide, by decide, ?_⟩) | (refine ⟨by decide, by decide, ?_⟩) | (refine ⟨fun zc => ?_, fun zc => ?_⟩ <;> try (exfalso; omega)) | fail)
  intro a' f1 z' B hA hB1 hB2 he hzB h1
  simp only [ky_aft, ky_vl, Nat.reduceAdd]
  have e0 : a' 0 = a 0 := hA.2.2
  rw [← e0]
  obtain ⟨kh0, kh1, kh2, kh23, kh30, kh40, kh42, ⟨_, kh37⟩, ⟨_, kh44⟩, ⟨_, kh46⟩, kh47, ⟨_, kh48⟩, ⟨_, kh12⟩, kh53⟩ := kK_hd h1
  obtain ⟨G1, hW1⟩ := h1.2.1.z.1
  obtain ⟨⟨GB, hWB⟩, hSB⟩ := hzB
  have hzn : z'.n = s.o.n := he.1
  have yB := kW_lv hWB
  repeat' (first | (refine kx50 (k := 1) (k2 := B) (s := 0) h1.1 (by omega) hW1 hWB (by omega) (Nat.zero_le _) (by omega) ?_) | (refine ky_ok_stp rfl ?_; simp (disch := first | omega | assumption) only [ky_stp, ky_inv, ky_ldi, ky_ldl, ky_ldd, ky_lda, ky_cl2, ky_st1, ky_st2, ky_s1i, ky_s2i, ky_s1l, ky_s2l, ky_sli, ky_s1f, ky_s2f, ky_s1d, ky_s2d, ky_sr, ky_sai, ky_sasi, ky_sasl, ky_sasr, ky_svr, ky_sv, ky_sv2, ky_s1, ky_cs, ky_pop, ky_nth, ky_snt, ky_obj, ky_ari, ky_arl, ky_arr, ky_arn, ky_fv, ky_rcv, List.map_cons, List.map_nil, List.drop_succ_cons, List.drop_zero, Value.category, Nat.reduceAdd, Nat.reduceSub, true_and, and_true, true_or, or_true, reduceCtorEq, ite_true, ite_false, eq_self, Nat.reduceEqDiff, Nat.reduceLeDiff, nI_add, nI_1, nI_leI, nI_ltI, nI_eq, nI_clamp, kz_m1, kz_mn, kz_mn2, kz_n0, kz_0n, kz_0, kz_le0, kz_0lt, false_implies, true_implies, not_false_eq_true, not_true_eq_false, Nat.zero_le, kb_0, kz_10, kz_of, ky_sw, kz_mx, kz_mi, kh0, kh1, kh2, kh23, kh30, kh40, kh42, kh37, kh44, kh46, kh47, kh48, kh12, kh53, yB]) | (refine ⟨vp_in_nI (by omega) (by omega), ?_⟩) | (rw [if_neg (by decide)]; refine ⟨by decide, by decide, ?_⟩) | (refine ⟨by decide, by decide, ?_⟩) | (refine ⟨fun zc => ?_, fun zc => ?_⟩ <;> try (exfalso; omega)) | fail)
  intro f2 R2 G2 hW2 hF2 hR2
  simp only [ky_aft, ky_vl, Nat.reduceAdd]
  have kh0' : f2 (a' 0) = _ := (hF2 0 (by unfold kRB; omega)).trans kh0
  have y1 := kW_lv hW2
  have hWB2 : kW a' B f2 z'.n z'.R GB := kW_fr hWB fun j z1 z2 => hF2 j (by unfold kRB; omega)
  have yB2 := kW_lv hWB2
  repeat' (first | (refine kx49 (k := 1) (k2 := B) h1.1 (by omega) hW2 hWB2 (by omega) (show p + 1 ≤ z'.n by omega) (Nat.le_refl _) (by omega) ?_) | (refine ky_ok_stp rfl ?_; simp (disch := first | omega | assumption) only [ky_stp, ky_inv, ky_ldi, ky_ldl, ky_ldd, ky_lda, ky_cl2, ky_st1, ky_st2, ky_s1i, ky_s2i, ky_s1l, ky_s2l, ky_sli, ky_s1f, ky_s2f, ky_s1d, ky_s2d, ky_sr, ky_sai, ky_sasi, ky_sasl, ky_sasr, ky_svr, ky_sv, ky_sv2, ky_s1, ky_cs, ky_pop, ky_nth, ky_snt, ky_obj, ky_ari, ky_arl, ky_arr, ky_arn, ky_fv, ky_rcv, List.map_cons, List.map_nil, List.drop_succ_cons, List.drop_zero, Value.category, Nat.reduceAdd, Nat.reduceSub, true_and, and_true, true_or, or_true, reduceCtorEq, ite_true, ite_false, eq_self, Nat.reduceEqDiff, Nat.reduceLeDiff, nI_add, nI_1, nI_leI, nI_ltI, nI_eq, nI_clamp, kz_m1, kz_mn, kz_mn2, kz_n0, kz_0n, kz_0, kz_le0, kz_0lt, false_implies, true_implies, not_false_eq_true, not_true_eq_false, Nat.zero_le, kb_0, kz_10, kz_of, ky_sw, kz_mx, kz_mi, kh0', y1, yB2]) | (refine ⟨vp_in_nI (by omega) (by omega), ?_⟩) | (rw [if_neg (by decide)]; refine ⟨by decide, by decide, ?_⟩) | (refine ⟨by decide, by decide, ?_⟩) | (refine ⟨fun zc => ?_, fun zc => ?_⟩ <;> try (exfalso; omega)) | fail)
  intro f3 R3 G3 hW3 hF3 hR3 hR3'
  simp only [ky_aft, ky_vl, Nat.reduceAdd]
  have hnn : p - 0 + (z'.n - (p + 1)) = s.o.n - 1 := by omega
  rw [hnn] at hW3 hR3'
  have kh0'' : f3 (a' 0) = _ := (hF3 0 (by unfold kRB; omega)).trans kh0'
  have y3 := kW_lv hW3
  have e5 := nI_sub (a := kEnd s.o p) (b := 1) (by omega)
  repeat' (first | (refine kx47 (k := 1) (s := p) (e := kEnd s.o p - 1) (d := -1) h1.1 hW3 (by omega) (by omega) (by omega) ?_) | (refine ky_ok_stp rfl ?_; simp (disch := first | omega | assumption) only [ky_stp, ky_inv, ky_ldi, ky_ldl, ky_ldd, ky_lda, ky_cl2, ky_st1, ky_st2, ky_s1i, ky_s2i, ky_s1l, ky_s2l, ky_sli, ky_s1f, ky_s2f, ky_s1d, ky_s2d, ky_sr, ky_sai, ky_sasi, ky_sasl, ky_sasr, ky_svr, ky_sv, ky_sv2, ky_s1, ky_cs, ky_pop, ky_nth, ky_snt, ky_obj, ky_ari, ky_arl, ky_arr, ky_arn, ky_fv, ky_rcv, List.map_cons, List.map_nil, List.drop_succ_cons, List.drop_zero, Value.category, Nat.reduceAdd, Nat.reduceSub, true_and, and_true, true_or, or_true, reduceCtorEq, ite_true, ite_false, eq_self, Nat.reduceEqDiff, Nat.reduceLeDiff, nI_add, nI_1, nI_leI, nI_ltI, nI_eq, nI_clamp, kz_m1, kz_mn, kz_mn2, kz_n0, kz_0n, kz_0, kz_le0, kz_0lt, false_implies, true_implies, not_false_eq_true, not_true_eq_false, Nat.zero_le, kb_0, kz_10, kz_of, ky_sw, kz_mx, kz_mi, kh0'', y3, kz_1, e5]) | (refine ⟨vp_in_nI (by omega) (by omega), ?_⟩) | (rw [if_neg (by decide)]; refine ⟨by decide, by decide, ?_⟩) | (refine ⟨by decide, by decide, ?_⟩) | (refine ⟨fun zc => ?_, fun zc => ?_⟩ <;> try (exfalso; omega)) | fail)
  intro f4 R4 hW4 hF4 hR4
  simp only [ky_aft, ky_vl, Nat.reduceAdd]
  have kh4 : f4 (a' 0) = _ := (hF4 0 (by unfold kRB; omega)).trans kh0''
  have y4 := kW_lv hW4
  repeat' (first | (refine ky_ok_stp rfl ?_; simp (disch := first | omega | assumption) only [ky_stp, ky_inv, ky_ldi, ky_ldl, ky_ldd, ky_lda, ky_cl2, ky_st1, ky_st2, ky_s1i, ky_s2i, ky_s1l, ky_s2l, ky_sli, ky_s1f, ky_s2f, ky_s1d, ky_s2d, ky_sr, ky_sai, ky_sasi, ky_sasl, ky_sasr, ky_svr, ky_sv, ky_sv2, ky_s1, ky_cs, ky_pop, ky_nth, ky_snt, ky_obj, ky_ari, ky_arl, ky_arr, ky_arn, ky_fv, ky_rcv, List.map_cons, List.map_nil, List.drop_succ_cons, List.drop_zero, Value.category, Nat.reduceAdd, Nat.reduceSub, true_and, and_true, true_or, or_true, reduceCtorEq, ite_true, ite_false, eq_self, Nat.reduceEqDiff, Nat.reduceLeDiff, nI_add, nI_1, nI_leI, nI_ltI, nI_eq, nI_clamp, kz_m1, kz_mn, kz_mn2, kz_n0, kz_0n, kz_0, kz_le0, kz_0lt, false_implies, true_implies, not_false_eq_true, not_true_eq_false, Nat.zero_le, kb_0, kz_10, kz_of, ky_sw, kz_mx, kz_mi, kh4, y4]) | (refine ⟨vp_in_nI (by omega) (by omega), ?_⟩) | (rw [if_neg (by decide)]; refine ⟨by decide, by decide, ?_⟩) | (refine ⟨by decide, by decide, ?_⟩) | (refine ⟨fun zc => ?_, fun zc => ?_⟩ <;> try (exfalso; omega)) | fail)
  have hm : kZe (kDsz s.o p) ⟨s.o.n - 1, R4, s.o.S⟩ := by
    refine ⟨rfl, fun i hi => ?_, fun _ _ _ => ⟨rfl, rfl, rfl, rfl⟩⟩
    have hi' : i < s.o.n - 1 := hi
    show R4 i = if i < p then s.o.R i else if i + 1 < kEnd s.o p then ksh (-1) (s.o.R (i + 1)) else s.o.R (i + 1)
    rw [hR4 i hi']
    by_cases e : i < p
    · rw [if_pos e, if_neg (by omega), (hR3 i (by omega)).1, (hR2 i i (by omega) (by omega)).1]
      exact he.2.1 i (by omega)
    · rw [if_neg e, (hR3' (i + 1) i (by omega) (by omega) (by omega)).1]
      have e7 := he.2.1 (i + 1) (by omega)
      by_cases e2 : i + 1 < kEnd s.o p
      · rw [if_pos e2, if_pos (by omega), e7]
      · rw [if_neg e2, if_neg (by omega), e7]
  obtain ⟨s', q1, q2, q3⟩ := kAct_fin ho h1 hA he (kfr_tr (kfr_tr hF2 hF3 (T := kRB 1) fun j hj => ⟨hj, hj⟩) hF4 (T := kRB 1) fun j hj => ⟨hj, hj⟩) hW4 hm (kDsz_ok ho hp)
  exact hQ a' f4 s' q1 q2 q3
theorem kx160 (h : kK a f s) (hp : p < s.o.n) (ht : t < s.o.n) (hw : w ≤ 3) (hQ : ∀ a' f' s', kSe (kTv' s p t w).2 s' → kK a' f' s' → kAl a f a' f' kL7 → Q (.inl (some (.int (kTv' s p t w).1))) f') : ky_cl adK 160 [.ref (a 0), .int (nI p), .int (nI t), .int (nI w)] f Q := by
  obtain ⟨kh0, kh1, kh2, kh23, kh30, kh40, kh42, ⟨_, kh37⟩, ⟨_, kh44⟩, ⟨_, kh46⟩, kh47, ⟨_, kh48⟩, ⟨_, kh12⟩, kh53⟩ := kK_hd h
  have ho := h.2.2.2.o
  have hn := ho.n60
  obtain ⟨G, hW⟩ := h.2.1.z.1
  have hE := kEnd_le hp
  unfold kTv' at hQ
  refine ⟨Nat.le_of_ble_eq_true rfl, fun z => absurd z (by decide), ?_⟩; show ky_ok adK 160 0 [some (.ref (a 0)), some (.int (nI p)), some (.int (nI t)), some (.int (nI w)), none, none] [] f 0 0 _
  by_cases h0 : kMR s.o p t w = 0
  case neg =>
    rw [if_neg h0] at hQ
    obtain ⟨k, hk, k1, k2⟩ : ∃ k, kMR s.o p t w = nI k ∧ 1 ≤ k ∧ k ≤ 2 := by
      rcases kMR_v s.o p t w with g | g | g
      · exact absurd g h0
      · exact ⟨1, g, by omega, by omega⟩
      · exact ⟨2, g, by omega, by omega⟩
    rw [hk, nI_clamp (by omega)] at hQ
    rw [hk] at h0
    repeat' (first | (refine kx152 h hp ht hw ?_; simp only [ky_aft, ky_vl, Nat.reduceAdd]) | ((refine kx155 h (k := k) (by omega) (by omega) ?_)) | (refine ky_ok_stp rfl ?_; simp (disch := first | omega | assumption) only [ky_stp, ky_inv, ky_ldi, ky_ldl, ky_ldd, ky_lda, ky_cl2, ky_st1, ky_st2, ky_s1i, ky_s2i, ky_s1l, ky_s2l, ky_sli, ky_s1f, ky_s2f, ky_s1d, ky_s2d, ky_sr, ky_sai, ky_sasi, ky_sasl, ky_sasr, ky_svr, ky_sv, ky_sv2, ky_s1, ky_cs, ky_pop, ky_nth, ky_snt, ky_obj, ky_ari, ky_arl, ky_arr, ky_arn, ky_fv, ky_rcv, List.map_cons, List.map_nil, List.drop_succ_cons, List.drop_zero, Value.category, Nat.reduceAdd, Nat.reduceSub, true_and, and_true, true_or, or_true, reduceCtorEq, ite_true, ite_false, eq_self, Nat.reduceEqDiff, Nat.reduceLeDiff, nI_add, nI_1, nI_leI, nI_ltI, nI_eq, nI_clamp, kz_m1, kz_mn, kz_mn2, kz_n0, kz_0n, kz_0, kz_le0, kz_0lt, false_implies, true_implies, not_false_eq_true, not_true_eq_false, Nat.zero_le, kb_0, kz_10, kz_of, ky_sw, kz_mx, kz_mi, kh0, kh1, kh2, kh23, kh30, kh40, kh42, kh37, kh44, kh46, kh47, kh48, kh12, kh53, hk, eq_false h0]) | (refine ⟨vp_in_nI (by omega) (by omega), ?_⟩) | (rw [if_neg (by decide)]; refine ⟨by decide, by decide, ?_⟩) | (refine ⟨by decide, by decide, ?_⟩) | (refine ⟨fun zc => ?_, fun zc => ?_⟩ <;> try (exfalso; omega)) | fail)
    · intro f1 h1 hF1
      simp only [ky_aft, ky_vl, Nat.reduceAdd]
      repeat' (first | (refine ky_ok_stp rfl ?_; simp (disch := first | omega | assumption) only [ky_stp, ky_inv, ky_ldi, ky_ldl, ky_ldd, ky_lda, ky_cl2, ky_st1, ky_st2, ky_s1i, ky_s2i, ky_s1l, ky_s2l, ky_sli, ky_s1f, ky_s2f, ky_s1d, ky_s2d, ky_sr, ky_sai, ky_sasi, ky_sasl, ky_sasr, ky_svr, ky_sv, ky_sv2, ky_s1, ky_cs, ky_pop, ky_nth, ky_snt, ky_obj, ky_ari, ky_arl, ky_arr, ky_arn, ky_fv, ky_rcv, List.map_cons, List.map_nil, List.drop_succ_cons, List.drop_zero, Value.category, Nat.reduceAdd, Nat.reduceSub, true_and, and_true, true_or, or_true, reduceCtorEq, ite_true, ite_false, eq_self, Nat.reduceEqDiff, Nat.reduceLeDiff, nI_add, nI_1, nI_leI, nI_ltI, nI_eq, nI_clamp, kz_m1, kz_mn, kz_mn2, kz_n0, kz_0n, kz_0, kz_le0, kz_0lt, false_implies, true_implies, not_false_eq_true, not_true_eq_false, Nat.zero_le, kb_0, kz_10, kz_of, ky_sw, kz_mx, kz_mi]) | (refine ⟨vp_in_nI (by omega) (by omega), ?_⟩) | (refine ⟨fun zc => ?_, fun zc => ?_⟩ <;> try (exfalso; omega)) | fail)
      exact hQ a f1 (kRef s k) (kSe_rf _) h1 (kRef_al h.1 hF1)
  rw [if_pos h0] at hQ
  obtain ⟨hd, -⟩ := kMR_0 ho hp ht h0
  obtain ⟨hto, hton⟩ := kMR_to (w := w) ho hp ht hd
  repeat' (first | (refine kx152 h hp ht hw ?_; simp only [ky_aft, ky_vl, Nat.reduceAdd]) | (refine kx156 h ?_) | (refine ky_ok_stp rfl ?_; simp (disch := first | omega | assumption) only [ky_stp, ky_inv, ky_ldi, ky_ldl, ky_ldd, ky_lda, ky_cl2, ky_st1, ky_st2, ky_s1i, ky_s2i, ky_s1l, ky_s2l, ky_sli, ky_s1f, ky_s2f, ky_s1d, ky_s2d, ky_sr, ky_sai, ky_sasi, ky_sasl, ky_sasr, ky_svr, ky_sv, ky_sv2, ky_s1, ky_cs, ky_pop, ky_nth, ky_snt, ky_obj, ky_ari, ky_arl, ky_arr, ky_arn, ky_fv, ky_rcv, List.map_cons, List.map_nil, List.drop_succ_cons, List.drop_zero, Value.category, Nat.reduceAdd, Nat.reduceSub, true_and, and_true, true_or, or_true, reduceCtorEq, ite_true, ite_false, eq_self, Nat.reduceEqDiff, Nat.reduceLeDiff, nI_add, nI_1, nI_leI, nI_ltI, nI_eq, nI_clamp, kz_m1, kz_mn, kz_mn2, kz_n0, kz_0n, kz_0, kz_le0, kz_0lt, false_implies, true_implies, not_false_eq_true, not_true_eq_false, Nat.zero_le, kb_0, kz_10, kz_of, ky_sw, kz_mx, kz_mi, kh0, kh1, kh2, kh23, kh30, kh40, kh42, kh37, kh44, kh46, kh47, kh48, kh12, kh53, eq_true h0]) | (refine ⟨vp_in_nI (by omega) (by omega), ?_⟩) | (rw [if_neg (by decide)]; refine ⟨by decide, by decide, ?_⟩) | (refine ⟨by decide, by decide, ?_⟩) | (refine ⟨fun zc => ?_, fun zc => ?_⟩ <;> try (exfalso; omega)) | fail)
  intro a' f1 z' B hA hB1 hB2 he hzB h1
  simp only [ky_aft, ky_vl, Nat.reduceAdd]
  have e0 : a' 0 = a 0 := hA.2.2
  rw [← e0]
  obtain ⟨kh0, kh1, kh2, kh23, kh30, kh40, kh42, ⟨_, kh37⟩, ⟨_, kh44⟩, ⟨_, kh46⟩, kh47, ⟨_, kh48⟩, ⟨_, kh12⟩, kh53⟩ := kK_hd h1
  obtain ⟨G1, hW1⟩ := h1.2.1.z.1
  obtain ⟨⟨GB, hWB⟩, hSB⟩ := hzB
  have hzn : z'.n = s.o.n := he.1
  have yB := kW_lv hWB
  have hE1 := kEnd_e he hp
  have hE2 := kTo2_f (w := w) he ht
  have hE3 := kLB_f (w := w) he ht
  have hSn : kS a' 1 f1 s.o.S := h1.2.1.z.2
  have c1 : kE (kL z'.R) (kL z'.R p) (p + 1) (z'.n - (p + 1)) = kEnd s.o p := hE1
  have c2 : kPB (kL z'.R) z'.n (t + 1) w = kTo2 s.o t w := hE2
  repeat' (first | (refine kx51 (k := 1) (k2 := B) h1.1 (by omega) hW1 hSn hWB hSB (by omega) (by omega) (by omega) hw c1 c2 hto ?_) | (refine ky_ok_stp rfl ?_; simp (disch := first | omega | assumption) only [ky_stp, ky_inv, ky_ldi, ky_ldl, ky_ldd, ky_lda, ky_cl2, ky_st1, ky_st2, ky_s1i, ky_s2i, ky_s1l, ky_s2l, ky_sli, ky_s1f, ky_s2f, ky_s1d, ky_s2d, ky_sr, ky_sai, ky_sasi, ky_sasl, ky_sasr, ky_svr, ky_sv, ky_sv2, ky_s1, ky_cs, ky_pop, ky_nth, ky_snt, ky_obj, ky_ari, ky_arl, ky_arr, ky_arn, ky_fv, ky_rcv, List.map_cons, List.map_nil, List.drop_succ_cons, List.drop_zero, Value.category, Nat.reduceAdd, Nat.reduceSub, true_and, and_true, true_or, or_true, reduceCtorEq, ite_true, ite_false, eq_self, Nat.reduceEqDiff, Nat.reduceLeDiff, nI_add, nI_1, nI_leI, nI_ltI, nI_eq, nI_clamp, kz_m1, kz_mn, kz_mn2, kz_n0, kz_0n, kz_0, kz_le0, kz_0lt, false_implies, true_implies, not_false_eq_true, not_true_eq_false, Nat.zero_le, kb_0, kz_10, kz_of, ky_sw, kz_mx, kz_mi, kh0, kh1, kh2, kh23, kh30, kh40, kh42, kh37, kh44, kh46, kh47, kh48, kh12, kh53, yB]) | (refine ⟨vp_in_nI (by omega) (by omega), ?_⟩) | (rw [if_neg (by decide)]; refine ⟨by decide, by decide, ?_⟩) | (refine ⟨by decide, by decide, ?_⟩) | (refine ⟨fun zc => ?_, fun zc => ?_⟩ <;> try (exfalso; omega)) | fail)
  intro f2 R2 G2 S2 hW2 hS2 hF2 hR2 hq2
  simp only [ky_aft, ky_vl, Nat.reduceAdd]
  repeat' (first | (refine ky_ok_stp rfl ?_; simp (disch := first | omega | assumption) only [ky_stp, ky_inv, ky_ldi, ky_ldl, ky_ldd, ky_lda, ky_cl2, ky_st1, ky_st2, ky_s1i, ky_s2i, ky_s1l, ky_s2l, ky_sli, ky_s1f, ky_s2f, ky_s1d, ky_s2d, ky_sr, ky_sai, ky_sasi, ky_sasl, ky_sasr, ky_svr, ky_sv, ky_sv2, ky_s1, ky_cs, ky_pop, ky_nth, ky_snt, ky_obj, ky_ari, ky_arl, ky_arr, ky_arn, ky_fv, ky_rcv, List.map_cons, List.map_nil, List.drop_succ_cons, List.drop_zero, Value.category, Nat.reduceAdd, Nat.reduceSub, true_and, and_true, true_or, or_true, reduceCtorEq, ite_true, ite_false, eq_self, Nat.reduceEqDiff, Nat.reduceLeDiff, nI_add, nI_1, nI_leI, nI_ltI, nI_eq, nI_clamp, kz_m1, kz_mn, kz_mn2, kz_n0, kz_0n, kz_0, kz_le0, kz_0lt, false_implies, true_implies, not_false_eq_true, not_true_eq_false, Nat.zero_le, kb_0, kz_10, kz_of, ky_sw, kz_mx, kz_mi]) | (refine ⟨vp_in_nI (by omega) (by omega), ?_⟩) | (refine ⟨fun zc => ?_, fun zc => ?_⟩ <;> try (exfalso; omega)) | fail)
  have hm : kZe (kMz s.o p t w) ⟨z'.n, R2, S2⟩ := by
    refine ⟨hzn, fun i hi => ?_, fun l z1 z6 => kSq_tr (he.2.2 l z1 z6) (hq2 l z1 z6)⟩
    have hi' : i < s.o.n := hi
    have hr := kMi_r (j := i) (show p < kEnd s.o p by omega) hto
    have := (hR2 _ i (by omega) hr).1
    show R2 i = if p ≤ kMi p (kEnd s.o p) (kTo2 s.o t w) i ∧ kMi p (kEnd s.o p) (kTo2 s.o t w) i < kEnd s.o p then ksh (kLB (kL s.o.R) (t + 1) w - kL s.o.R p) (s.o.R (kMi p (kEnd s.o p) (kTo2 s.o t w) i)) else s.o.R (kMi p (kEnd s.o p) (kTo2 s.o t w) i)
    have hlt : kMi p (kEnd s.o p) (kTo2 s.o t w) i < s.o.n := by unfold kMr at hr; omega
    rw [this, hE3, kZe_L he hp, he.2.1 _ hlt]
  obtain ⟨s', q1, q2, q3⟩ := kAct_fin2 h1 hA he hF2 ⟨⟨_, hW2⟩, hS2⟩ hm (kMz_ok ho hp ht h0)
  exact hQ a' f2 s' q1 q2 q3
theorem kx161 (h : kK a f s) (hp : p < s.o.n) (hQ : ∀ a' f' s', kSe (kTp s p).2 s' → kK a' f' s' → kAl a f a' f' kL7 → Q (.inl (some (.int (kTp s p).1))) f') : ky_cl adK 161 [.ref (a 0), .int (nI p)] f Q := by
  obtain ⟨kh0, kh1, kh2, kh23, kh30, kh40, kh42, ⟨_, kh37⟩, ⟨_, kh44⟩, ⟨_, kh46⟩, kh47, ⟨_, kh48⟩, ⟨_, kh12⟩, kh53⟩ := kK_hd h
  have ho := h.2.2.2.o
  have hn := ho.n60
  obtain ⟨G, hW⟩ := h.2.1.z.1
  have hE := kEnd_le hp
  obtain ⟨el, l1, l6⟩ := ho.lv p hp
  unfold kTp at hQ
  refine ⟨Nat.le_of_ble_eq_true rfl, fun z => absurd z (by decide), ?_⟩; show ky_ok adK 161 0 [some (.ref (a 0)), some (.int (nI p))] [] f 0 0 _
  by_cases h0 : kV s.o.R p = 1
  case pos =>
    rw [if_pos h0] at hQ
    repeat' (first | (refine kx27 hW.1 hn hp ?_; simp only [ky_aft, ky_vl, Nat.reduceAdd]) | ((refine kx155 h (k := 4) (by omega) (by omega) ?_)) | (refine ky_ok_stp rfl ?_; simp (disch := first | omega | assumption) only [ky_stp, ky_inv, ky_ldi, ky_ldl, ky_ldd, ky_lda, ky_cl2, ky_st1, ky_st2, ky_s1i, ky_s2i, ky_s1l, ky_s2l, ky_sli, ky_s1f, ky_s2f, ky_s1d, ky_s2d, ky_sr, ky_sai, ky_sasi, ky_sasl, ky_sasr, ky_svr, ky_sv, ky_sv2, ky_s1, ky_cs, ky_pop, ky_nth, ky_snt, ky_obj, ky_ari, ky_arl, ky_arr, ky_arn, ky_fv, ky_rcv, List.map_cons, List.map_nil, List.drop_succ_cons, List.drop_zero, Value.category, Nat.reduceAdd, Nat.reduceSub, true_and, and_true, true_or, or_true, reduceCtorEq, ite_true, ite_false, eq_self, Nat.reduceEqDiff, Nat.reduceLeDiff, nI_add, nI_1, nI_leI, nI_ltI, nI_eq, nI_clamp, kz_m1, kz_mn, kz_mn2, kz_n0, kz_0n, kz_0, kz_le0, kz_0lt, false_implies, true_implies, not_false_eq_true, not_true_eq_false, Nat.zero_le, kb_0, kz_10, kz_of, ky_sw, kz_mx, kz_mi, kh0, kh1, kh2, kh23, kh30, kh40, kh42, kh37, kh44, kh46, kh47, kh48, kh12, kh53, el, h0, kz_1, kz_4]) | (refine ⟨vp_in_nI (by omega) (by omega), ?_⟩) | (rw [if_neg (by decide)]; refine ⟨by decide, by decide, ?_⟩) | (refine ⟨by decide, by decide, ?_⟩) | (refine ⟨fun zc => ?_, fun zc => ?_⟩ <;> try (exfalso; omega)) | fail)
    intro f1 h1 hF1
    simp only [ky_aft, ky_vl, Nat.reduceAdd]
    repeat' (first | (refine ky_ok_stp rfl ?_; simp (disch := first | omega | assumption) only [ky_stp, ky_inv, ky_ldi, ky_ldl, ky_ldd, ky_lda, ky_cl2, ky_st1, ky_st2, ky_s1i, ky_s2i, ky_s1l, ky_s2l, ky_sli, ky_s1f, ky_s2f, ky_s1d, ky_s2d, ky_sr, ky_sai, ky_sasi, ky_sasl, ky_sasr, ky_svr, ky_sv, ky_sv2, ky_s1, ky_cs, ky_pop, ky_nth, ky_snt, ky_obj, ky_ari, ky_arl, ky_arr, ky_arn, ky_fv, ky_rcv, List.map_cons, List.map_nil, List.drop_succ_cons, List.drop_zero, Value.category, Nat.reduceAdd, Nat.reduceSub, true_and, and_true, true_or, or_true, reduceCtorEq, ite_true, ite_false, eq_self, Nat.reduceEqDiff, Nat.reduceLeDiff, nI_add, nI_1, nI_leI, nI_ltI, nI_eq, nI_clamp, kz_m1, kz_mn, kz_mn2, kz_n0, kz_0n, kz_0, kz_le0, kz_0lt, false_implies, true_implies, not_false_eq_true, not_true_eq_false, Nat.zero_le, kb_0, kz_10, kz_of, ky_sw, kz_mx, kz_mi]) | (refine ⟨vp_in_nI (by omega) (by omega), ?_⟩) | (refine ⟨fun zc => ?_, fun zc => ?_⟩ <;> try (exfalso; omega)) | fail)
    exact hQ a f1 (kRef s 4) (kSe_rf _) h1 (kRef_al h.1 hF1)
  rw [if_neg h0] at hQ
  have e1 : (nI (kV s.o.R p) = nI 1) = False := by rw [nI_eq (by omega) (by omega)]; exact eq_false h0
  repeat' (first | (refine kx27 hW.1 hn hp ?_; simp only [ky_aft, ky_vl, Nat.reduceAdd]) | (refine kx156 h ?_) | (refine ky_ok_stp rfl ?_; simp (disch := first | omega | assumption) only [ky_stp, ky_inv, ky_ldi, ky_ldl, ky_ldd, ky_lda, ky_cl2, ky_st1, ky_st2, ky_s1i, ky_s2i, ky_s1l, ky_s2l, ky_sli, ky_s1f, ky_s2f, ky_s1d, ky_s2d, ky_sr, ky_sai, ky_sasi, ky_sasl, ky_sasr, ky_svr, ky_sv, ky_sv2, ky_s1, ky_cs, ky_pop, ky_nth, ky_snt, ky_obj, ky_ari, ky_arl, ky_arr, ky_arn, ky_fv, ky_rcv, List.map_cons, List.map_nil, List.drop_succ_cons, List.drop_zero, Value.category, Nat.reduceAdd, Nat.reduceSub, true_and, and_true, true_or, or_true, reduceCtorEq, ite_true, ite_false, eq_self, Nat.reduceEqDiff, Nat.reduceLeDiff, nI_add, nI_1, nI_leI, nI_ltI, nI_eq, nI_clamp, kz_m1, kz_mn, kz_mn2, kz_n0, kz_0n, kz_0, kz_le0, kz_0lt, false_implies, true_implies, not_false_eq_true, not_true_eq_false, Nat.zero_le, kb_0, kz_10, kz_of, ky_sw, kz_mx, kz_mi, kh0, kh1, kh2, kh23, kh30, kh40, kh42, kh37, kh44, kh46, kh47, kh48, kh12, kh53, el, e1, kz_1]) | (refine ⟨vp_in_nI (by omega) (by omega), ?_⟩) | (rw [if_neg (by decide)]; refine ⟨by decide, by decide, ?_⟩) | (refine ⟨by decide, by decide, ?_⟩) | (refine ⟨fun zc => ?_, fun zc => ?_⟩ <;> try (exfalso; omega)) | fail)
  intro a' f1 z' B hA hB1 hB2 he hzB h1
  simp only [ky_aft, ky_vl, Nat.reduceAdd]
  have e0 : a' 0 = a 0 := hA.2.2
  rw [← e0]
  obtain ⟨kh0, kh1, kh2, kh23, kh30, kh40, kh42, ⟨_, kh37⟩, ⟨_, kh44⟩, ⟨_, kh46⟩, kh47, ⟨_, kh48⟩, ⟨_, kh12⟩, kh53⟩ := kK_hd h1
  obtain ⟨G1, hW1⟩ := h1.2.1.z.1
  obtain ⟨⟨GB, hWB⟩, hSB⟩ := hzB
  have hzn : z'.n = s.o.n := he.1
  have yB := kW_lv hWB
  repeat' (first | ((refine kx32 (j := p + 1) hW1.1 hn hp (nI_pred p).symm ?_; show ky_aft _ _ _ _ _ _ _ _ _ (.inl (some (.int (nI (kEnd s.o p))))) _; simp only [ky_aft, ky_vl, Nat.reduceAdd])) | (refine kx47 (k := 1) (s := p) (e := kEnd s.o p) (d := -1) h1.1 hW1 hn (by omega) hE.2 ?_) | (refine ky_ok_stp rfl ?_; simp (disch := first | omega | assumption) only [ky_stp, ky_inv, ky_ldi, ky_ldl, ky_ldd, ky_lda, ky_cl2, ky_st1, ky_st2, ky_s1i, ky_s2i, ky_s1l, ky_s2l, ky_sli, ky_s1f, ky_s2f, ky_s1d, ky_s2d, ky_sr, ky_sai, ky_sasi, ky_sasl, ky_sasr, ky_svr, ky_sv, ky_sv2, ky_s1, ky_cs, ky_pop, ky_nth, ky_snt, ky_obj, ky_ari, ky_arl, ky_arr, ky_arn, ky_fv, ky_rcv, List.map_cons, List.map_nil, List.drop_succ_cons, List.drop_zero, Value.category, Nat.reduceAdd, Nat.reduceSub, true_and, and_true, true_or, or_true, reduceCtorEq, ite_true, ite_false, eq_self, Nat.reduceEqDiff, Nat.reduceLeDiff, nI_add, nI_1, nI_leI, nI_ltI, nI_eq, nI_clamp, kz_m1, kz_mn, kz_mn2, kz_n0, kz_0n, kz_0, kz_le0, kz_0lt, false_implies, true_implies, not_false_eq_true, not_true_eq_false, Nat.zero_le, kb_0, kz_10, kz_of, ky_sw, kz_mx, kz_mi, kh0, kh1, kh2, kh23, kh30, kh40, kh42, kh37, kh44, kh46, kh47, kh48, kh12, kh53]) | (refine ⟨vp_in_nI (by omega) (by omega), ?_⟩) | (rw [if_neg (by decide)]; refine ⟨by decide, by decide, ?_⟩) | (refine ⟨by decide, by decide, ?_⟩) | (refine ⟨fun zc => ?_, fun zc => ?_⟩ <;> try (exfalso; omega)) | fail)
  intro f4 R4 hW4 hF4 hR4
  simp only [ky_aft, ky_vl, Nat.reduceAdd]
  have kh4 : f4 (a' 0) = _ := (hF4 0 (by unfold kRB; omega)).trans kh0
  have y4 := kW_lv hW4
  have e5 : kL R4 p = nI (kV s.o.R p - 1) := by
    unfold kL; rw [hR4 p hp, if_pos ⟨Nat.le_refl _, by omega⟩]
    show kL s.o.R p + (-1) = _
    rw [el, nI_m1 l1]
  repeat' (first | (refine kx27 hW4.1 hn hp ?_; simp only [ky_aft, ky_vl, Nat.reduceAdd]) | (refine ky_ok_stp rfl ?_; simp (disch := first | omega | assumption) only [ky_stp, ky_inv, ky_ldi, ky_ldl, ky_ldd, ky_lda, ky_cl2, ky_st1, ky_st2, ky_s1i, ky_s2i, ky_s1l, ky_s2l, ky_sli, ky_s1f, ky_s2f, ky_s1d, ky_s2d, ky_sr, ky_sai, ky_sasi, ky_sasl, ky_sasr, ky_svr, ky_sv, ky_sv2, ky_s1, ky_cs, ky_pop, ky_nth, ky_snt, ky_obj, ky_ari, ky_arl, ky_arr, ky_arn, ky_fv, ky_rcv, List.map_cons, List.map_nil, List.drop_succ_cons, List.drop_zero, Value.category, Nat.reduceAdd, Nat.reduceSub, true_and, and_true, true_or, or_true, reduceCtorEq, ite_true, ite_false, eq_self, Nat.reduceEqDiff, Nat.reduceLeDiff, nI_add, nI_1, nI_leI, nI_ltI, nI_eq, nI_clamp, kz_m1, kz_mn, kz_mn2, kz_n0, kz_0n, kz_0, kz_le0, kz_0lt, false_implies, true_implies, not_false_eq_true, not_true_eq_false, Nat.zero_le, kb_0, kz_10, kz_of, ky_sw, kz_mx, kz_mi, kh4, y4, e5]) | (refine ⟨vp_in_nI (by omega) (by omega), ?_⟩) | (rw [if_neg (by decide)]; refine ⟨by decide, by decide, ?_⟩) | (refine ⟨by decide, by decide, ?_⟩) | (refine ⟨fun zc => ?_, fun zc => ?_⟩ <;> try (exfalso; omega)) | fail)
  have hm : kZe (kShz s.o p (-1)) ⟨s.o.n, R4, s.o.S⟩ := ⟨rfl, fun i hi => hR4 i hi, fun _ _ _ => ⟨rfl, rfl, rfl, rfl⟩⟩
  obtain ⟨s', q1, q2, q3⟩ := kAct_fin ho h1 hA he hF4 hW4 hm (kPro_ok ho hp h0)
  exact hQ a' f4 s' q1 q2 q3
theorem kSb_up (L : Nat → Int32) (v : Int32) : ∀ j x, kSb L v j x ≤ x + j
  | 0, x => Nat.le_refl _
  | j + 1, x => by
    rw [kSb]
    split
    · omega
    · split
      · have := kSb_up L v j (x + 1); omega
      · have := kSb_up L v j x; omega
theorem kSb_pos {L : Nat → Int32} {v : Int32} : ∀ j x, ¬ kSb L v j x = x → 0 < j ∧ ¬ L (j - 1) < v
  | 0, x, h => absurd rfl h
  | j + 1, x, h => by
    refine ⟨by omega, fun z => h ?_⟩
    rw [Nat.add_sub_cancel] at z
    rw [kSb, if_pos z]
theorem kx162 (h : kK a f s) (hp : p < s.o.n) (hQ : ∀ a' f' s', kSe (kTe' s p).2 s' → kK a' f' s' → kAl a f a' f' kL7 → Q (.inl (some (.int (kTe' s p).1))) f') : ky_cl adK 162 [.ref (a 0), .int (nI p)] f Q := by
  obtain ⟨kh0, kh1, kh2, kh23, kh30, kh40, kh42, ⟨_, kh37⟩, ⟨_, kh44⟩, ⟨_, kh46⟩, kh47, ⟨_, kh48⟩, ⟨_, kh12⟩, kh53⟩ := kK_hd h
  have ho := h.2.2.2.o
  have hn := ho.n60
  obtain ⟨G, hW⟩ := h.2.1.z.1
  have hE := kEnd_le hp
  obtain ⟨el, l1, l6⟩ := ho.lv p hp
  have hsb := kSb_up (kL s.o.R) (kL s.o.R p) p 0
  unfold kTe' at hQ
  refine ⟨Nat.le_of_ble_eq_true rfl, fun z => absurd z (by decide), ?_⟩; show ky_ok adK 162 0 [some (.ref (a 0)), some (.int (nI p)), none] [] f 0 0 _
  by_cases h0 : kSb (kL s.o.R) (kL s.o.R p) p 0 = 0
  case pos =>
    rw [if_pos h0] at hQ
    repeat' (first | ((refine kx32 (j := p + 1) hW.1 hn hp (nI_pred p).symm ?_; show ky_aft _ _ _ _ _ _ _ _ _ (.inl (some (.int (nI (kEnd s.o p))))) _; simp only [ky_aft, ky_vl, Nat.reduceAdd])) | (refine kx36 hW.1 hn hp ?_; simp only [ky_aft, ky_vl, Nat.reduceAdd]) | ((refine kx155 h (k := 5) (by omega) (by omega) ?_)) | (refine ky_ok_stp rfl ?_; simp (disch := first | omega | assumption) only [ky_stp, ky_inv, ky_ldi, ky_ldl, ky_ldd, ky_lda, ky_cl2, ky_st1, ky_st2, ky_s1i, ky_s2i, ky_s1l, ky_s2l, ky_sli, ky_s1f, ky_s2f, ky_s1d, ky_s2d, ky_sr, ky_sai, ky_sasi, ky_sasl, ky_sasr, ky_svr, ky_sv, ky_sv2, ky_s1, ky_cs, ky_pop, ky_nth, ky_snt, ky_obj, ky_ari, ky_arl, ky_arr, ky_arn, ky_fv, ky_rcv, List.map_cons, List.map_nil, List.drop_succ_cons, List.drop_zero, Value.category, Nat.reduceAdd, Nat.reduceSub, true_and, and_true, true_or, or_true, reduceCtorEq, ite_true, ite_false, eq_self, Nat.reduceEqDiff, Nat.reduceLeDiff, nI_add, nI_1, nI_leI, nI_ltI, nI_eq, nI_clamp, kz_m1, kz_mn, kz_mn2, kz_n0, kz_0n, kz_0, kz_le0, kz_0lt, false_implies, true_implies, not_false_eq_true, not_true_eq_false, Nat.zero_le, kb_0, kz_10, kz_of, ky_sw, kz_mx, kz_mi, kh0, kh1, kh2, kh23, kh30, kh40, kh42, kh37, kh44, kh46, kh47, kh48, kh12, kh53, h0, kz_5]) | (refine ⟨vp_in_nI (by omega) (by omega), ?_⟩) | (rw [if_neg (by decide)]; refine ⟨by decide, by decide, ?_⟩) | (refine ⟨by decide, by decide, ?_⟩) | (refine ⟨fun zc => ?_, fun zc => ?_⟩ <;> try (exfalso; omega)) | fail)
    intro f1 h1 hF1
    simp only [ky_aft, ky_vl, Nat.reduceAdd]
    repeat' (first | (refine ky_ok_stp rfl ?_; simp (disch := first | omega | assumption) only [ky_stp, ky_inv, ky_ldi, ky_ldl, ky_ldd, ky_lda, ky_cl2, ky_st1, ky_st2, ky_s1i, ky_s2i, ky_s1l, ky_s2l, ky_sli, ky_s1f, ky_s2f, ky_s1d, ky_s2d, ky_sr, ky_sai, ky_sasi, ky_sasl, ky_sasr, ky_svr, ky_sv, ky_sv2, ky_s1, ky_cs, ky_pop, ky_nth, ky_snt, ky_obj, ky_ari, ky_arl, ky_arr, ky_arn, ky_fv, ky_rcv, List.map_cons, List.map_nil, List.drop_succ_cons, List.drop_zero, Value.category, Nat.reduceAdd, Nat.reduceSub, true_and, and_true, true_or, or_true, reduceCtorEq, ite_true, ite_false, eq_self, Nat.reduceEqDiff, Nat.reduceLeDiff, nI_add, nI_1, nI_leI, nI_ltI, nI_eq, nI_clamp, kz_m1, kz_mn, kz_mn2, kz_n0, kz_0n, kz_0, kz_le0, kz_0lt, false_implies, true_implies, not_false_eq_true, not_true_eq_false, Nat.zero_le, kb_0, kz_10, kz_of, ky_sw, kz_mx, kz_mi]) | (refine ⟨vp_in_nI (by omega) (by omega), ?_⟩) | (refine ⟨fun zc => ?_, fun zc => ?_⟩ <;> try (exfalso; omega)) | fail)
    exact hQ a f1 (kRef s 5) (kSe_rf _) h1 (kRef_al h.1 hF1)
  rw [if_neg h0] at hQ
  by_cases h6 : 6 ≤ kG (kL s.o.R) p (kEnd s.o p - p) 0
  case pos =>
    rw [if_pos h6] at hQ
    have e6 : (kG (kL s.o.R) p (kEnd s.o p - p) 0 < 6) = False := eq_false (Int32.not_lt.mpr h6)
    repeat' (first | ((refine kx32 (j := p + 1) hW.1 hn hp (nI_pred p).symm ?_; show ky_aft _ _ _ _ _ _ _ _ _ (.inl (some (.int (nI (kEnd s.o p))))) _; simp only [ky_aft, ky_vl, Nat.reduceAdd])) | (refine kx36 hW.1 hn hp ?_; simp only [ky_aft, ky_vl, Nat.reduceAdd]) | ((refine kx33 hW.1 hn (show p ≤ kEnd s.o p by omega) hE.2 ?_; simp only [ky_aft, ky_vl, Nat.reduceAdd])) | ((refine kx155 h (k := 1) (by omega) (by omega) ?_)) | (refine ky_ok_stp rfl ?_; simp (disch := first | omega | assumption) only [ky_stp, ky_inv, ky_ldi, ky_ldl, ky_ldd, ky_lda, ky_cl2, ky_st1, ky_st2, ky_s1i, ky_s2i, ky_s1l, ky_s2l, ky_sli, ky_s1f, ky_s2f, ky_s1d, ky_s2d, ky_sr, ky_sai, ky_sasi, ky_sasl, ky_sasr, ky_svr, ky_sv, ky_sv2, ky_s1, ky_cs, ky_pop, ky_nth, ky_snt, ky_obj, ky_ari, ky_arl, ky_arr, ky_arn, ky_fv, ky_rcv, List.map_cons, List.map_nil, List.drop_succ_cons, List.drop_zero, Value.category, Nat.reduceAdd, Nat.reduceSub, true_and, and_true, true_or, or_true, reduceCtorEq, ite_true, ite_false, eq_self, Nat.reduceEqDiff, Nat.reduceLeDiff, nI_add, nI_1, nI_leI, nI_ltI, nI_eq, nI_clamp, kz_m1, kz_mn, kz_mn2, kz_n0, kz_0n, kz_0, kz_le0, kz_0lt, false_implies, true_implies, not_false_eq_true, not_true_eq_false, Nat.zero_le, kb_0, kz_10, kz_of, ky_sw, kz_mx, kz_mi, kh0, kh1, kh2, kh23, kh30, kh40, kh42, kh37, kh44, kh46, kh47, kh48, kh12, kh53, kz_0, eq_false h0, e6, kz_1]) | (refine ⟨vp_in_nI (by omega) (by omega), ?_⟩) | (rw [if_neg (by decide)]; refine ⟨by decide, by decide, ?_⟩) | (refine ⟨by decide, by decide, ?_⟩) | (refine ⟨fun zc => ?_, fun zc => ?_⟩ <;> try (exfalso; omega)) | fail)
    intro f1 h1 hF1
    simp only [ky_aft, ky_vl, Nat.reduceAdd]
    repeat' (first | (refine ky_ok_stp rfl ?_; simp (disch := first | omega | assumption) only [ky_stp, ky_inv, ky_ldi, ky_ldl, ky_ldd, ky_lda, ky_cl2, ky_st1, ky_st2, ky_s1i, ky_s2i, ky_s1l, ky_s2l, ky_sli, ky_s1f, ky_s2f, ky_s1d, ky_s2d, ky_sr, ky_sai, ky_sasi, ky_sasl, ky_sasr, ky_svr, ky_sv, ky_sv2, ky_s1, ky_cs, ky_pop, ky_nth, ky_snt, ky_obj, ky_ari, ky_arl, ky_arr, ky_arn, ky_fv, ky_rcv, List.map_cons, List.map_nil, List.drop_succ_cons, List.drop_zero, Value.category, Nat.reduceAdd, Nat.reduceSub, true_and, and_true, true_or, or_true, reduceCtorEq, ite_true, ite_false, eq_self, Nat.reduceEqDiff, Nat.reduceLeDiff, nI_add, nI_1, nI_leI, nI_ltI, nI_eq, nI_clamp, kz_m1, kz_mn, kz_mn2, kz_n0, kz_0n, kz_0, kz_le0, kz_0lt, false_implies, true_implies, not_false_eq_true, not_true_eq_false, Nat.zero_le, kb_0, kz_10, kz_of, ky_sw, kz_mx, kz_mi]) | (refine ⟨vp_in_nI (by omega) (by omega), ?_⟩) | (refine ⟨fun zc => ?_, fun zc => ?_⟩ <;> try (exfalso; omega)) | fail)
    exact hQ a f1 (kRef s 1) (kSe_rf _) h1 (kRef_al h.1 hF1)
  rw [if_neg h6] at hQ
  have e6 : (kG (kL s.o.R) p (kEnd s.o p - p) 0 < 6) = True := eq_true (Int32.not_le.mp h6)
  repeat' (first | ((refine kx32 (j := p + 1) hW.1 hn hp (nI_pred p).symm ?_; show ky_aft _ _ _ _ _ _ _ _ _ (.inl (some (.int (nI (kEnd s.o p))))) _; simp only [ky_aft, ky_vl, Nat.reduceAdd])) | (refine kx36 hW.1 hn hp ?_; simp only [ky_aft, ky_vl, Nat.reduceAdd]) | ((refine kx33 hW.1 hn (show p ≤ kEnd s.o p by omega) hE.2 ?_; simp only [ky_aft, ky_vl, Nat.reduceAdd])) | (refine kx156 h ?_) | (refine ky_ok_stp rfl ?_; simp (disch := first | omega | assumption) only [ky_stp, ky_inv, ky_ldi, ky_ldl, ky_ldd, ky_lda, ky_cl2, ky_st1, ky_st2, ky_s1i, ky_s2i, ky_s1l, ky_s2l, ky_sli, ky_s1f, ky_s2f, ky_s1d, ky_s2d, ky_sr, ky_sai, ky_sasi, ky_sasl, ky_sasr, ky_svr, ky_sv, ky_sv2, ky_s1, ky_cs, ky_pop, ky_nth, ky_snt, ky_obj, ky_ari, ky_arl, ky_arr, ky_arn, ky_fv, ky_rcv, List.map_cons, List.map_nil, List.drop_succ_cons, List.drop_zero, Value.category, Nat.reduceAdd, Nat.reduceSub, true_and, and_true, true_or, or_true, reduceCtorEq, ite_true, ite_false, eq_self, Nat.reduceEqDiff, Nat.reduceLeDiff, nI_add, nI_1, nI_leI, nI_ltI, nI_eq, nI_clamp, kz_m1, kz_mn, kz_mn2, kz_n0, kz_0n, kz_0, kz_le0, kz_0lt, false_implies, true_implies, not_false_eq_true, not_true_eq_false, Nat.zero_le, kb_0, kz_10, kz_of, ky_sw, kz_mx, kz_mi, kh0, kh1, kh2, kh23, kh30, kh40, kh42, kh37, kh44, kh46, kh47, kh48, kh12, kh53, kz_0, eq_false h0, e6]) | (refine ⟨vp_in_nI (by omega) (by omega), ?_⟩) | (rw [if_neg (by decide)]; refine ⟨by decide, by decide, ?_⟩) | (refine ⟨by decide, by decide, ?_⟩) | (refine ⟨fun zc => ?_, fun zc => ?_⟩ <;> try (exfalso; omega)) | fail)
  intro a' f1 z' B hA hB1 hB2 he hzB h1
  simp only [ky_aft, ky_vl, Nat.reduceAdd]
  have e0 : a' 0 = a 0 := hA.2.2
  rw [← e0]
  obtain ⟨kh0, kh1, kh2, kh23, kh30, kh40, kh42, ⟨_, kh37⟩, ⟨_, kh44⟩, ⟨_, kh46⟩, kh47, ⟨_, kh48⟩, ⟨_, kh12⟩, kh53⟩ := kK_hd h1
  obtain ⟨G1, hW1⟩ := h1.2.1.z.1
  obtain ⟨⟨GB, hWB⟩, hSB⟩ := hzB
  have hzn : z'.n = s.o.n := he.1
  have yB := kW_lv hWB
  repeat' (first | (refine kx47 (k := 1) (s := p) (e := kEnd s.o p) (d := 1) h1.1 hW1 hn (by omega) hE.2 ?_) | (refine ky_ok_stp rfl ?_; simp (disch := first | omega | assumption) only [ky_stp, ky_inv, ky_ldi, ky_ldl, ky_ldd, ky_lda, ky_cl2, ky_st1, ky_st2, ky_s1i, ky_s2i, ky_s1l, ky_s2l, ky_sli, ky_s1f, ky_s2f, ky_s1d, ky_s2d, ky_sr, ky_sai, ky_sasi, ky_sasl, ky_sasr, ky_svr, ky_sv, ky_sv2, ky_s1, ky_cs, ky_pop, ky_nth, ky_snt, ky_obj, ky_ari, ky_arl, ky_arr, ky_arn, ky_fv, ky_rcv, List.map_cons, List.map_nil, List.drop_succ_cons, List.drop_zero, Value.category, Nat.reduceAdd, Nat.reduceSub, true_and, and_true, true_or, or_true, reduceCtorEq, ite_true, ite_false, eq_self, Nat.reduceEqDiff, Nat.reduceLeDiff, nI_add, nI_1, nI_leI, nI_ltI, nI_eq, nI_clamp, kz_m1, kz_mn, kz_mn2, kz_n0, kz_0n, kz_0, kz_le0, kz_0lt, false_implies, true_implies, not_false_eq_true, not_true_eq_false, Nat.zero_le, kb_0, kz_10, kz_of, ky_sw, kz_mx, kz_mi, kh0, kh1, kh2, kh23, kh30, kh40, kh42, kh37, kh44, kh46, kh47, kh48, kh12, kh53]) | (refine ⟨vp_in_nI (by omega) (by omega), ?_⟩) | (rw [if_neg (by decide)]; refine ⟨by decide, by decide, ?_⟩) | (refine ⟨by decide, by decide, ?_⟩) | (refine ⟨fun zc => ?_, fun zc => ?_⟩ <;> try (exfalso; omega)) | fail)
  intro f4 R4 hW4 hF4 hR4
  simp only [ky_aft, ky_vl, Nat.reduceAdd]
  have kh4 : f4 (a' 0) = _ := (hF4 0 (by unfold kRB; omega)).trans kh0
  have y4 := kW_lv hW4
  have e5 : kL R4 p = nI (kV s.o.R p + 1) := by
    unfold kL; rw [hR4 p hp, if_pos ⟨Nat.le_refl _, by omega⟩]
    show kL s.o.R p + 1 = _
    rw [el, kz_1, nI_add]
  repeat' (first | (refine kx27 hW4.1 hn hp ?_; simp only [ky_aft, ky_vl, Nat.reduceAdd]) | (refine ky_ok_stp rfl ?_; simp (disch := first | omega | assumption) only [ky_stp, ky_inv, ky_ldi, ky_ldl, ky_ldd, ky_lda, ky_cl2, ky_st1, ky_st2, ky_s1i, ky_s2i, ky_s1l, ky_s2l, ky_sli, ky_s1f, ky_s2f, ky_s1d, ky_s2d, ky_sr, ky_sai, ky_sasi, ky_sasl, ky_sasr, ky_svr, ky_sv, ky_sv2, ky_s1, ky_cs, ky_pop, ky_nth, ky_snt, ky_obj, ky_ari, ky_arl, ky_arr, ky_arn, ky_fv, ky_rcv, List.map_cons, List.map_nil, List.drop_succ_cons, List.drop_zero, Value.category, Nat.reduceAdd, Nat.reduceSub, true_and, and_true, true_or, or_true, reduceCtorEq, ite_true, ite_false, eq_self, Nat.reduceEqDiff, Nat.reduceLeDiff, nI_add, nI_1, nI_leI, nI_ltI, nI_eq, nI_clamp, kz_m1, kz_mn, kz_mn2, kz_n0, kz_0n, kz_0, kz_le0, kz_0lt, false_implies, true_implies, not_false_eq_true, not_true_eq_false, Nat.zero_le, kb_0, kz_10, kz_of, ky_sw, kz_mx, kz_mi, kh4, y4, e5]) | (refine ⟨vp_in_nI (by omega) (by omega), ?_⟩) | (rw [if_neg (by decide)]; refine ⟨by decide, by decide, ?_⟩) | (refine ⟨by decide, by decide, ?_⟩) | (refine ⟨fun zc => ?_, fun zc => ?_⟩ <;> try (exfalso; omega)) | fail)
  have hm : kZe (kShz s.o p 1) ⟨s.o.n, R4, s.o.S⟩ := ⟨rfl, fun i hi => hR4 i hi, fun _ _ _ => ⟨rfl, rfl, rfl, rfl⟩⟩
  obtain ⟨hp0, hlt⟩ := kSb_pos p 0 h0
  rw [kZ_lt ho (show p - 1 < s.o.n by omega) hp] at hlt
  obtain ⟨x, x1, x2, x3, x4⟩ := kG_le (V := kV s.o.R) (L := kL s.o.R) (kEnd s.o p - p) p 0 (fun j z1 z2 => ⟨(ho.lv j (by omega)).1, (ho.lv j (by omega)).2.2⟩) (by decide)
  have x1' : kG (kL s.o.R) p (kEnd s.o p - p) 0 = nI x := x1
  rw [x1', kz_6, nI_leI (by omega) (by omega)] at h6
  obtain ⟨s', q1, q2, q3⟩ := kAct_fin ho h1 hA he hF4 hW4 hm (kDem_ok ho hp (by omega) (by omega) fun j z1 z2 => by have := x4 j z1 (by omega); omega)
  exact hQ a' f4 s' q1 q2 q3
theorem kx163 {b : Int32} (h : kK a f s) (hp : p < s.o.n) (hb : k01 b) (hQ : ∀ a' f' s', kSe (kTf s p b).2 s' → kK a' f' s' → kAl a f a' f' kL7 → Q (.inl (some (.int (kTf s p b).1))) f') : ky_cl adK 163 [.ref (a 0), .int (nI p), .int b] f Q := by
  obtain ⟨kh0, kh1, kh2, kh23, kh30, kh40, kh42, ⟨_, kh37⟩, ⟨_, kh44⟩, ⟨_, kh46⟩, kh47, ⟨_, kh48⟩, ⟨_, kh12⟩, kh53⟩ := kK_hd h
  have ho := h.2.2.2.o
  have hn := ho.n60
  obtain ⟨G, hW⟩ := h.2.1.z.1
  have hE := kEnd_le hp
  have k7 := k01_kb (ho.fl p hp).2
  unfold kTf at hQ
  refine ⟨Nat.le_of_ble_eq_true rfl, fun z => absurd z (by decide), ?_⟩; show ky_ok adK 163 0 [some (.ref (a 0)), some (.int (nI p)), some (.int b)] [] f 0 0 _
  by_cases h0 : kFo s.o.R p = b
  case pos =>
    rw [if_pos h0] at hQ
    repeat' (first | (refine kx29 hW.1 hn hp ?_; simp only [ky_aft, ky_vl, Nat.reduceAdd]) | ((refine kx155 h (k := 7) (by omega) (by omega) ?_)) | (refine ky_ok_stp rfl ?_; simp (disch := first | omega | assumption) only [ky_stp, ky_inv, ky_ldi, ky_ldl, ky_ldd, ky_lda, ky_cl2, ky_st1, ky_st2, ky_s1i, ky_s2i, ky_s1l, ky_s2l, ky_sli, ky_s1f, ky_s2f, ky_s1d, ky_s2d, ky_sr, ky_sai, ky_sasi, ky_sasl, ky_sasr, ky_svr, ky_sv, ky_sv2, ky_s1, ky_cs, ky_pop, ky_nth, ky_snt, ky_obj, ky_ari, ky_arl, ky_arr, ky_arn, ky_fv, ky_rcv, List.map_cons, List.map_nil, List.drop_succ_cons, List.drop_zero, Value.category, Nat.reduceAdd, Nat.reduceSub, true_and, and_true, true_or, or_true, reduceCtorEq, ite_true, ite_false, eq_self, Nat.reduceEqDiff, Nat.reduceLeDiff, nI_add, nI_1, nI_leI, nI_ltI, nI_eq, nI_clamp, kz_m1, kz_mn, kz_mn2, kz_n0, kz_0n, kz_0, kz_le0, kz_0lt, false_implies, true_implies, not_false_eq_true, not_true_eq_false, Nat.zero_le, kb_0, kz_10, kz_of, ky_sw, kz_mx, kz_mi, kh0, kh1, kh2, kh23, kh30, kh40, kh42, kh37, kh44, kh46, kh47, kh48, kh12, kh53, k7, eq_true h0, kz_7]) | (refine ⟨vp_in_nI (by omega) (by omega), ?_⟩) | (rw [if_neg (by decide)]; refine ⟨by decide, by decide, ?_⟩) | (refine ⟨by decide, by decide, ?_⟩) | (refine ⟨fun zc => ?_, fun zc => ?_⟩ <;> try (exfalso; omega)) | fail)
    intro f1 h1 hF1
    simp only [ky_aft, ky_vl, Nat.reduceAdd]
    repeat' (first | (refine ky_ok_stp rfl ?_; simp (disch := first | omega | assumption) only [ky_stp, ky_inv, ky_ldi, ky_ldl, ky_ldd, ky_lda, ky_cl2, ky_st1, ky_st2, ky_s1i, ky_s2i, ky_s1l, ky_s2l, ky_sli, ky_s1f, ky_s2f, ky_s1d, ky_s2d, ky_sr, ky_sai, ky_sasi, ky_sasl, ky_sasr, ky_svr, ky_sv, ky_sv2, ky_s1, ky_cs, ky_pop, ky_nth, ky_snt, ky_obj, ky_ari, ky_arl, ky_arr, ky_arn, ky_fv, ky_rcv, List.map_cons, List.map_nil, List.drop_succ_cons, List.drop_zero, Value.category, Nat.reduceAdd, Nat.reduceSub, true_and, and_true, true_or, or_true, reduceCtorEq, ite_true, ite_false, eq_self, Nat.reduceEqDiff, Nat.reduceLeDiff, nI_add, nI_1, nI_leI, nI_ltI, nI_eq, nI_clamp, kz_m1, kz_mn, kz_mn2, kz_n0, kz_0n, kz_0, kz_le0, kz_0lt, false_implies, true_implies, not_false_eq_true, not_true_eq_false, Nat.zero_le, kb_0, kz_10, kz_of, ky_sw, kz_mx, kz_mi]) | (refine ⟨vp_in_nI (by omega) (by omega), ?_⟩) | (refine ⟨fun zc => ?_, fun zc => ?_⟩ <;> try (exfalso; omega)) | fail)
    exact hQ a f1 (kRef s 7) (kSe_rf _) h1 (kRef_al h.1 hF1)
  rw [if_neg h0] at hQ
  by_cases h1 : ¬ b = 0 ∧ ¬ p + 1 < kEnd s.o p
  case pos =>
    rw [if_pos h1] at hQ
    repeat' (first | (refine kx29 hW.1 hn hp ?_; simp only [ky_aft, ky_vl, Nat.reduceAdd]) | ((refine kx37 hW.1 hn hp ?_; show ky_aft _ _ _ _ _ _ _ _ _ (.inl (some (.int (if p + 1 < kEnd s.o p then 1 else 0)))) _; simp only [ky_aft, ky_vl, Nat.reduceAdd, if_neg h1.2])) | ((refine kx155 h (k := 6) (by omega) (by omega) ?_)) | (refine ky_ok_stp rfl ?_; simp (disch := first | omega | assumption) only [ky_stp, ky_inv, ky_ldi, ky_ldl, ky_ldd, ky_lda, ky_cl2, ky_st1, ky_st2, ky_s1i, ky_s2i, ky_s1l, ky_s2l, ky_sli, ky_s1f, ky_s2f, ky_s1d, ky_s2d, ky_sr, ky_sai, ky_sasi, ky_sasl, ky_sasr, ky_svr, ky_sv, ky_sv2, ky_s1, ky_cs, ky_pop, ky_nth, ky_snt, ky_obj, ky_ari, ky_arl, ky_arr, ky_arn, ky_fv, ky_rcv, List.map_cons, List.map_nil, List.drop_succ_cons, List.drop_zero, Value.category, Nat.reduceAdd, Nat.reduceSub, true_and, and_true, true_or, or_true, reduceCtorEq, ite_true, ite_false, eq_self, Nat.reduceEqDiff, Nat.reduceLeDiff, nI_add, nI_1, nI_leI, nI_ltI, nI_eq, nI_clamp, kz_m1, kz_mn, kz_mn2, kz_n0, kz_0n, kz_0, kz_le0, kz_0lt, false_implies, true_implies, not_false_eq_true, not_true_eq_false, Nat.zero_le, kb_0, kz_10, kz_of, ky_sw, kz_mx, kz_mi, kh0, kh1, kh2, kh23, kh30, kh40, kh42, kh37, kh44, kh46, kh47, kh48, kh12, kh53, k7, eq_false h0, eq_false h1.1, kz_6]) | (refine ⟨vp_in_nI (by omega) (by omega), ?_⟩) | (rw [if_neg (by decide)]; refine ⟨by decide, by decide, ?_⟩) | (refine ⟨by decide, by decide, ?_⟩) | (refine ⟨fun zc => ?_, fun zc => ?_⟩ <;> try (exfalso; omega)) | fail)
    intro f1 g1 hF1
    simp only [ky_aft, ky_vl, Nat.reduceAdd]
    repeat' (first | (refine ky_ok_stp rfl ?_; simp (disch := first | omega | assumption) only [ky_stp, ky_inv, ky_ldi, ky_ldl, ky_ldd, ky_lda, ky_cl2, ky_st1, ky_st2, ky_s1i, ky_s2i, ky_s1l, ky_s2l, ky_sli, ky_s1f, ky_s2f, ky_s1d, ky_s2d, ky_sr, ky_sai, ky_sasi, ky_sasl, ky_sasr, ky_svr, ky_sv, ky_sv2, ky_s1, ky_cs, ky_pop, ky_nth, ky_snt, ky_obj, ky_ari, ky_arl, ky_arr, ky_arn, ky_fv, ky_rcv, List.map_cons, List.map_nil, List.drop_succ_cons, List.drop_zero, Value.category, Nat.reduceAdd, Nat.reduceSub, true_and, and_true, true_or, or_true, reduceCtorEq, ite_true, ite_false, eq_self, Nat.reduceEqDiff, Nat.reduceLeDiff, nI_add, nI_1, nI_leI, nI_ltI, nI_eq, nI_clamp, kz_m1, kz_mn, kz_mn2, kz_n0, kz_0n, kz_0, kz_le0, kz_0lt, false_implies, true_implies, not_false_eq_true, not_true_eq_false, Nat.zero_le, kb_0, kz_10, kz_of, ky_sw, kz_mx, kz_mi]) | (refine ⟨vp_in_nI (by omega) (by omega), ?_⟩) | (refine ⟨fun zc => ?_, fun zc => ?_⟩ <;> try (exfalso; omega)) | fail)
    exact hQ a f1 (kRef s 6) (kSe_rf _) g1 (kRef_al h.1 hF1)
  rw [if_neg h1] at hQ
  -- the act
  have tail : ∀ cn sn, cn ≤ 0 → sn ≤ 0 → ky_ok adK 163 41 [some (.ref (a 0)), some (.int (nI p)), some (.int b)] [] f cn sn Q := by
    intro cn sn hcn hsn
    obtain rfl : cn = 0 := by omega
    obtain rfl : sn = 0 := by omega
    repeat' (first | (refine kx156 h ?_) | (refine ky_ok_stp rfl ?_; simp (disch := first | omega | assumption) only [ky_stp, ky_inv, ky_ldi, ky_ldl, ky_ldd, ky_lda, ky_cl2, ky_st1, ky_st2, ky_s1i, ky_s2i, ky_s1l, ky_s2l, ky_sli, ky_s1f, ky_s2f, ky_s1d, ky_s2d, ky_sr, ky_sai, ky_sasi, ky_sasl, ky_sasr, ky_svr, ky_sv, ky_sv2, ky_s1, ky_cs, ky_pop, ky_nth, ky_snt, ky_obj, ky_ari, ky_arl, ky_arr, ky_arn, ky_fv, ky_rcv, List.map_cons, List.map_nil, List.drop_succ_cons, List.drop_zero, Value.category, Nat.reduceAdd, Nat.reduceSub, true_and, and_true, true_or, or_true, reduceCtorEq, ite_true, ite_false, eq_self, Nat.reduceEqDiff, Nat.reduceLeDiff, nI_add, nI_1, nI_leI, nI_ltI, nI_eq, nI_clamp, kz_m1, kz_mn, kz_mn2, kz_n0, kz_0n, kz_0, kz_le0, kz_0lt, false_implies, true_implies, not_false_eq_true, not_true_eq_false, Nat.zero_le, kb_0, kz_10, kz_of, ky_sw, kz_mx, kz_mi, kh0, kh1, kh2, kh23, kh30, kh40, kh42, kh37, kh44, kh46, kh47, kh48, kh12, kh53]) | (refine ⟨vp_in_nI (by omega) (by omega), ?_⟩) | (rw [if_neg (by decide)]; refine ⟨by decide, by decide, ?_⟩) | (refine ⟨by decide, by decide, ?_⟩) | (refine ⟨fun zc => ?_, fun zc => ?_⟩ <;> try (exfalso; omega)) | fail)
    intro a' f1 z' B hA hB1 hB2 he hzB h1
    simp only [ky_aft, ky_vl, Nat.reduceAdd]
    have e0 : a' 0 = a 0 := hA.2.2
    rw [← e0]
    obtain ⟨kh0, kh1, kh2, kh23, kh30, kh40, kh42, ⟨_, kh37⟩, ⟨_, kh44⟩, ⟨_, kh46⟩, kh47, ⟨_, kh48⟩, ⟨_, kh12⟩, kh53⟩ := kK_hd h1
    obtain ⟨G1, hW1⟩ := h1.2.1.z.1
    obtain ⟨⟨GB, hWB⟩, hSB⟩ := hzB
    have hzn : z'.n = s.o.n := he.1
    have yB := kW_lv hWB
    repeat' (first | (refine kx46 (k := 1) h1.1 hW1 hn hp hb ?_) | (refine ky_ok_stp rfl ?_; simp (disch := first | omega | assumption) only [ky_stp, ky_inv, ky_ldi, ky_ldl, ky_ldd, ky_lda, ky_cl2, ky_st1, ky_st2, ky_s1i, ky_s2i, ky_s1l, ky_s2l, ky_sli, ky_s1f, ky_s2f, ky_s1d, ky_s2d, ky_sr, ky_sai, ky_sasi, ky_sasl, ky_sasr, ky_svr, ky_sv, ky_sv2, ky_s1, ky_cs, ky_pop, ky_nth, ky_snt, ky_obj, ky_ari, ky_arl, ky_arr, ky_arn, ky_fv, ky_rcv, List.map_cons, List.map_nil, List.drop_succ_cons, List.drop_zero, Value.category, Nat.reduceAdd, Nat.reduceSub, true_and, and_true, true_or, or_true, reduceCtorEq, ite_true, ite_false, eq_self, Nat.reduceEqDiff, Nat.reduceLeDiff, nI_add, nI_1, nI_leI, nI_ltI, nI_eq, nI_clamp, kz_m1, kz_mn, kz_mn2, kz_n0, kz_0n, kz_0, kz_le0, kz_0lt, false_implies, true_implies, not_false_eq_true, not_true_eq_false, Nat.zero_le, kb_0, kz_10, kz_of, ky_sw, kz_mx, kz_mi, kh0, kh1, kh2, kh23, kh30, kh40, kh42, kh37, kh44, kh46, kh47, kh48, kh12, kh53]) | (refine ⟨vp_in_nI (by omega) (by omega), ?_⟩) | (rw [if_neg (by decide)]; refine ⟨by decide, by decide, ?_⟩) | (refine ⟨by decide, by decide, ?_⟩) | (refine ⟨fun zc => ?_, fun zc => ?_⟩ <;> try (exfalso; omega)) | fail)
    intro f4 hW4 hF4
    simp only [ky_aft, ky_vl, Nat.reduceAdd]
    have h4 : kK a' f4 ((kBeg' s z').setO (kFdz s.o p b)) := kK_o h1 (kfr_BR hF4) ⟨⟨_, hW4⟩, kS_rb h1.2.1.z.2 hF4⟩ (kFdz_ok ho hb)
    obtain ⟨kh0, kh1, kh2, kh23, kh30, kh40, kh42, ⟨_, kh37⟩, ⟨_, kh44⟩, ⟨_, kh46⟩, kh47, ⟨_, kh48⟩, ⟨_, kh12⟩, kh53⟩ := kK_hd h4
    repeat' (first | (refine kx39k h4 ?_) | (refine ky_ok_stp rfl ?_; simp (disch := first | omega | assumption) only [ky_stp, ky_inv, ky_ldi, ky_ldl, ky_ldd, ky_lda, ky_cl2, ky_st1, ky_st2, ky_s1i, ky_s2i, ky_s1l, ky_s2l, ky_sli, ky_s1f, ky_s2f, ky_s1d, ky_s2d, ky_sr, ky_sai, ky_sasi, ky_sasl, ky_sasr, ky_svr, ky_sv, ky_sv2, ky_s1, ky_cs, ky_pop, ky_nth, ky_snt, ky_obj, ky_ari, ky_arl, ky_arr, ky_arn, ky_fv, ky_rcv, List.map_cons, List.map_nil, List.drop_succ_cons, List.drop_zero, Value.category, Nat.reduceAdd, Nat.reduceSub, true_and, and_true, true_or, or_true, reduceCtorEq, ite_true, ite_false, eq_self, Nat.reduceEqDiff, Nat.reduceLeDiff, nI_add, nI_1, nI_leI, nI_ltI, nI_eq, nI_clamp, kz_m1, kz_mn, kz_mn2, kz_n0, kz_0n, kz_0, kz_le0, kz_0lt, false_implies, true_implies, not_false_eq_true, not_true_eq_false, Nat.zero_le, kb_0, kz_10, kz_of, ky_sw, kz_mx, kz_mi, kh0, kh1, kh2, kh23, kh30, kh40, kh42, kh37, kh44, kh46, kh47, kh48, kh12, kh53]) | (refine ⟨vp_in_nI (by omega) (by omega), ?_⟩) | (rw [if_neg (by decide)]; refine ⟨by decide, by decide, ?_⟩) | (refine ⟨by decide, by decide, ?_⟩) | (refine ⟨fun zc => ?_, fun zc => ?_⟩ <;> try (exfalso; omega)) | fail)
    intro PL f5 h5 _ hF5
    simp only [ky_aft, ky_vl, Nat.reduceAdd]
    repeat' (first | (refine ky_ok_stp rfl ?_; simp (disch := first | omega | assumption) only [ky_stp, ky_inv, ky_ldi, ky_ldl, ky_ldd, ky_lda, ky_cl2, ky_st1, ky_st2, ky_s1i, ky_s2i, ky_s1l, ky_s2l, ky_sli, ky_s1f, ky_s2f, ky_s1d, ky_s2d, ky_sr, ky_sai, ky_sasi, ky_sasl, ky_sasr, ky_svr, ky_sv, ky_sv2, ky_s1, ky_cs, ky_pop, ky_nth, ky_snt, ky_obj, ky_ari, ky_arl, ky_arr, ky_arn, ky_fv, ky_rcv, List.map_cons, List.map_nil, List.drop_succ_cons, List.drop_zero, Value.category, Nat.reduceAdd, Nat.reduceSub, true_and, and_true, true_or, or_true, reduceCtorEq, ite_true, ite_false, eq_self, Nat.reduceEqDiff, Nat.reduceLeDiff, nI_add, nI_1, nI_leI, nI_ltI, nI_eq, nI_clamp, kz_m1, kz_mn, kz_mn2, kz_n0, kz_0n, kz_0, kz_le0, kz_0lt, false_implies, true_implies, not_false_eq_true, not_true_eq_false, Nat.zero_le, kb_0, kz_10, kz_of, ky_sw, kz_mx, kz_mi]) | (refine ⟨vp_in_nI (by omega) (by omega), ?_⟩) | (refine ⟨fun zc => ?_, fun zc => ?_⟩ <;> try (exfalso; omega)) | fail)
    exact hQ a' f5 _ (kAct_e he (kZe_rf _)) h5 (kAl_tr (kAl_tr hA (kAl_fr h1.1 hF4) (Z := kL7) fun j hj => ⟨fun w => hj (by unfold kBF kHF at w; unfold kL7; omega), fun w => hj (by unfold kRB at w; unfold kL7; omega)⟩) (kAl_fr h1.1 hF5) fun j hj => ⟨hj, hj⟩)
  by_cases hb0 : b = 0
  · repeat' (first | (refine kx29 hW.1 hn hp ?_; simp only [ky_aft, ky_vl, Nat.reduceAdd]) | (exact tail 0 0 (Nat.le_refl _) (Nat.le_refl _)) | (refine ky_ok_stp rfl ?_; simp (disch := first | omega | assumption) only [ky_stp, ky_inv, ky_ldi, ky_ldl, ky_ldd, ky_lda, ky_cl2, ky_st1, ky_st2, ky_s1i, ky_s2i, ky_s1l, ky_s2l, ky_sli, ky_s1f, ky_s2f, ky_s1d, ky_s2d, ky_sr, ky_sai, ky_sasi, ky_sasl, ky_sasr, ky_svr, ky_sv, ky_sv2, ky_s1, ky_cs, ky_pop, ky_nth, ky_snt, ky_obj, ky_ari, ky_arl, ky_arr, ky_arn, ky_fv, ky_rcv, List.map_cons, List.map_nil, List.drop_succ_cons, List.drop_zero, Value.category, Nat.reduceAdd, Nat.reduceSub, true_and, and_true, true_or, or_true, reduceCtorEq, ite_true, ite_false, eq_self, Nat.reduceEqDiff, Nat.reduceLeDiff, nI_add, nI_1, nI_leI, nI_ltI, nI_eq, nI_clamp, kz_m1, kz_mn, kz_mn2, kz_n0, kz_0n, kz_0, kz_le0, kz_0lt, false_implies, true_implies, not_false_eq_true, not_true_eq_false, Nat.zero_le, kb_0, kz_10, kz_of, ky_sw, kz_mx, kz_mi, kh0, kh1, kh2, kh23, kh30, kh40, kh42, kh37, kh44, kh46, kh47, kh48, kh12, kh53, k7, eq_false h0, eq_true hb0]) | (refine ⟨vp_in_nI (by omega) (by omega), ?_⟩) | (rw [if_neg (by decide)]; refine ⟨by decide, by decide, ?_⟩) | (refine ⟨by decide, by decide, ?_⟩) | (refine ⟨fun zc => ?_, fun zc => ?_⟩ <;> try (exfalso; omega)) | fail)
  · have h2 : p + 1 < kEnd s.o p := by
      by_cases g : p + 1 < kEnd s.o p
      · exact g
      · exact absurd ⟨hb0, g⟩ h1
    repeat' (first | (refine kx29 hW.1 hn hp ?_; simp only [ky_aft, ky_vl, Nat.reduceAdd]) | ((refine kx37 hW.1 hn hp ?_; show ky_aft _ _ _ _ _ _ _ _ _ (.inl (some (.int (if p + 1 < kEnd s.o p then 1 else 0)))) _; simp only [ky_aft, ky_vl, Nat.reduceAdd, if_pos h2])) | (exact tail 0 0 (Nat.le_refl _) (Nat.le_refl _)) | (refine ky_ok_stp rfl ?_; simp (disch := first | omega | assumption) only [ky_stp, ky_inv, ky_ldi, ky_ldl, ky_ldd, ky_lda, ky_cl2, ky_st1, ky_st2, ky_s1i, ky_s2i, ky_s1l, ky_s2l, ky_sli, ky_s1f, ky_s2f, ky_s1d, ky_s2d, ky_sr, ky_sai, ky_sasi, ky_sasl, ky_sasr, ky_svr, ky_sv, ky_sv2, ky_s1, ky_cs, ky_pop, ky_nth, ky_snt, ky_obj, ky_ari, ky_arl, ky_arr, ky_arn, ky_fv, ky_rcv, List.map_cons, List.map_nil, List.drop_succ_cons, List.drop_zero, Value.category, Nat.reduceAdd, Nat.reduceSub, true_and, and_true, true_or, or_true, reduceCtorEq, ite_true, ite_false, eq_self, Nat.reduceEqDiff, Nat.reduceLeDiff, nI_add, nI_1, nI_leI, nI_ltI, nI_eq, nI_clamp, kz_m1, kz_mn, kz_mn2, kz_n0, kz_0n, kz_0, kz_le0, kz_0lt, false_implies, true_implies, not_false_eq_true, not_true_eq_false, Nat.zero_le, kb_0, kz_10, kz_of, ky_sw, kz_mx, kz_mi, kh0, kh1, kh2, kh23, kh30, kh40, kh42, kh37, kh44, kh46, kh47, kh48, kh12, kh53, k7, eq_false h0, eq_false hb0, kz_10]) | (refine ⟨vp_in_nI (by omega) (by omega), ?_⟩) | (rw [if_neg (by decide)]; refine ⟨by decide, by decide, ?_⟩) | (refine ⟨by decide, by decide, ?_⟩) | (refine ⟨fun zc => ?_, fun zc => ?_⟩ <;> try (exfalso; omega)) | fail)
end KXA
