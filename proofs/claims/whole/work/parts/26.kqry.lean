-- deps: 25.keep
/-! ## the keeper: what it asks of itself -/
def kKD (z : kZ) : Nat → Nat := fun i => ksk z.S (kV z.R i)
noncomputable def kCO (z : kZ) : Nat → Nat := kCo (kPl z.R) (kV z.R) z.S (kss z.S)
noncomputable def kPF (z : kZ) : Nat → Nat := kPf (kPl z.R) (kV z.R) z.S
noncomputable def kNO (z : kZ) : Nat → List Nat := kNo (kKD z) (kCO z) (kPF z)
theorem kZo_w {z : kZ} (h : kZo z) : kNw z.n (kKD z) (kCO z) (kPF z) := by
  intro i hi
  obtain ⟨hl, h1, h6⟩ := h.lv i hi
  obtain ⟨s0, s5, s1, s2, s3⟩ := h.st _ h1 h6
  have hn := h.n60
  have nb := kNb_le (kPl z.R) (kV z.R) z.S i (kV z.R i)
  have hle := kLt_le (kV z.R) i (kV z.R i - 1)
  refine ⟨s5, ?_, ?_, ?_, ?_⟩
  · unfold kCO kCo
    split
    · omega
    · decide
  · intro hc
    unfold kCO kCo at hc
    by_cases w : kPl z.R i = 0 ∧ ¬ z.S 0 (kV z.R i) = 5
    · have : ksk z.S (kV z.R i) ≠ 5 := fun e => w.2 (by rw [s0, e]; rfl)
      show ksk z.S (kV z.R i) < 5
      omega
    · rw [if_neg w] at hc; exact absurd rfl hc
  · unfold kPF kPf
    split
    · exact hle
    · exact Nat.zero_le _
  · intro hp
    unfold kPF kPf at hp ⊢
    by_cases w : (kPl z.R i = 0 ∧ ¬ z.S 0 (kV z.R i) = 5) ∧ z.S 2 (kV z.R i) = 0 ∧ kLt (kV z.R) i (kV z.R i - 1) ≠ 0 ∧ kPl z.R (kLt (kV z.R) i (kV z.R i - 1) - 1) = 0 ∧ ¬ z.S 0 (kV z.R (kLt (kV z.R) i (kV z.R i - 1) - 1)) = 5
    · rw [if_pos w] at hp ⊢
      obtain ⟨w1, w2, w3, w4, w5⟩ := w
      obtain ⟨hl', h1', h6'⟩ := h.lv (kLt (kV z.R) i (kV z.R i - 1) - 1) (by omega)
      obtain ⟨s0', s5', s1', s2', s3'⟩ := h.st _ h1' h6'
      unfold kCO kCo
      rw [if_pos w1, if_pos ⟨w4, w5⟩]
      omega
    · rw [if_neg w] at hp; exact absurd rfl hp
theorem kZo_V {z : kZ} (h : kZo z) : ∀ i, i < z.n → 1 ≤ kV z.R i ∧ kV z.R i ≤ 6 ∧ (kPF z i ≠ 0 → kV z.R (kPF z i - 1) < kV z.R i) := by
  intro i hi
  obtain ⟨hl, h1, h6⟩ := h.lv i hi
  refine ⟨h1, h6, fun hp => ?_⟩
  unfold kPF kPf at hp ⊢
  split at hp
  · next w =>
    rw [if_pos w]
    have := kLt_V (kV z.R) i (kV z.R i - 1) w.2.2.1
    omega
  · exact absurd rfl hp
theorem kOl_len {kd ct : Nat → Nat} : ∀ l : List Nat, (∀ x ∈ l, (sgn (kd x) (ct x)).length ≤ 8) → (kOl kd ct l).length ≤ 9 * l.length
  | [], _ => Nat.le_refl _
  | x :: r, h => by
    have ih := kOl_len (kd := kd) (ct := ct) r fun y hy => h y (List.mem_cons_of_mem _ hy)
    have h1 := h x List.mem_cons_self
    simp only [kOl, List.length_append, List.length_cons]
    split
    · simp only [List.length_nil]; omega
    · simp only [List.length_cons, List.length_nil]; omega
theorem kNo_len {n p : Nat} {kd ct px : Nat → Nat} (hw : kNw n kd ct px) (hp : p < n) : (kNo kd ct px p).length ≤ 54 := by
  have h1 := kCn_lt (fun i hi => (hw i hi).2.2.2.1) 6 (p + 1) (show p + 1 ≤ n by omega)
  have h2 := kCn_len px 6 (p + 1)
  have := kOl_len (kd := kd) (ct := ct) (kCn px 6 (p + 1)).reverse fun x hx => by
    have hx' := h1 x (List.mem_reverse.mp hx)
    obtain ⟨w1, w2, w3, -⟩ := hw x hx'
    exact (sgn_ok w1 w2 w3).1
  rw [List.length_reverse] at this
  unfold kNo
  omega
/-! what is read is alike in outlines that are alike -/
theorem kLt_e {V V' : Nat → Nat} : ∀ i l, (∀ j, j < i → V' j = V j) → kLt V' i l = kLt V i l
  | 0, _, _ => rfl
  | i + 1, l, h => by rw [kLt, kLt, h i (by omega), kLt_e i l fun j hj => h j (by omega)]
theorem kNb_e {P P' : Nat → Int32} {V V' : Nat → Nat} {S S' : Nat → Nat → Int32} : ∀ i l, (∀ j, j < i → P' j = P j ∧ V' j = V j ∧ 1 ≤ V j ∧ V j ≤ 6) → 1 ≤ l → l ≤ 6 → (∀ l, 1 ≤ l → l ≤ 6 → S' 0 l = S 0 l ∧ S' 3 l = S 3 l) → kNb P' V' S' i l = kNb P V S i l
  | 0, _, _, _, _, _ => rfl
  | i + 1, l, h, h1, h6, hS => by
    obtain ⟨e1, e2, e3, e4⟩ := h i (by omega)
    rw [kNb, kNb, e1, e2, (hS l h1 h6).2, (hS _ e3 e4).1, kNb_e i l (fun j hj => h j (by omega)) h1 h6 hS]
theorem kZe_V {z z' : kZ} (h : kZe z z') {i : Nat} (hi : i < z.n) : kV z'.R i = kV z.R i := by
  unfold kV kL; rw [h.2.1 i hi]
theorem kZe_P {z z' : kZ} (h : kZe z z') {i : Nat} (hi : i < z.n) : kPl z'.R i = kPl z.R i := by
  unfold kPl; rw [h.2.1 i hi]
theorem kZe_k {z z' : kZ} (h : kZe z z') {l : Nat} (h1 : 1 ≤ l) (h6 : l ≤ 6) : ksk z'.S l = ksk z.S l ∧ kss z'.S l = kss z.S l := by
  obtain ⟨g0, g1, g2, g3⟩ := h.2.2 l h1 h6
  unfold ksk kss; rw [g0, g1]; exact ⟨rfl, rfl⟩
theorem kZe_N {z z' : kZ} (h : kZe z z') (ho : kZo z) : ∀ i, i < z.n → kKD z' i = kKD z i ∧ kCO z' i = kCO z i ∧ kPF z' i = kPF z i := by
  intro i hi
  obtain ⟨hl, h1, h6⟩ := ho.lv i hi
  obtain ⟨g0, g1, g2, g3⟩ := h.2.2 _ h1 h6
  have eV := kZe_V h hi
  have eP := kZe_P h hi
  have ek := kZe_k h h1 h6
  have eb := kNb_e (P := kPl z.R) (P' := kPl z'.R) (V := kV z.R) (V' := kV z'.R) (S := z.S) (S' := z'.S) i (kV z.R i) (fun j hj => ⟨kZe_P h (by omega), kZe_V h (by omega), (ho.lv j (by omega)).2.1, (ho.lv j (by omega)).2.2⟩) h1 h6 (fun l z1 z6 => ⟨(h.2.2 l z1 z6).1, (h.2.2 l z1 z6).2.2.2⟩)
  have el := kLt_e (V := kV z.R) (V' := kV z'.R) i (kV z.R i - 1) (fun j hj => kZe_V h (by omega))
  refine ⟨?_, ?_, ?_⟩
  · unfold kKD; rw [eV, ek.1]
  · unfold kCO kCo; rw [eV, eP, g0, ek.2, eb]
  · unfold kPF kPf
    rw [eV, eP, g0, g2, el]
    have hle := kLt_le (kV z.R) i (kV z.R i - 1)
    by_cases e : kLt (kV z.R) i (kV z.R i - 1) = 0
    · rw [e]; simp
    · obtain ⟨hl', h1', h6'⟩ := ho.lv (kLt (kV z.R) i (kV z.R i - 1) - 1) (by omega)
      rw [kZe_V h (show kLt (kV z.R) i (kV z.R i - 1) - 1 < z.n by omega), kZe_P h (show kLt (kV z.R) i (kV z.R i - 1) - 1 < z.n by omega), (h.2.2 _ h1' h6').1]
theorem kZe_rf (z : kZ) : kZe z z := ⟨rfl, fun _ _ => rfl, fun _ _ _ => ⟨rfl, rfl, rfl, rfl⟩⟩
theorem kZe_tr {z z' z'' : kZ} (h : kZe z z') (h' : kZe z' z'') : kZe z z'' :=
  ⟨h'.1.trans h.1, fun i hi => (h'.2.1 i (by rw [h.1]; exact hi)).trans (h.2.1 i hi), fun l z1 z6 => ⟨(h'.2.2 l z1 z6).1.trans (h.2.2 l z1 z6).1, (h'.2.2 l z1 z6).2.1.trans (h.2.2 l z1 z6).2.1, (h'.2.2 l z1 z6).2.2.1.trans (h.2.2 l z1 z6).2.2.1, (h'.2.2 l z1 z6).2.2.2.trans (h.2.2 l z1 z6).2.2.2⟩⟩
theorem kZo_e {z z' : kZ} (h : kZe z z') (ho : kZo z) : kZo z' := by
  have hn := h.1
  refine ⟨by rw [hn]; exact ho.n60, fun i hi => ?_, fun hi => ?_, fun i hi => ?_, fun i hi => ?_, fun l z1 z6 => ?_, fun i hi => ?_, fun l z1 z6 => ?_⟩
  · rw [hn] at hi; rw [kZe_V h hi]; unfold kL; rw [h.2.1 i hi]; exact ho.lv i hi
  · rw [hn] at hi; rw [kZe_V h hi]; exact ho.l0 hi
  · rw [hn] at hi; rw [kZe_V h hi, kZe_V h (show i < z.n by omega)]; exact ho.ls i hi
  · rw [hn] at hi; unfold kN; rw [h.2.1 i hi]; exact ho.wd i hi
  · obtain ⟨g0, g1, g2, g3⟩ := h.2.2 l z1 z6
    rw [(kZe_k h z1 z6).1, (kZe_k h z1 z6).2, g0, g1]; exact ho.st l z1 z6
  · rw [hn] at hi; unfold kPl kFo; rw [h.2.1 i hi]; exact ho.fl i hi
  · obtain ⟨g0, g1, g2, g3⟩ := h.2.2 l z1 z6
    rw [g2, g3]; exact ho.fs l z1 z6
/-- how many below n -/
noncomputable def kCt (p : Nat → Prop) : Nat → Nat
  | 0 => 0
  | i + 1 => kCt p i + (@ite Nat (p i) (Classical.propDecidable (p i)) 1 0)
theorem kCt_s1 {p : Nat → Prop} {i : Nat} (h : p i) : kCt p (i + 1) = kCt p i + 1 := by rw [kCt, if_pos h]
theorem kCt_s0 {p : Nat → Prop} {i : Nat} (h : ¬ p i) : kCt p (i + 1) = kCt p i := by rw [kCt, if_neg h]; rfl
theorem kCt_le (p : Nat → Prop) : ∀ n, kCt p n ≤ n
  | 0 => Nat.le_refl _
  | n + 1 => by
    have := kCt_le p n
    by_cases h : p n
    · rw [kCt_s1 h]; omega
    · rw [kCt_s0 h]; omega
theorem kCt_e {p q : Nat → Prop} : ∀ n, (∀ i, i < n → (p i ↔ q i)) → kCt p n = kCt q n
  | 0, _ => rfl
  | n + 1, h => by
    have ih := kCt_e n fun i hi => h i (by omega)
    by_cases e : p n
    · rw [kCt_s1 e, kCt_s1 ((h n (by omega)).mp e), ih]
    · rw [kCt_s0 e, kCt_s0 (fun w => e ((h n (by omega)).mpr w)), ih]
def kL7 (j : Nat) : Prop := j < 170 ∧ ¬ (46 ≤ j ∧ j ≤ 52)
def kL8 (j : Nat) : Prop := j < 170
section KXQ
variable {adK a : Nat → Nat} {f : ky_H} {s : kSt} {Q : ky_Q} {x y : Int32} {p q i j k ko w : Nat} {z z' : kZ}
theorem kx10z (ha : kI a) (hk : ko + 10 < k ∨ k + 6 < ko) (hz : kZb a ko f z') (he : kZe z z') (ho : kZo z) (hN : kNn a k f) (hQ : ∀ f', kNu a k f' z.n (kKD z) (kCO z) (kPF z) → kfr a f f' (kNF k) → Q (.inl none) f') : ky_cl adK 10 [.ref (a k), .ref (a ko)] f Q := by
  obtain ⟨⟨G, hW⟩, hS⟩ := hz
  obtain ⟨KD, CT, PX, NL, LV, CH, hN⟩ := hN
  have ho' := kZo_e he ho
  refine kx10 (V := kV z'.R) ha hk hW hS ho'.st ho'.n60 (fun j hj => (ho'.lv j hj).2) (fun j hj => (ho'.lv j hj).1) hN fun f' KD' CT' PX' NL' LV' h1 h2 h3 => hQ f' ⟨KD', CT', PX', NL', LV', CH, h1, fun i hi => ?_⟩ h3
  have := h2 i (by rw [he.1]; exact hi)
  obtain ⟨e1, e2, e3⟩ := kZe_N he ho i hi
  rw [← e1, ← e2, ← e3]; exact this
theorem kK_kNu {n : Nat} {kd ct px : Nat → Nat} (h : kNu a k f n kd ct px) : kNn a k f := by
  obtain ⟨KD, CT, PX, NL, LV, CH, h, -⟩ := h
  exact ⟨KD, CT, PX, NL, LV, CH, h⟩
/-- all COUNTs of now, in numbers -/
theorem kx10k (h : kK a f s) (hQ : ∀ f', kK a f' s → kNu a 23 f' s.o.n (kKD s.o) (kCO s.o) (kPF s.o) → kfr a f f' (kNF 23) → Q (.inl none) f') : ky_cl adK 10 [.ref (a 23), .ref (a 1)] f Q := by
  obtain ⟨ha, h1, h2, h3⟩ := id h
  refine kx10z ha (by omega) h1.z (kZe_rf _) h3.o h2.nb fun f' w1 w2 => hQ f' ?_ w1 w2
  exact kK_n h (fun j hj => w2 j (by unfold kNF; omega)) (kK_kNu w1)
theorem kx146 (h : kK a f s) (hp : p < s.o.n) (hQ : ∀ f', kK a f' s → kfr a f f' kL7 → Q (.inl (some (.int (kct (kCO s.o p))))) f') : ky_cl adK 146 [.ref (a 0), .int (nI p)] f Q := by
  obtain ⟨kh0, kh1, kh2, kh23, kh30, kh40, kh42, ⟨_, kh37⟩, ⟨_, kh44⟩, ⟨_, kh46⟩, kh47, ⟨_, kh48⟩, ⟨_, kh12⟩, kh53⟩ := kK_hd h
  have hn := h.2.2.2.o.n60
  refine ⟨Nat.le_of_ble_eq_true rfl, fun z => absurd z (by decide), ?_⟩; show ky_ok adK 146 0 [some (.ref (a 0)), some (.int (nI p))] [] f 0 0 _
  repeat' (first | (refine kx10k h ?_) | (refine ky_ok_stp rfl ?_; simp (disch := first | omega | assumption) only [ky_stp, ky_inv, ky_ldi, ky_ldl, ky_ldd, ky_lda, ky_cl2, ky_st1, ky_st2, ky_s1i, ky_s2i, ky_s1l, ky_s2l, ky_sli, ky_s1f, ky_s2f, ky_s1d, ky_s2d, ky_sr, ky_sai, ky_sasi, ky_sasl, ky_sasr, ky_svr, ky_sv, ky_sv2, ky_s1, ky_cs, ky_pop, ky_nth, ky_snt, ky_obj, ky_ari, ky_arl, ky_arr, ky_arn, ky_fv, ky_rcv, List.map_cons, List.map_nil, List.drop_succ_cons, List.drop_zero, Value.category, Nat.reduceAdd, Nat.reduceSub, true_and, and_true, true_or, or_true, reduceCtorEq, ite_true, ite_false, eq_self, Nat.reduceEqDiff, Nat.reduceLeDiff, nI_add, nI_1, nI_leI, nI_ltI, nI_eq, nI_clamp, kz_m1, kz_mn, kz_mn2, kz_n0, kz_0n, kz_0, kz_le0, kz_0lt, false_implies, true_implies, not_false_eq_true, not_true_eq_false, Nat.zero_le, kb_0, kz_10, kz_of, ky_sw, kz_mx, kz_mi, kh0, kh1, kh2, kh23, kh30, kh40, kh42, kh37, kh44, kh46, kh47, kh48, kh12, kh53]) | (refine ⟨vp_in_nI (by omega) (by omega), ?_⟩) | (refine ⟨fun zc => ?_, fun zc => ?_⟩ <;> try (exfalso; omega)) | fail)
  intro f1 w1 w2 w3
  simp only [ky_aft, ky_vl, Nat.reduceAdd]
  obtain ⟨kh0, kh1, kh2, kh23, kh30, kh40, kh42, ⟨_, kh37⟩, ⟨_, kh44⟩, ⟨_, kh46⟩, kh47, ⟨_, kh48⟩, ⟨_, kh12⟩, kh53⟩ := kK_hd w1
  obtain ⟨KD, CT, PX, NL, LV, CH, w5, w6⟩ := id w2
  repeat' (first | (refine kx13 w5 (show p < 60 by omega) ?_; simp only [ky_aft, ky_vl, Nat.reduceAdd]) | (refine ky_ok_stp rfl ?_; simp (disch := first | omega | assumption) only [ky_stp, ky_inv, ky_ldi, ky_ldl, ky_ldd, ky_lda, ky_cl2, ky_st1, ky_st2, ky_s1i, ky_s2i, ky_s1l, ky_s2l, ky_sli, ky_s1f, ky_s2f, ky_s1d, ky_s2d, ky_sr, ky_sai, ky_sasi, ky_sasl, ky_sasr, ky_svr, ky_sv, ky_sv2, ky_s1, ky_cs, ky_pop, ky_nth, ky_snt, ky_obj, ky_ari, ky_arl, ky_arr, ky_arn, ky_fv, ky_rcv, List.map_cons, List.map_nil, List.drop_succ_cons, List.drop_zero, Value.category, Nat.reduceAdd, Nat.reduceSub, true_and, and_true, true_or, or_true, reduceCtorEq, ite_true, ite_false, eq_self, Nat.reduceEqDiff, Nat.reduceLeDiff, nI_add, nI_1, nI_leI, nI_ltI, nI_eq, nI_clamp, kz_m1, kz_mn, kz_mn2, kz_n0, kz_0n, kz_0, kz_le0, kz_0lt, false_implies, true_implies, not_false_eq_true, not_true_eq_false, Nat.zero_le, kb_0, kz_10, kz_of, ky_sw, kz_mx, kz_mi, kh0, kh1, kh2, kh23, kh30, kh40, kh42, kh37, kh44, kh46, kh47, kh48, kh12, kh53]) | (refine ⟨vp_in_nI (by omega) (by omega), ?_⟩) | (refine ⟨fun zc => ?_, fun zc => ?_⟩ <;> try (exfalso; omega)) | fail)
  rw [(w6 p hp).2.1]
  exact hQ f1 w1 fun j hj => w3 j (by unfold kNF; unfold kL7 at hj; omega)
theorem kx147 (h : kK a f s) (hp : p < s.o.n) (hQ : ∀ f' c, kK a f' s → kB a 44 f' 54 (kNO s.o p).length c → (∀ i, i < (kNO s.o p).length → c i = (kNO s.o p).getD i 0) → kfr a f f' kL7 → Q (.inl (some (.int (nI (kNO s.o p).length)))) f') : ky_cl adK 147 [.ref (a 0), .int (nI p)] f Q := by
  have ha := h.1
  obtain ⟨kh0, kh1, kh2, kh23, kh30, kh40, kh42, ⟨_, kh37⟩, ⟨_, kh44⟩, ⟨_, kh46⟩, kh47, ⟨_, kh48⟩, ⟨_, kh12⟩, kh53⟩ := kK_hd h
  have hn := h.2.2.2.o.n60
  have hw := kZo_w h.2.2.2.o
  have hlen := kNo_len hw hp
  refine ⟨Nat.le_of_ble_eq_true rfl, fun z => absurd z (by decide), ?_⟩; show ky_ok adK 147 0 [some (.ref (a 0)), some (.int (nI p))] [] f 0 0 _
  repeat' (first | (refine kx10k h ?_) | (refine ky_ok_stp rfl ?_; simp (disch := first | omega | assumption) only [ky_stp, ky_inv, ky_ldi, ky_ldl, ky_ldd, ky_lda, ky_cl2, ky_st1, ky_st2, ky_s1i, ky_s2i, ky_s1l, ky_s2l, ky_sli, ky_s1f, ky_s2f, ky_s1d, ky_s2d, ky_sr, ky_sai, ky_sasi, ky_sasl, ky_sasr, ky_svr, ky_sv, ky_sv2, ky_s1, ky_cs, ky_pop, ky_nth, ky_snt, ky_obj, ky_ari, ky_arl, ky_arr, ky_arn, ky_fv, ky_rcv, List.map_cons, List.map_nil, List.drop_succ_cons, List.drop_zero, Value.category, Nat.reduceAdd, Nat.reduceSub, true_and, and_true, true_or, or_true, reduceCtorEq, ite_true, ite_false, eq_self, Nat.reduceEqDiff, Nat.reduceLeDiff, nI_add, nI_1, nI_leI, nI_ltI, nI_eq, nI_clamp, kz_m1, kz_mn, kz_mn2, kz_n0, kz_0n, kz_0, kz_le0, kz_0lt, false_implies, true_implies, not_false_eq_true, not_true_eq_false, Nat.zero_le, kb_0, kz_10, kz_of, ky_sw, kz_mx, kz_mi, kh0, kh1, kh2, kh23, kh30, kh40, kh42, kh37, kh44, kh46, kh47, kh48, kh12, kh53]) | (refine ⟨vp_in_nI (by omega) (by omega), ?_⟩) | (refine ⟨fun zc => ?_, fun zc => ?_⟩ <;> try (exfalso; omega)) | fail)
  intro f1 w1 w2 w3
  simp only [ky_aft, ky_vl, Nat.reduceAdd]
  obtain ⟨kh0, kh1, kh2, kh23, kh30, kh40, kh42, ⟨_, kh37⟩, ⟨_, kh44⟩, ⟨_, kh46⟩, kh47, ⟨_, kh48⟩, ⟨_, kh12⟩, kh53⟩ := kK_hd w1
  obtain ⟨tl, tc, w4⟩ := w1.2.2.1.tx
  repeat' (first | (refine kx1 ha w4 ?_) | (refine ky_ok_stp rfl ?_; simp (disch := first | omega | assumption) only [ky_stp, ky_inv, ky_ldi, ky_ldl, ky_ldd, ky_lda, ky_cl2, ky_st1, ky_st2, ky_s1i, ky_s2i, ky_s1l, ky_s2l, ky_sli, ky_s1f, ky_s2f, ky_s1d, ky_s2d, ky_sr, ky_sai, ky_sasi, ky_sasl, ky_sasr, ky_svr, ky_sv, ky_sv2, ky_s1, ky_cs, ky_pop, ky_nth, ky_snt, ky_obj, ky_ari, ky_arl, ky_arr, ky_arn, ky_fv, ky_rcv, List.map_cons, List.map_nil, List.drop_succ_cons, List.drop_zero, Value.category, Nat.reduceAdd, Nat.reduceSub, true_and, and_true, true_or, or_true, reduceCtorEq, ite_true, ite_false, eq_self, Nat.reduceEqDiff, Nat.reduceLeDiff, nI_add, nI_1, nI_leI, nI_ltI, nI_eq, nI_clamp, kz_m1, kz_mn, kz_mn2, kz_n0, kz_0n, kz_0, kz_le0, kz_0lt, false_implies, true_implies, not_false_eq_true, not_true_eq_false, Nat.zero_le, kb_0, kz_10, kz_of, ky_sw, kz_mx, kz_mi, kh0, kh1, kh2, kh23, kh30, kh40, kh42, kh37, kh44, kh46, kh47, kh48, kh12, kh53]) | (refine ⟨vp_in_nI (by omega) (by omega), ?_⟩) | (refine ⟨fun zc => ?_, fun zc => ?_⟩ <;> try (exfalso; omega)) | fail)
  intro f2 v1 v2
  simp only [ky_aft, ky_vl, Nat.reduceAdd]
  have w1' : kK a f2 s := kK_t w1 (fun j hj => v2 j (by omega)) ⟨_, _, v1⟩
  obtain ⟨kh0, kh1, kh2, kh23, kh30, kh40, kh42, ⟨_, kh37⟩, ⟨_, kh44⟩, ⟨_, kh46⟩, kh47, ⟨_, kh48⟩, ⟨_, kh12⟩, kh53⟩ := kK_hd w1'
  obtain ⟨KD, CT, PX, NL, LV, CH, w5, w6⟩ := kNu_fr w2 (fun j z1 z2 => v2 j (by omega))
  repeat' (first | (refine kx17 ha (by omega) w5 w6 hw hn hp v1 (by decide) (by omega) ?_) | (refine ky_ok_stp rfl ?_; simp (disch := first | omega | assumption) only [ky_stp, ky_inv, ky_ldi, ky_ldl, ky_ldd, ky_lda, ky_cl2, ky_st1, ky_st2, ky_s1i, ky_s2i, ky_s1l, ky_s2l, ky_sli, ky_s1f, ky_s2f, ky_s1d, ky_s2d, ky_sr, ky_sai, ky_sasi, ky_sasl, ky_sasr, ky_svr, ky_sv, ky_sv2, ky_s1, ky_cs, ky_pop, ky_nth, ky_snt, ky_obj, ky_ari, ky_arl, ky_arr, ky_arn, ky_fv, ky_rcv, List.map_cons, List.map_nil, List.drop_succ_cons, List.drop_zero, Value.category, Nat.reduceAdd, Nat.reduceSub, true_and, and_true, true_or, or_true, reduceCtorEq, ite_true, ite_false, eq_self, Nat.reduceEqDiff, Nat.reduceLeDiff, nI_add, nI_1, nI_leI, nI_ltI, nI_eq, nI_clamp, kz_m1, kz_mn, kz_mn2, kz_n0, kz_0n, kz_0, kz_le0, kz_0lt, false_implies, true_implies, not_false_eq_true, not_true_eq_false, Nat.zero_le, kb_0, kz_10, kz_of, ky_sw, kz_mx, kz_mi, kh0, kh1, kh2, kh23, kh30, kh40, kh42, kh37, kh44, kh46, kh47, kh48, kh12, kh53]) | (refine ⟨vp_in_nI (by omega) (by omega), ?_⟩) | (refine ⟨fun zc => ?_, fun zc => ?_⟩ <;> try (exfalso; omega)) | fail)
  intro f3 CH' y1 y2 y3
  simp only [ky_aft, ky_vl, Nat.reduceAdd]
  rw [Nat.zero_add] at y2
  have w8 : kK a f3 s := by
    obtain ⟨b1, b2, b3, b4⟩ := w1'
    refine ⟨b1, kK1_fr b2 fun j hj => y3 j (by unfold ksc at hj; omega), kK2_fr b3 y3 (.inl fun j _ _ => by omega) (.inr ⟨_, _, _, _, _, _, y1⟩) (.inl fun j _ _ => by omega) (.inr ⟨_, _, y2⟩) (.inl (by omega)) (.inl fun j _ _ => by omega) (.inl (by omega)) (.inl (by omega)) (.inl (by omega)), b4⟩
  obtain ⟨kh0, kh1, kh2, kh23, kh30, kh40, kh42, ⟨_, kh37⟩, ⟨_, kh44⟩, ⟨_, kh46⟩, kh47, ⟨_, kh48⟩, ⟨_, kh12⟩, kh53⟩ := kK_hd w8
  obtain ⟨B, t0, -⟩ := id y2
  repeat' (first | (refine ky_ok_stp rfl ?_; simp (disch := first | omega | assumption) only [ky_stp, ky_inv, ky_ldi, ky_ldl, ky_ldd, ky_lda, ky_cl2, ky_st1, ky_st2, ky_s1i, ky_s2i, ky_s1l, ky_s2l, ky_sli, ky_s1f, ky_s2f, ky_s1d, ky_s2d, ky_sr, ky_sai, ky_sasi, ky_sasl, ky_sasr, ky_svr, ky_sv, ky_sv2, ky_s1, ky_cs, ky_pop, ky_nth, ky_snt, ky_obj, ky_ari, ky_arl, ky_arr, ky_arn, ky_fv, ky_rcv, List.map_cons, List.map_nil, List.drop_succ_cons, List.drop_zero, Value.category, Nat.reduceAdd, Nat.reduceSub, true_and, and_true, true_or, or_true, reduceCtorEq, ite_true, ite_false, eq_self, Nat.reduceEqDiff, Nat.reduceLeDiff, nI_add, nI_1, nI_leI, nI_ltI, nI_eq, nI_clamp, kz_m1, kz_mn, kz_mn2, kz_n0, kz_0n, kz_0, kz_le0, kz_0lt, false_implies, true_implies, not_false_eq_true, not_true_eq_false, Nat.zero_le, kb_0, kz_10, kz_of, ky_sw, kz_mx, kz_mi, kh0, t0]) | (refine ⟨vp_in_nI (by omega) (by omega), ?_⟩) | (refine ⟨fun zc => ?_, fun zc => ?_⟩ <;> try (exfalso; omega)) | fail)
  refine hQ f3 _ w8 y2 (fun i hi => ?_) fun j hj => ?_
  · rw [kapp, if_neg (by omega), Nat.sub_zero]; rfl
  · unfold kL7 at hj
    exact (y3 j (by omega)).trans ((v2 j (by omega)).trans (w3 j (by unfold kNF; omega)))
theorem kx148 (h : kK a f s) (hQ : ∀ f', kK a f' s → kfr a f f' kL7 → Q (.inl (some (.int (nI (kCt (fun i => kCO s.o i ≠ 0) s.o.n))))) f') : ky_cl adK 148 [.ref (a 0)] f Q := by
  have ha := h.1
  obtain ⟨kh0, kh1, kh2, kh23, kh30, kh40, kh42, ⟨_, kh37⟩, ⟨_, kh44⟩, ⟨_, kh46⟩, kh47, ⟨_, kh48⟩, ⟨_, kh12⟩, kh53⟩ := kK_hd h
  have hn := h.2.2.2.o.n60
  have hw := kZo_w h.2.2.2.o
  have loop : ∀ m i f, i + m = s.o.n → kK a f s → kNu a 23 f s.o.n (kKD s.o) (kCO s.o) (kPF s.o) → Q (.inl (some (.int (nI (kCt (fun i => kCO s.o i ≠ 0) s.o.n))))) f → ky_ok adK 148 15 [some (.ref (a 0)), some (.int (nI (kCt (fun i => kCO s.o i ≠ 0) i))), some (.int (nI i))] [] f 0 0 Q := by
    intro m
    induction m with
    | zero =>
      intro i f hi h hN hQ
      obtain ⟨kh0, kh1, kh2, kh23, kh30, kh40, kh42, ⟨_, kh37⟩, ⟨_, kh44⟩, ⟨_, kh46⟩, kh47, ⟨_, kh48⟩, ⟨_, kh12⟩, kh53⟩ := kK_hd h
      obtain ⟨G, hW⟩ := h.2.1.z.1
      have y0 := kW_lv hW
      repeat' (first | (refine ky_ok_stp rfl ?_; simp (disch := first | omega | assumption) only [ky_stp, ky_inv, ky_ldi, ky_ldl, ky_ldd, ky_lda, ky_cl2, ky_st1, ky_st2, ky_s1i, ky_s2i, ky_s1l, ky_s2l, ky_sli, ky_s1f, ky_s2f, ky_s1d, ky_s2d, ky_sr, ky_sai, ky_sasi, ky_sasl, ky_sasr, ky_svr, ky_sv, ky_sv2, ky_s1, ky_cs, ky_pop, ky_nth, ky_snt, ky_obj, ky_ari, ky_arl, ky_arr, ky_arn, ky_fv, ky_rcv, List.map_cons, List.map_nil, List.drop_succ_cons, List.drop_zero, Value.category, Nat.reduceAdd, Nat.reduceSub, true_and, and_true, true_or, or_true, reduceCtorEq, ite_true, ite_false, eq_self, Nat.reduceEqDiff, Nat.reduceLeDiff, nI_add, nI_1, nI_leI, nI_ltI, nI_eq, nI_clamp, kz_m1, kz_mn, kz_mn2, kz_n0, kz_0n, kz_0, kz_le0, kz_0lt, false_implies, true_implies, not_false_eq_true, not_true_eq_false, Nat.zero_le, kb_0, kz_10, kz_of, ky_sw, kz_mx, kz_mi, kh0, kh1, kh2, kh23, kh30, kh40, kh42, kh37, kh44, kh46, kh47, kh48, kh12, kh53]) | (refine ⟨vp_in_nI (by omega) (by omega), ?_⟩) | (refine ⟨fun zc => ?_, fun zc => ?_⟩ <;> try (exfalso; omega)) | fail)
      obtain rfl : i = s.o.n := by omega
      exact hQ
    | succ m ih =>
      intro i f hi h hN hQ
      obtain ⟨kh0, kh1, kh2, kh23, kh30, kh40, kh42, ⟨_, kh37⟩, ⟨_, kh44⟩, ⟨_, kh46⟩, kh47, ⟨_, kh48⟩, ⟨_, kh12⟩, kh53⟩ := kK_hd h
      obtain ⟨G, hW⟩ := h.2.1.z.1
      have y0 := kW_lv hW
      obtain ⟨KD, CT, PX, NL, LV, CH, w5, w6⟩ := id hN
      have hle := kCt_le (fun i => kCO s.o i ≠ 0) i
      by_cases hc : kCO s.o i = 0
      · have e := kCt_s0 (p := fun i => kCO s.o i ≠ 0) (fun z => z hc)
        repeat' (first | (refine kx14 w5 (show i < 60 by omega) (w6 i (by omega)).2.1 (hw i (by omega)).2.1 ?_; simp only [ky_aft, ky_vl, Nat.reduceAdd]) | (refine (by have := ih (i + 1) f (by omega) h hN hQ; rw [e] at this; exact this)) | (refine ky_ok_stp rfl ?_; simp (disch := first | omega | assumption) only [ky_stp, ky_inv, ky_ldi, ky_ldl, ky_ldd, ky_lda, ky_cl2, ky_st1, ky_st2, ky_s1i, ky_s2i, ky_s1l, ky_s2l, ky_sli, ky_s1f, ky_s2f, ky_s1d, ky_s2d, ky_sr, ky_sai, ky_sasi, ky_sasl, ky_sasr, ky_svr, ky_sv, ky_sv2, ky_s1, ky_cs, ky_pop, ky_nth, ky_snt, ky_obj, ky_ari, ky_arl, ky_arr, ky_arn, ky_fv, ky_rcv, List.map_cons, List.map_nil, List.drop_succ_cons, List.drop_zero, Value.category, Nat.reduceAdd, Nat.reduceSub, true_and, and_true, true_or, or_true, reduceCtorEq, ite_true, ite_false, eq_self, Nat.reduceEqDiff, Nat.reduceLeDiff, nI_add, nI_1, nI_leI, nI_ltI, nI_eq, nI_clamp, kz_m1, kz_mn, kz_mn2, kz_n0, kz_0n, kz_0, kz_le0, kz_0lt, false_implies, true_implies, not_false_eq_true, not_true_eq_false, Nat.zero_le, kb_0, kz_10, kz_of, ky_sw, kz_mx, kz_mi, kh0, kh1, kh2, kh23, kh30, kh40, kh42, kh37, kh44, kh46, kh47, kh48, kh12, kh53, if_pos hc]) | (refine ⟨vp_in_nI (by omega) (by omega), ?_⟩) | (refine ⟨fun zc => ?_, fun zc => ?_⟩ <;> try (exfalso; omega)) | fail)
      · have e := kCt_s1 (p := fun i => kCO s.o i ≠ 0) hc
        repeat' (first | (refine kx14 w5 (show i < 60 by omega) (w6 i (by omega)).2.1 (hw i (by omega)).2.1 ?_; simp only [ky_aft, ky_vl, Nat.reduceAdd]) | (refine (by have := ih (i + 1) f (by omega) h hN hQ; rw [e] at this; exact this)) | (refine ky_ok_stp rfl ?_; simp (disch := first | omega | assumption) only [ky_stp, ky_inv, ky_ldi, ky_ldl, ky_ldd, ky_lda, ky_cl2, ky_st1, ky_st2, ky_s1i, ky_s2i, ky_s1l, ky_s2l, ky_sli, ky_s1f, ky_s2f, ky_s1d, ky_s2d, ky_sr, ky_sai, ky_sasi, ky_sasl, ky_sasr, ky_svr, ky_sv, ky_sv2, ky_s1, ky_cs, ky_pop, ky_nth, ky_snt, ky_obj, ky_ari, ky_arl, ky_arr, ky_arn, ky_fv, ky_rcv, List.map_cons, List.map_nil, List.drop_succ_cons, List.drop_zero, Value.category, Nat.reduceAdd, Nat.reduceSub, true_and, and_true, true_or, or_true, reduceCtorEq, ite_true, ite_false, eq_self, Nat.reduceEqDiff, Nat.reduceLeDiff, nI_add, nI_1, nI_leI, nI_ltI, nI_eq, nI_clamp, kz_m1, kz_mn, kz_mn2, kz_n0, kz_0n, kz_0, kz_le0, kz_0lt, false_implies, true_implies, not_false_eq_true, not_true_eq_false, Nat.zero_le, kb_0, kz_10, kz_of, ky_sw, kz_mx, kz_mi, kh0, kh1, kh2, kh23, kh30, kh40, kh42, kh37, kh44, kh46, kh47, kh48, kh12, kh53, if_neg hc]) | (refine ⟨vp_in_nI (by omega) (by omega), ?_⟩) | (refine ⟨fun zc => ?_, fun zc => ?_⟩ <;> try (exfalso; omega)) | fail)
  refine ⟨Nat.le_of_ble_eq_true rfl, fun z => absurd z (by decide), ?_⟩; show ky_ok adK 148 0 [some (.ref (a 0)), none, none] [] f 0 0 _
  repeat' (first | (refine kx10k h ?_) | (refine ky_ok_stp rfl ?_; simp (disch := first | omega | assumption) only [ky_stp, ky_inv, ky_ldi, ky_ldl, ky_ldd, ky_lda, ky_cl2, ky_st1, ky_st2, ky_s1i, ky_s2i, ky_s1l, ky_s2l, ky_sli, ky_s1f, ky_s2f, ky_s1d, ky_s2d, ky_sr, ky_sai, ky_sasi, ky_sasl, ky_sasr, ky_svr, ky_sv, ky_sv2, ky_s1, ky_cs, ky_pop, ky_nth, ky_snt, ky_obj, ky_ari, ky_arl, ky_arr, ky_arn, ky_fv, ky_rcv, List.map_cons, List.map_nil, List.drop_succ_cons, List.drop_zero, Value.category, Nat.reduceAdd, Nat.reduceSub, true_and, and_true, true_or, or_true, reduceCtorEq, ite_true, ite_false, eq_self, Nat.reduceEqDiff, Nat.reduceLeDiff, nI_add, nI_1, nI_leI, nI_ltI, nI_eq, nI_clamp, kz_m1, kz_mn, kz_mn2, kz_n0, kz_0n, kz_0, kz_le0, kz_0lt, false_implies, true_implies, not_false_eq_true, not_true_eq_false, Nat.zero_le, kb_0, kz_10, kz_of, ky_sw, kz_mx, kz_mi, kh0, kh1, kh2, kh23, kh30, kh40, kh42, kh37, kh44, kh46, kh47, kh48, kh12, kh53]) | (refine ⟨vp_in_nI (by omega) (by omega), ?_⟩) | (refine ⟨fun zc => ?_, fun zc => ?_⟩ <;> try (exfalso; omega)) | fail)
  intro f1 w1 w2 w3
  simp only [ky_aft, ky_vl, Nat.reduceAdd]
  repeat' (first | (refine loop s.o.n 0 f1 (by omega) w1 w2 (hQ f1 w1 fun j hj => w3 j (by unfold kNF; unfold kL7 at hj; omega))) | (refine ky_ok_stp rfl ?_; simp (disch := first | omega | assumption) only [ky_stp, ky_inv, ky_ldi, ky_ldl, ky_ldd, ky_lda, ky_cl2, ky_st1, ky_st2, ky_s1i, ky_s2i, ky_s1l, ky_s2l, ky_sli, ky_s1f, ky_s2f, ky_s1d, ky_s2d, ky_sr, ky_sai, ky_sasi, ky_sasl, ky_sasr, ky_svr, ky_sv, ky_sv2, ky_s1, ky_cs, ky_pop, ky_nth, ky_snt, ky_obj, ky_ari, ky_arl, ky_arr, ky_arn, ky_fv, ky_rcv, List.map_cons, List.map_nil, List.drop_succ_cons, List.drop_zero, Value.category, Nat.reduceAdd, Nat.reduceSub, true_and, and_true, true_or, or_true, reduceCtorEq, ite_true, ite_false, eq_self, Nat.reduceEqDiff, Nat.reduceLeDiff, nI_add, nI_1, nI_leI, nI_ltI, nI_eq, nI_clamp, kz_m1, kz_mn, kz_mn2, kz_n0, kz_0n, kz_0, kz_le0, kz_0lt, false_implies, true_implies, not_false_eq_true, not_true_eq_false, Nat.zero_le, kb_0, kz_10, kz_of, ky_sw, kz_mx, kz_mi]) | (refine ⟨vp_in_nI (by omega) (by omega), ?_⟩) | (refine ⟨fun zc => ?_, fun zc => ?_⟩ <;> try (exfalso; omega)) | fail)
/-- NUMBERs alike -/
def kSn (z z' : kZ) (i j : Nat) : Prop := kSm (kKD z) (kCO z) (kPF z) (kKD z') (kCO z') (kPF z') 6 (i + 1) (j + 1)
theorem kx150 (h : kK a f s) (hp : p < s.o.n) (hN : kNu a 23 f s.o.n (kKD s.o) (kCO s.o) (kPF s.o)) (hQ1 : (∃ j, j < s.o.n ∧ j ≠ p ∧ kSn s.o s.o p j) → Q (.inl (some (.int 1))) f) (hQ0 : (¬ ∃ j, j < s.o.n ∧ j ≠ p ∧ kSn s.o s.o p j) → Q (.inl (some (.int 0))) f) : ky_cl adK 150 [.ref (a 0), .int (nI p)] f Q := by
  obtain ⟨kh0, kh1, kh2, kh23, kh30, kh40, kh42, ⟨_, kh37⟩, ⟨_, kh44⟩, ⟨_, kh46⟩, kh47, ⟨_, kh48⟩, ⟨_, kh12⟩, kh53⟩ := kK_hd h
  have hn := h.2.2.2.o.n60
  have hw := kZo_w h.2.2.2.o
  have hV := kZo_V h.2.2.2.o
  obtain ⟨G, hW⟩ := h.2.1.z.1
  have y0 := kW_lv hW
  obtain ⟨KD, CT, PX, NL, LV, CH, w5, w6⟩ := id hN
  have loop : ∀ m t, t + m = s.o.n → (∀ j, j < t → j ≠ p → ¬ kSn s.o s.o p j) → ky_ok adK 150 2 [some (.ref (a 0)), some (.int (nI p)), some (.int (nI t))] [] f 0 0 Q := by
    intro m
    induction m with
    | zero =>
      intro t ht hno
      repeat' (first | (refine ky_ok_stp rfl ?_; simp (disch := first | omega | assumption) only [ky_stp, ky_inv, ky_ldi, ky_ldl, ky_ldd, ky_lda, ky_cl2, ky_st1, ky_st2, ky_s1i, ky_s2i, ky_s1l, ky_s2l, ky_sli, ky_s1f, ky_s2f, ky_s1d, ky_s2d, ky_sr, ky_sai, ky_sasi, ky_sasl, ky_sasr, ky_svr, ky_sv, ky_sv2, ky_s1, ky_cs, ky_pop, ky_nth, ky_snt, ky_obj, ky_ari, ky_arl, ky_arr, ky_arn, ky_fv, ky_rcv, List.map_cons, List.map_nil, List.drop_succ_cons, List.drop_zero, Value.category, Nat.reduceAdd, Nat.reduceSub, true_and, and_true, true_or, or_true, reduceCtorEq, ite_true, ite_false, eq_self, Nat.reduceEqDiff, Nat.reduceLeDiff, nI_add, nI_1, nI_leI, nI_ltI, nI_eq, nI_clamp, kz_m1, kz_mn, kz_mn2, kz_n0, kz_0n, kz_0, kz_le0, kz_0lt, false_implies, true_implies, not_false_eq_true, not_true_eq_false, Nat.zero_le, kb_0, kz_10, kz_of, ky_sw, kz_mx, kz_mi, kh0, kh1, kh2, kh23, kh30, kh40, kh42, kh37, kh44, kh46, kh47, kh48, kh12, kh53]) | (refine ⟨vp_in_nI (by omega) (by omega), ?_⟩) | (refine ⟨fun zc => ?_, fun zc => ?_⟩ <;> try (exfalso; omega)) | fail)
      exact hQ0 fun ⟨j, j1, j2, j3⟩ => hno j (by omega) j2 j3
    | succ m ih =>
      intro t ht hno
      by_cases hs : kSn s.o s.o p t
      · repeat' (first | ((refine kx15 w5 w6 hw w5 w6 hw hn hn hp (show t < s.o.n by omega) hV hV (fun _ => ?_) (fun z => absurd hs z); simp only [ky_aft, ky_vl, Nat.reduceAdd])) | (refine ih (t + 1) (by omega) ?_) | (refine ky_ok_stp rfl ?_; simp (disch := first | omega | assumption) only [ky_stp, ky_inv, ky_ldi, ky_ldl, ky_ldd, ky_lda, ky_cl2, ky_st1, ky_st2, ky_s1i, ky_s2i, ky_s1l, ky_s2l, ky_sli, ky_s1f, ky_s2f, ky_s1d, ky_s2d, ky_sr, ky_sai, ky_sasi, ky_sasl, ky_sasr, ky_svr, ky_sv, ky_sv2, ky_s1, ky_cs, ky_pop, ky_nth, ky_snt, ky_obj, ky_ari, ky_arl, ky_arr, ky_arn, ky_fv, ky_rcv, List.map_cons, List.map_nil, List.drop_succ_cons, List.drop_zero, Value.category, Nat.reduceAdd, Nat.reduceSub, true_and, and_true, true_or, or_true, reduceCtorEq, ite_true, ite_false, eq_self, Nat.reduceEqDiff, Nat.reduceLeDiff, nI_add, nI_1, nI_leI, nI_ltI, nI_eq, nI_clamp, kz_m1, kz_mn, kz_mn2, kz_n0, kz_0n, kz_0, kz_le0, kz_0lt, false_implies, true_implies, not_false_eq_true, not_true_eq_false, Nat.zero_le, kb_0, kz_10, kz_of, ky_sw, kz_mx, kz_mi, kh0, kh1, kh2, kh23, kh30, kh40, kh42, kh37, kh44, kh46, kh47, kh48, kh12, kh53]) | (refine ⟨vp_in_nI (by omega) (by omega), ?_⟩) | (refine ⟨fun zc => ?_, fun zc => ?_⟩ <;> try (exfalso; omega)) | fail)
        · intro j hj hjp
          by_cases e : j = t
          · omega
          · exact hno j (by omega) hjp
        · exact hQ1 ⟨t, by omega, zc, hs⟩
      · repeat' (first | ((refine kx15 w5 w6 hw w5 w6 hw hn hn hp (show t < s.o.n by omega) hV hV (fun z => absurd z hs) (fun _ => ?_); simp only [ky_aft, ky_vl, Nat.reduceAdd])) | (refine ih (t + 1) (by omega) ?_) | (refine ky_ok_stp rfl ?_; simp (disch := first | omega | assumption) only [ky_stp, ky_inv, ky_ldi, ky_ldl, ky_ldd, ky_lda, ky_cl2, ky_st1, ky_st2, ky_s1i, ky_s2i, ky_s1l, ky_s2l, ky_sli, ky_s1f, ky_s2f, ky_s1d, ky_s2d, ky_sr, ky_sai, ky_sasi, ky_sasl, ky_sasr, ky_svr, ky_sv, ky_sv2, ky_s1, ky_cs, ky_pop, ky_nth, ky_snt, ky_obj, ky_ari, ky_arl, ky_arr, ky_arn, ky_fv, ky_rcv, List.map_cons, List.map_nil, List.drop_succ_cons, List.drop_zero, Value.category, Nat.reduceAdd, Nat.reduceSub, true_and, and_true, true_or, or_true, reduceCtorEq, ite_true, ite_false, eq_self, Nat.reduceEqDiff, Nat.reduceLeDiff, nI_add, nI_1, nI_leI, nI_ltI, nI_eq, nI_clamp, kz_m1, kz_mn, kz_mn2, kz_n0, kz_0n, kz_0, kz_le0, kz_0lt, false_implies, true_implies, not_false_eq_true, not_true_eq_false, Nat.zero_le, kb_0, kz_10, kz_of, ky_sw, kz_mx, kz_mi, kh0, kh1, kh2, kh23, kh30, kh40, kh42, kh37, kh44, kh46, kh47, kh48, kh12, kh53]) | (refine ⟨vp_in_nI (by omega) (by omega), ?_⟩) | (refine ⟨fun zc => ?_, fun zc => ?_⟩ <;> try (exfalso; omega)) | fail)
        · intro j hj hjp
          by_cases e : j = t
          · omega
          · exact hno j (by omega) hjp
        · intro j hj hjp
          by_cases e : j = t
          · subst e; exact hs
          · exact hno j (by omega) hjp
  refine ⟨Nat.le_of_ble_eq_true rfl, fun z => absurd z (by decide), ?_⟩; show ky_ok adK 150 0 [some (.ref (a 0)), some (.int (nI p)), none] [] f 0 0 _
  repeat' (first | (refine loop s.o.n 0 (by omega) fun j hj => by omega) | (refine ky_ok_stp rfl ?_; simp (disch := first | omega | assumption) only [ky_stp, ky_inv, ky_ldi, ky_ldl, ky_ldd, ky_lda, ky_cl2, ky_st1, ky_st2, ky_s1i, ky_s2i, ky_s1l, ky_s2l, ky_sli, ky_s1f, ky_s2f, ky_s1d, ky_s2d, ky_sr, ky_sai, ky_sasi, ky_sasl, ky_sasr, ky_svr, ky_sv, ky_sv2, ky_s1, ky_cs, ky_pop, ky_nth, ky_snt, ky_obj, ky_ari, ky_arl, ky_arr, ky_arn, ky_fv, ky_rcv, List.map_cons, List.map_nil, List.drop_succ_cons, List.drop_zero, Value.category, Nat.reduceAdd, Nat.reduceSub, true_and, and_true, true_or, or_true, reduceCtorEq, ite_true, ite_false, eq_self, Nat.reduceEqDiff, Nat.reduceLeDiff, nI_add, nI_1, nI_leI, nI_ltI, nI_eq, nI_clamp, kz_m1, kz_mn, kz_mn2, kz_n0, kz_0n, kz_0, kz_le0, kz_0lt, false_implies, true_implies, not_false_eq_true, not_true_eq_false, Nat.zero_le, kb_0, kz_10, kz_of, ky_sw, kz_mx, kz_mi]) | (refine ⟨vp_in_nI (by omega) (by omega), ?_⟩) | (refine ⟨fun zc => ?_, fun zc => ?_⟩ <;> try (exfalso; omega)) | fail)
def kShr (z : kZ) (i : Nat) : Prop := kCO z i ≠ 0 ∧ ∃ j, j < z.n ∧ j ≠ i ∧ kSn z z i j
theorem kx149 (h : kK a f s) (hQ : ∀ f', kK a f' s → kfr a f f' kL7 → Q (.inl (some (.int (nI (kCt (kShr s.o) s.o.n))))) f') : ky_cl adK 149 [.ref (a 0)] f Q := by
  have ha := h.1
  obtain ⟨kh0, kh1, kh2, kh23, kh30, kh40, kh42, ⟨_, kh37⟩, ⟨_, kh44⟩, ⟨_, kh46⟩, kh47, ⟨_, kh48⟩, ⟨_, kh12⟩, kh53⟩ := kK_hd h
  have hn := h.2.2.2.o.n60
  have hw := kZo_w h.2.2.2.o
  have loop : ∀ m i f, i + m = s.o.n → kK a f s → kNu a 23 f s.o.n (kKD s.o) (kCO s.o) (kPF s.o) → Q (.inl (some (.int (nI (kCt (kShr s.o) s.o.n))))) f → ky_ok adK 149 15 [some (.ref (a 0)), some (.int (nI (kCt (kShr s.o) i))), some (.int (nI i))] [] f 0 0 Q := by
    intro m
    induction m with
    | zero =>
      intro i f hi h hN hQ
      obtain ⟨kh0, kh1, kh2, kh23, kh30, kh40, kh42, ⟨_, kh37⟩, ⟨_, kh44⟩, ⟨_, kh46⟩, kh47, ⟨_, kh48⟩, ⟨_, kh12⟩, kh53⟩ := kK_hd h
      obtain ⟨G, hW⟩ := h.2.1.z.1
      have y0 := kW_lv hW
      repeat' (first | (refine ky_ok_stp rfl ?_; simp (disch := first | omega | assumption) only [ky_stp, ky_inv, ky_ldi, ky_ldl, ky_ldd, ky_lda, ky_cl2, ky_st1, ky_st2, ky_s1i, ky_s2i, ky_s1l, ky_s2l, ky_sli, ky_s1f, ky_s2f, ky_s1d, ky_s2d, ky_sr, ky_sai, ky_sasi, ky_sasl, ky_sasr, ky_svr, ky_sv, ky_sv2, ky_s1, ky_cs, ky_pop, ky_nth, ky_snt, ky_obj, ky_ari, ky_arl, ky_arr, ky_arn, ky_fv, ky_rcv, List.map_cons, List.map_nil, List.drop_succ_cons, List.drop_zero, Value.category, Nat.reduceAdd, Nat.reduceSub, true_and, and_true, true_or, or_true, reduceCtorEq, ite_true, ite_false, eq_self, Nat.reduceEqDiff, Nat.reduceLeDiff, nI_add, nI_1, nI_leI, nI_ltI, nI_eq, nI_clamp, kz_m1, kz_mn, kz_mn2, kz_n0, kz_0n, kz_0, kz_le0, kz_0lt, false_implies, true_implies, not_false_eq_true, not_true_eq_false, Nat.zero_le, kb_0, kz_10, kz_of, ky_sw, kz_mx, kz_mi, kh0, kh1, kh2, kh23, kh30, kh40, kh42, kh37, kh44, kh46, kh47, kh48, kh12, kh53]) | (refine ⟨vp_in_nI (by omega) (by omega), ?_⟩) | (refine ⟨fun zc => ?_, fun zc => ?_⟩ <;> try (exfalso; omega)) | fail)
      obtain rfl : i = s.o.n := by omega
      exact hQ
    | succ m ih =>
      intro i f hi h hN hQ
      obtain ⟨kh0, kh1, kh2, kh23, kh30, kh40, kh42, ⟨_, kh37⟩, ⟨_, kh44⟩, ⟨_, kh46⟩, kh47, ⟨_, kh48⟩, ⟨_, kh12⟩, kh53⟩ := kK_hd h
      obtain ⟨G, hW⟩ := h.2.1.z.1
      have y0 := kW_lv hW
      obtain ⟨KD, CT, PX, NL, LV, CH, w5, w6⟩ := id hN
      have hle := kCt_le (kShr s.o) i
      by_cases hc : kCO s.o i = 0
      · have e := kCt_s0 (p := kShr s.o) (i := i) (fun z => z.1 hc)
        repeat' (first | (refine kx14 w5 (show i < 60 by omega) (w6 i (by omega)).2.1 (hw i (by omega)).2.1 ?_; simp only [ky_aft, ky_vl, Nat.reduceAdd]) | (refine (by have := ih (i + 1) f (by omega) h hN hQ; rw [e] at this; exact this)) | (refine ky_ok_stp rfl ?_; simp (disch := first | omega | assumption) only [ky_stp, ky_inv, ky_ldi, ky_ldl, ky_ldd, ky_lda, ky_cl2, ky_st1, ky_st2, ky_s1i, ky_s2i, ky_s1l, ky_s2l, ky_sli, ky_s1f, ky_s2f, ky_s1d, ky_s2d, ky_sr, ky_sai, ky_sasi, ky_sasl, ky_sasr, ky_svr, ky_sv, ky_sv2, ky_s1, ky_cs, ky_pop, ky_nth, ky_snt, ky_obj, ky_ari, ky_arl, ky_arr, ky_arn, ky_fv, ky_rcv, List.map_cons, List.map_nil, List.drop_succ_cons, List.drop_zero, Value.category, Nat.reduceAdd, Nat.reduceSub, true_and, and_true, true_or, or_true, reduceCtorEq, ite_true, ite_false, eq_self, Nat.reduceEqDiff, Nat.reduceLeDiff, nI_add, nI_1, nI_leI, nI_ltI, nI_eq, nI_clamp, kz_m1, kz_mn, kz_mn2, kz_n0, kz_0n, kz_0, kz_le0, kz_0lt, false_implies, true_implies, not_false_eq_true, not_true_eq_false, Nat.zero_le, kb_0, kz_10, kz_of, ky_sw, kz_mx, kz_mi, kh0, kh1, kh2, kh23, kh30, kh40, kh42, kh37, kh44, kh46, kh47, kh48, kh12, kh53, if_pos hc]) | (refine ⟨vp_in_nI (by omega) (by omega), ?_⟩) | (refine ⟨fun zc => ?_, fun zc => ?_⟩ <;> try (exfalso; omega)) | fail)
      · by_cases hs : ∃ j, j < s.o.n ∧ j ≠ i ∧ kSn s.o s.o i j
        · have e := kCt_s1 (p := kShr s.o) (i := i) ⟨hc, hs⟩
          repeat' (first | (refine kx14 w5 (show i < 60 by omega) (w6 i (by omega)).2.1 (hw i (by omega)).2.1 ?_; simp only [ky_aft, ky_vl, Nat.reduceAdd]) | ((refine kx150 h (show i < s.o.n by omega) hN (fun _ => ?_) (fun z => absurd hs z); simp only [ky_aft, ky_vl, Nat.reduceAdd])) | (refine (by have := ih (i + 1) f (by omega) h hN hQ; rw [e] at this; exact this)) | (refine ky_ok_stp rfl ?_; simp (disch := first | omega | assumption) only [ky_stp, ky_inv, ky_ldi, ky_ldl, ky_ldd, ky_lda, ky_cl2, ky_st1, ky_st2, ky_s1i, ky_s2i, ky_s1l, ky_s2l, ky_sli, ky_s1f, ky_s2f, ky_s1d, ky_s2d, ky_sr, ky_sai, ky_sasi, ky_sasl, ky_sasr, ky_svr, ky_sv, ky_sv2, ky_s1, ky_cs, ky_pop, ky_nth, ky_snt, ky_obj, ky_ari, ky_arl, ky_arr, ky_arn, ky_fv, ky_rcv, List.map_cons, List.map_nil, List.drop_succ_cons, List.drop_zero, Value.category, Nat.reduceAdd, Nat.reduceSub, true_and, and_true, true_or, or_true, reduceCtorEq, ite_true, ite_false, eq_self, Nat.reduceEqDiff, Nat.reduceLeDiff, nI_add, nI_1, nI_leI, nI_ltI, nI_eq, nI_clamp, kz_m1, kz_mn, kz_mn2, kz_n0, kz_0n, kz_0, kz_le0, kz_0lt, false_implies, true_implies, not_false_eq_true, not_true_eq_false, Nat.zero_le, kb_0, kz_10, kz_of, ky_sw, kz_mx, kz_mi, kh0, kh1, kh2, kh23, kh30, kh40, kh42, kh37, kh44, kh46, kh47, kh48, kh12, kh53, if_neg hc]) | (refine ⟨vp_in_nI (by omega) (by omega), ?_⟩) | (refine ⟨fun zc => ?_, fun zc => ?_⟩ <;> try (exfalso; omega)) | fail)
        · have e := kCt_s0 (p := kShr s.o) (i := i) (fun z => hs z.2)
          repeat' (first | (refine kx14 w5 (show i < 60 by omega) (w6 i (by omega)).2.1 (hw i (by omega)).2.1 ?_; simp only [ky_aft, ky_vl, Nat.reduceAdd]) | ((refine kx150 h (show i < s.o.n by omega) hN (fun z => absurd z hs) (fun _ => ?_); simp only [ky_aft, ky_vl, Nat.reduceAdd])) | (refine (by have := ih (i + 1) f (by omega) h hN hQ; rw [e] at this; exact this)) | (refine ky_ok_stp rfl ?_; simp (disch := first | omega | assumption) only [ky_stp, ky_inv, ky_ldi, ky_ldl, ky_ldd, ky_lda, ky_cl2, ky_st1, ky_st2, ky_s1i, ky_s2i, ky_s1l, ky_s2l, ky_sli, ky_s1f, ky_s2f, ky_s1d, ky_s2d, ky_sr, ky_sai, ky_sasi, ky_sasl, ky_sasr, ky_svr, ky_sv, ky_sv2, ky_s1, ky_cs, ky_pop, ky_nth, ky_snt, ky_obj, ky_ari, ky_arl, ky_arr, ky_arn, ky_fv, ky_rcv, List.map_cons, List.map_nil, List.drop_succ_cons, List.drop_zero, Value.category, Nat.reduceAdd, Nat.reduceSub, true_and, and_true, true_or, or_true, reduceCtorEq, ite_true, ite_false, eq_self, Nat.reduceEqDiff, Nat.reduceLeDiff, nI_add, nI_1, nI_leI, nI_ltI, nI_eq, nI_clamp, kz_m1, kz_mn, kz_mn2, kz_n0, kz_0n, kz_0, kz_le0, kz_0lt, false_implies, true_implies, not_false_eq_true, not_true_eq_false, Nat.zero_le, kb_0, kz_10, kz_of, ky_sw, kz_mx, kz_mi, kh0, kh1, kh2, kh23, kh30, kh40, kh42, kh37, kh44, kh46, kh47, kh48, kh12, kh53, if_neg hc]) | (refine ⟨vp_in_nI (by omega) (by omega), ?_⟩) | (refine ⟨fun zc => ?_, fun zc => ?_⟩ <;> try (exfalso; omega)) | fail)
  refine ⟨Nat.le_of_ble_eq_true rfl, fun z => absurd z (by decide), ?_⟩; show ky_ok adK 149 0 [some (.ref (a 0)), none, none] [] f 0 0 _
  repeat' (first | (refine kx10k h ?_) | (refine ky_ok_stp rfl ?_; simp (disch := first | omega | assumption) only [ky_stp, ky_inv, ky_ldi, ky_ldl, ky_ldd, ky_lda, ky_cl2, ky_st1, ky_st2, ky_s1i, ky_s2i, ky_s1l, ky_s2l, ky_sli, ky_s1f, ky_s2f, ky_s1d, ky_s2d, ky_sr, ky_sai, ky_sasi, ky_sasl, ky_sasr, ky_svr, ky_sv, ky_sv2, ky_s1, ky_cs, ky_pop, ky_nth, ky_snt, ky_obj, ky_ari, ky_arl, ky_arr, ky_arn, ky_fv, ky_rcv, List.map_cons, List.map_nil, List.drop_succ_cons, List.drop_zero, Value.category, Nat.reduceAdd, Nat.reduceSub, true_and, and_true, true_or, or_true, reduceCtorEq, ite_true, ite_false, eq_self, Nat.reduceEqDiff, Nat.reduceLeDiff, nI_add, nI_1, nI_leI, nI_ltI, nI_eq, nI_clamp, kz_m1, kz_mn, kz_mn2, kz_n0, kz_0n, kz_0, kz_le0, kz_0lt, false_implies, true_implies, not_false_eq_true, not_true_eq_false, Nat.zero_le, kb_0, kz_10, kz_of, ky_sw, kz_mx, kz_mi, kh0, kh1, kh2, kh23, kh30, kh40, kh42, kh37, kh44, kh46, kh47, kh48, kh12, kh53]) | (refine ⟨vp_in_nI (by omega) (by omega), ?_⟩) | (refine ⟨fun zc => ?_, fun zc => ?_⟩ <;> try (exfalso; omega)) | fail)
  intro f1 w1 w2 w3
  simp only [ky_aft, ky_vl, Nat.reduceAdd]
  repeat' (first | (refine loop s.o.n 0 f1 (by omega) w1 w2 (hQ f1 w1 fun j hj => w3 j (by unfold kNF; unfold kL7 at hj; omega))) | (refine ky_ok_stp rfl ?_; simp (disch := first | omega | assumption) only [ky_stp, ky_inv, ky_ldi, ky_ldl, ky_ldd, ky_lda, ky_cl2, ky_st1, ky_st2, ky_s1i, ky_s2i, ky_s1l, ky_s2l, ky_sli, ky_s1f, ky_s2f, ky_s1d, ky_s2d, ky_sr, ky_sai, ky_sasi, ky_sasl, ky_sasr, ky_svr, ky_sv, ky_sv2, ky_s1, ky_cs, ky_pop, ky_nth, ky_snt, ky_obj, ky_ari, ky_arl, ky_arr, ky_arn, ky_fv, ky_rcv, List.map_cons, List.map_nil, List.drop_succ_cons, List.drop_zero, Value.category, Nat.reduceAdd, Nat.reduceSub, true_and, and_true, true_or, or_true, reduceCtorEq, ite_true, ite_false, eq_self, Nat.reduceEqDiff, Nat.reduceLeDiff, nI_add, nI_1, nI_leI, nI_ltI, nI_eq, nI_clamp, kz_m1, kz_mn, kz_mn2, kz_n0, kz_0n, kz_0, kz_le0, kz_0lt, false_implies, true_implies, not_false_eq_true, not_true_eq_false, Nat.zero_le, kb_0, kz_10, kz_of, ky_sw, kz_mx, kz_mi]) | (refine ⟨vp_in_nI (by omega) (by omega), ?_⟩) | (refine ⟨fun zc => ?_, fun zc => ?_⟩ <;> try (exfalso; omega)) | fail)
end KXQ
