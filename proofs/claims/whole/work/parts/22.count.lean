-- deps:
/-! ## all COUNTs are counted -/
theorem kuu (g : Nat → Int32) (c : Nat) (x y : Int32) : upd (upd g c x) c y = upd g c y := by
  funext j; unfold upd; split <;> rfl
/-- a heading that gets a NUMBER -/
def kNm (P : Nat → Int32) (V : Nat → Nat) (S : Nat → Nat → Int32) (i : Nat) : Prop := P i = 0 ∧ ¬ S 0 (V i) = 5
/-- the latest place (plus 1) ahead of i with a level -/
def kLt (V : Nat → Nat) : Nat → Nat → Nat
  | 0, _ => 0
  | i + 1, l => if V i = l then i + 1 else kLt V i l
noncomputable def kNb (P : Nat → Int32) (V : Nat → Nat) (S : Nat → Nat → Int32) : Nat → Nat → Nat
  | 0, _ => 0
  | i + 1, l => (if V i + 1 = l ∧ S 3 l = 0 then 0 else kNb P V S i l) + (if V i = l ∧ P i = 0 ∧ ¬ S 0 (V i) = 5 then 1 else 0)
/-- COUNTs and prefixes (0: none) -/
noncomputable def kCo (P : Nat → Int32) (V : Nat → Nat) (S : Nat → Nat → Int32) (ss : Nat → Nat) (i : Nat) : Nat := if P i = 0 ∧ ¬ S 0 (V i) = 5 then ss (V i) + kNb P V S i (V i) else 0
noncomputable def kPf (P : Nat → Int32) (V : Nat → Nat) (S : Nat → Nat → Int32) (i : Nat) : Nat :=
  if (P i = 0 ∧ ¬ S 0 (V i) = 5) ∧ S 2 (V i) = 0 ∧ kLt V i (V i - 1) ≠ 0 ∧ P (kLt V i (V i - 1) - 1) = 0 ∧ ¬ S 0 (V (kLt V i (V i - 1) - 1)) = 5 then kLt V i (V i - 1) else 0
theorem kLt_le (V : Nat → Nat) : ∀ i l, kLt V i l ≤ i
  | 0, _ => Nat.le_refl _
  | i + 1, l => by
    have := kLt_le V i l
    rw [kLt]; split <;> omega
theorem kLt_V (V : Nat → Nat) : ∀ i l, kLt V i l ≠ 0 → V (kLt V i l - 1) = l
  | 0, _, h => absurd rfl h
  | i + 1, l, h => by
    rw [kLt] at h ⊢
    by_cases e : V i = l
    · rw [if_pos e]; exact e
    · rw [if_neg e] at h ⊢; exact kLt_V V i l h
theorem kLt_0 {V : Nat → Nat} {i : Nat} (hV : ∀ j, j < i → 1 ≤ V j) : kLt V i 0 = 0 := by
  induction i with
  | zero => rfl
  | succ i ih =>
    rw [kLt, if_neg (by have := hV i (by omega); omega)]
    exact ih fun j hj => hV j (by omega)
theorem kNb_le (P : Nat → Int32) (V : Nat → Nat) (S : Nat → Nat → Int32) : ∀ i l, kNb P V S i l ≤ i
  | 0, _ => Nat.le_refl _
  | i + 1, l => by
    have := kNb_le P V S i l
    rw [kNb]
    split <;> split <;> omega
/-- styles as they may be -/
def kSok (S : Nat → Nat → Int32) (sk ss : Nat → Nat) : Prop := ∀ l, 1 ≤ l → l ≤ 6 → S 0 l = nI (sk l) ∧ sk l ≤ 5 ∧ S 1 l = nI (ss l) ∧ 1 ≤ ss l ∧ ss l ≤ 99
theorem kS_up {a : Nat → Nat} {k q : Nat} {f : ky_H} {S : Nat → Nat → Int32} {e : ky_E} (ha : kI a) (h : kS a k f S) (hq : q < k ∨ k + 10 < q) : kS a k (ky_up f (a q) e) S := kS_ct ha h (by omega)
theorem kW_up {a : Nat → Nat} {k q n : Nat} {f : ky_H} {R : Nat → kR} {G : Nat → Int32} {e : ky_E} (ha : kI a) (h : kW a k f n R G) (hq : q < k ∨ k + 10 < q) : kW a k (ky_up f (a q) e) n R G := kW_fr h fun j z1 z2 => by
  simp (disch := first | omega | assumption) only [kz_up, kI_ne ha, ite_false]
section KNU
variable {a : Nat → Nat} {k : Nat} {f : ky_H} {KD CT PX NL LV CH X : Nat → Int32}
theorem kNB_1 (ha : kI a) (h : kNB a k f KD CT PX NL LV CH) : kNB a k (ky_up f (a (k + 1)) (.inl (1, 60, .inl X))) X CT PX NL LV CH := by
  obtain ⟨h0, h1, h2, h3, h4, h5, h6⟩ := h
  unfold kNB
  simp (disch := first | omega | assumption) only [kz_up, kI_ne ha, ite_true, ite_false, true_and, and_true]
  exact ⟨h0, h2, h3, h4, h5, h6⟩
theorem kNB_2 (ha : kI a) (h : kNB a k f KD CT PX NL LV CH) : kNB a k (ky_up f (a (k + 2)) (.inl (1, 60, .inl X))) KD X PX NL LV CH := by
  obtain ⟨h0, h1, h2, h3, h4, h5, h6⟩ := h
  unfold kNB
  simp (disch := first | omega | assumption) only [kz_up, kI_ne ha, ite_true, ite_false, true_and, and_true]
  exact ⟨h0, h1, h3, h4, h5, h6⟩
theorem kNB_3 (ha : kI a) (h : kNB a k f KD CT PX NL LV CH) : kNB a k (ky_up f (a (k + 3)) (.inl (1, 60, .inl X))) KD CT X NL LV CH := by
  obtain ⟨h0, h1, h2, h3, h4, h5, h6⟩ := h
  unfold kNB
  simp (disch := first | omega | assumption) only [kz_up, kI_ne ha, ite_true, ite_false, true_and, and_true]
  exact ⟨h0, h1, h2, h4, h5, h6⟩
theorem kNB_4 (ha : kI a) (h : kNB a k f KD CT PX NL LV CH) : kNB a k (ky_up f (a (k + 4)) (.inl (1, 7, .inl X))) KD CT PX X LV CH := by
  obtain ⟨h0, h1, h2, h3, h4, h5, h6⟩ := h
  unfold kNB
  simp (disch := first | omega | assumption) only [kz_up, kI_ne ha, ite_true, ite_false, true_and, and_true]
  exact ⟨h0, h1, h2, h3, h5, h6⟩
theorem kNB_5 (ha : kI a) (h : kNB a k f KD CT PX NL LV CH) : kNB a k (ky_up f (a (k + 5)) (.inl (1, 7, .inl X))) KD CT PX NL X CH := by
  obtain ⟨h0, h1, h2, h3, h4, h5, h6⟩ := h
  unfold kNB
  simp (disch := first | omega | assumption) only [kz_up, kI_ne ha, ite_true, ite_false, true_and, and_true]
  exact ⟨h0, h1, h2, h3, h4, h6⟩
end KNU
/-- what the loops of countAll know ahead of heading i -/
def kCi (P : Nat → Int32) (V : Nat → Nat) (S : Nat → Nat → Int32) (sk ss : Nat → Nat) (i : Nat) (KD CT PX NL LV : Nat → Int32) : Prop :=
  (∀ l, 1 ≤ l → l ≤ 6 → NL l = nI (kNb P V S i l)) ∧ (∀ l, l ≤ 6 → LV l = nI (kLt V i l) - 1) ∧ kNR i KD CT PX (fun i => sk (V i)) (kCo P V S ss) (kPf P V S)
def kNF (k : Nat) : Nat → Prop := fun j => k + 1 ≤ j ∧ j ≤ k + 5
section KXC
variable {adK a : Nat → Nat} {k ko n i : Nat} {f : ky_H} {R : Nat → kR} {G : Nat → Int32} {S : Nat → Nat → Int32} {sk ss V : Nat → Nat} {Q : ky_Q} {KD CT PX NL LV CH : Nat → Int32}
theorem kx11 (ha : kI a) (hk : ko + 10 < k ∨ k + 6 < ko) (hW : kW a ko f n R G) (hS : kS a ko f S) (hso : kSok S sk ss) (hn : n ≤ 60) (hi : i < n) (hV : ∀ j, j < n → 1 ≤ V j ∧ V j ≤ 6) (hN : kNB a k f KD CT PX NL LV CH) (hc : kCi (kPl R) V S sk ss i KD CT PX NL LV)
    (hQ : ∀ f' KD' CT' PX' NL' LV', kNB a k f' KD' CT' PX' NL' LV' CH → kCi (kPl R) V S sk ss (i + 1) KD' CT' PX' NL' LV' → kfr a f f' (kNF k) → Q (.inl none) f') :
    ky_cl adK 11 [.ref (a k), .ref (a ko), .int (nI i), .int (nI (V i))] f Q := by
  obtain ⟨v1, v6⟩ := hV i hi
  obtain ⟨c1, c2, c3⟩ := hc
  have hSl := hso (V i) v1 v6
  have tail : ∀ f NL', kW a ko f n R G → kS a ko f S → kNB a k f KD CT PX NL' (upd LV (V i) (nI i)) CH → (∀ l, 1 ≤ l → l ≤ 6 → NL' l = nI (if V i + 1 = l ∧ S 3 l = 0 then 0 else kNb (kPl R) V S i l)) →
      (∀ f' KD' CT' PX' NL' LV', kNB a k f' KD' CT' PX' NL' LV' CH → kCi (kPl R) V S sk ss (i + 1) KD' CT' PX' NL' LV' → kfr a f f' (kNF k) → Q (.inl none) f') →
      ky_ok adK 11 53 [some (.ref (a k)), some (.ref (a ko)), some (.int (nI i)), some (.int (nI (V i))), none] [] f 0 0 Q := by
    intro f NL' hW hS hN hNL hQ
    obtain ⟨h0, h1, h2, h3, h4, h5, h6⟩ := id hN
    have y0 := kW_lv hW
    have g1 := hS.1
    have hb := kNb_le (kPl R) V S i (V i)
    have hNLi := hNL (V i) v1 v6
    rw [if_neg (by omega)] at hNLi
    have hLVp : upd LV (V i) (nI i) (V i - 1) = nI (kLt V i (V i - 1)) - 1 := by rw [pk_un (by omega)]; exact c2 _ (by omega)
    have hLV' : ∀ l, l ≤ 6 → upd LV (V i) (nI i) l = nI (kLt V (i + 1) l) - 1 := by
      intro l hl
      rw [kLt]
      by_cases e : V i = l
      · subst e; rw [pk_us, if_pos rfl, nI_pred]
      · rw [pk_un (fun z => e z.symm), if_neg e]; exact c2 l hl
    have hk1 := kLt_le V i (V i - 1)
    have hlm : nI (V i) - 1 = nI (V i - 1) := nI_sub v1
    -- what the end owes, where nothing is counted
    have hz : ¬ (kPl R i = 0 ∧ ¬ S 0 (V i) = 5) → kCi (kPl R) V S sk ss (i + 1) (upd KD i (S 0 (V i))) (upd CT i (-1)) (upd PX i (-1)) NL' (upd LV (V i) (nI i)) := by
      intro hnn
      refine ⟨fun l z1 z6 => ?_, hLV', fun j hj => ?_⟩
      · rw [hNL l z1 z6, kNb, if_neg (show ¬ (V i = l ∧ kPl R i = 0 ∧ ¬ S 0 (V i) = 5) from fun z => hnn z.2)]; rfl
      · by_cases e : j = i
        · subst e
          rw [pk_us, pk_us, pk_us]
          refine ⟨hSl.1, ?_, ?_⟩
          · rw [kCo, if_neg hnn]; rfl
          · rw [kPf, if_neg (fun z => hnn z.1)]; exact kz_z.symm
        · rw [pk_un e, pk_un e, pk_un e]; exact c3 j (by omega)
    repeat' (first | (refine ky_ok_stp rfl ?_; simp (disch := first | omega | assumption) only [ky_stp, ky_inv, ky_ldi, ky_ldl, ky_ldd, ky_lda, ky_cl2, ky_st1, ky_st2, ky_s1i, ky_s2i, ky_s1l, ky_s2l, ky_sli, ky_s1f, ky_s2f, ky_s1d, ky_s2d, ky_sr, ky_sai, ky_sasi, ky_sasl, ky_sasr, ky_svr, ky_sv, ky_sv2, ky_s1, ky_cs, ky_pop, ky_nth, ky_snt, ky_obj, ky_ari, ky_arl, ky_arr, ky_arn, ky_fv, ky_rcv, List.map_cons, List.map_nil, List.drop_succ_cons, List.drop_zero, Value.category, Nat.reduceAdd, Nat.reduceSub, true_and, and_true, true_or, or_true, reduceCtorEq, ite_true, ite_false, eq_self, Nat.reduceEqDiff, Nat.reduceLeDiff, nI_add, nI_1, nI_leI, nI_ltI, nI_eq, nI_clamp, kz_m1, kz_mn, kz_mn2, kz_n0, kz_0n, kz_0, kz_le0, kz_0lt, false_implies, true_implies, not_false_eq_true, not_true_eq_false, Nat.zero_le, kb_0, kz_10, kz_of, ky_sw, kz_mx, kz_mi, h0, h1, h2, h3, y0, g1, kz_up, kI_ne ha, kz_uu]) | (refine ⟨vp_in_nI (by omega) (by omega), ?_⟩) | (refine ⟨fun zc => ?_, fun zc => ?_⟩ <;> try (exfalso; omega)) | fail)
    refine kx71 hS v1 v6 ?_
    simp only [ky_aft, ky_vl, Nat.reduceAdd]
    repeat' (first | (refine ky_ok_stp rfl ?_; simp (disch := first | omega | assumption) only [ky_stp, ky_inv, ky_ldi, ky_ldl, ky_ldd, ky_lda, ky_cl2, ky_st1, ky_st2, ky_s1i, ky_s2i, ky_s1l, ky_s2l, ky_sli, ky_s1f, ky_s2f, ky_s1d, ky_s2d, ky_sr, ky_sai, ky_sasi, ky_sasl, ky_sasr, ky_svr, ky_sv, ky_sv2, ky_s1, ky_cs, ky_pop, ky_nth, ky_snt, ky_obj, ky_ari, ky_arl, ky_arr, ky_arn, ky_fv, ky_rcv, List.map_cons, List.map_nil, List.drop_succ_cons, List.drop_zero, Value.category, Nat.reduceAdd, Nat.reduceSub, true_and, and_true, true_or, or_true, reduceCtorEq, ite_true, ite_false, eq_self, Nat.reduceEqDiff, Nat.reduceLeDiff, nI_add, nI_1, nI_leI, nI_ltI, nI_eq, nI_clamp, kz_m1, kz_mn, kz_mn2, kz_n0, kz_0n, kz_0, kz_le0, kz_0lt, false_implies, true_implies, not_false_eq_true, not_true_eq_false, Nat.zero_le, kb_0, kz_10, kz_of, ky_sw, kz_mx, kz_mi, h0, h1, h2, h3, y0, g1, kz_up, kI_ne ha, kz_uu]) | (refine ⟨vp_in_nI (by omega) (by omega), ?_⟩) | (refine ⟨fun zc => ?_, fun zc => ?_⟩ <;> try (exfalso; omega)) | fail)
    have hN3 := kNB_3 (X := upd PX i (-1)) ha (kNB_2 (X := upd CT i (-1)) ha (kNB_1 (X := upd KD i (S 0 (V i))) ha hN))
    have hW3 : kW a ko _ n R G := kW_up (q := k + 3) (e := .inl (1, 60, .inl (upd PX i (-1)))) ha (kW_up (q := k + 2) (e := .inl (1, 60, .inl (upd CT i (-1)))) ha (kW_up (q := k + 1) (e := .inl (1, 60, .inl (upd KD i (S 0 (V i))))) ha hW (by omega)) (by omega)) (by omega)
    have hS3 : kS a ko _ S := kS_up (q := k + 3) (e := .inl (1, 60, .inl (upd PX i (-1)))) ha (kS_up (q := k + 2) (e := .inl (1, 60, .inl (upd CT i (-1)))) ha (kS_up (q := k + 1) (e := .inl (1, 60, .inl (upd KD i (S 0 (V i))))) ha hS (by omega)) (by omega)) (by omega)
    have hF3 : kfr a f _ (kNF k) := kfr_up (q := k + 3) (e := .inl (1, 60, .inl (upd PX i (-1)))) ha (kfr_up (q := k + 2) (e := .inl (1, 60, .inl (upd CT i (-1)))) ha (kfr_up (q := k + 1) (e := .inl (1, 60, .inl (upd KD i (S 0 (V i))))) ha kfr_rf (by unfold kNF; omega)) (by unfold kNF; omega)) (by unfold kNF; omega)
    generalize ky_up (ky_up (ky_up f (a (k + 1)) (.inl (1, 60, .inl (upd KD i (S 0 (V i)))))) (a (k + 2)) (.inl (1, 60, .inl (upd CT i (-1))))) (a (k + 3)) (.inl (1, 60, .inl (upd PX i (-1)))) = f3 at hN3 hW3 hS3 hF3 ⊢
    obtain ⟨t0, t1, t2, t3, t4, t5, t6⟩ := id hN3
    have y3 := kW_lv hW3
    have g3 := hS3.1
    refine kx28 hW3.1 hn hi ?_
    simp only [ky_aft, ky_vl, Nat.reduceAdd]
    repeat' (first | (refine ky_ok_stp rfl ?_; simp (disch := first | omega | assumption) only [ky_stp, ky_inv, ky_ldi, ky_ldl, ky_ldd, ky_lda, ky_cl2, ky_st1, ky_st2, ky_s1i, ky_s2i, ky_s1l, ky_s2l, ky_sli, ky_s1f, ky_s2f, ky_s1d, ky_s2d, ky_sr, ky_sai, ky_sasi, ky_sasl, ky_sasr, ky_svr, ky_sv, ky_sv2, ky_s1, ky_cs, ky_pop, ky_nth, ky_snt, ky_obj, ky_ari, ky_arl, ky_arr, ky_arn, ky_fv, ky_rcv, List.map_cons, List.map_nil, List.drop_succ_cons, List.drop_zero, Value.category, Nat.reduceAdd, Nat.reduceSub, true_and, and_true, true_or, or_true, reduceCtorEq, ite_true, ite_false, eq_self, Nat.reduceEqDiff, Nat.reduceLeDiff, nI_add, nI_1, nI_leI, nI_ltI, nI_eq, nI_clamp, kz_m1, kz_mn, kz_mn2, kz_n0, kz_0n, kz_0, kz_le0, kz_0lt, false_implies, true_implies, not_false_eq_true, not_true_eq_false, Nat.zero_le, kb_0, kz_10, kz_of, ky_sw, kz_mx, kz_mi, t0, t1, t2, t3, t4, t5, y3, g3, kz_up, kI_ne ha, pk_us]) | (refine ⟨vp_in_nI (by omega) (by omega), ?_⟩) | (refine ⟨fun zc => ?_, fun zc => ?_⟩ <;> try (exfalso; omega)) | fail)
    · exact hQ f3 _ _ _ _ _ hN3 (hz fun z => zc z.1) hF3
    · have hnm : kPl R i = 0 ∧ ¬ S 0 (V i) = 5 := ⟨by assumption, zc⟩
      have e1 := hSl.2.2.1
      have hco : kCo (kPl R) V S ss i = ss (V i) + kNb (kPl R) V S i (V i) := if_pos hnm
      have hco0 : ss (V i) + kNb (kPl R) V S i (V i) ≠ 0 := by have := hSl.2.2.2.1; omega
      refine kx72 hS3 v1 v6 ?_
      simp only [ky_aft, ky_vl, Nat.reduceAdd]
      repeat' (first | (refine ky_ok_stp rfl ?_; simp (disch := first | omega | assumption) only [ky_stp, ky_inv, ky_ldi, ky_ldl, ky_ldd, ky_lda, ky_cl2, ky_st1, ky_st2, ky_s1i, ky_s2i, ky_s1l, ky_s2l, ky_sli, ky_s1f, ky_s2f, ky_s1d, ky_s2d, ky_sr, ky_sai, ky_sasi, ky_sasl, ky_sasr, ky_svr, ky_sv, ky_sv2, ky_s1, ky_cs, ky_pop, ky_nth, ky_snt, ky_obj, ky_ari, ky_arl, ky_arr, ky_arn, ky_fv, ky_rcv, List.map_cons, List.map_nil, List.drop_succ_cons, List.drop_zero, Value.category, Nat.reduceAdd, Nat.reduceSub, true_and, and_true, true_or, or_true, reduceCtorEq, ite_true, ite_false, eq_self, Nat.reduceEqDiff, Nat.reduceLeDiff, nI_add, nI_1, nI_leI, nI_ltI, nI_eq, nI_clamp, kz_m1, kz_mn, kz_mn2, kz_n0, kz_0n, kz_0, kz_le0, kz_0lt, false_implies, true_implies, not_false_eq_true, not_true_eq_false, Nat.zero_le, kb_0, kz_10, kz_of, ky_sw, kz_mx, kz_mi, t0, t1, t2, t3, t4, t5, y3, g3, kz_up, kI_ne ha, pk_us, e1, hNLi, hLVp, hlm]) | (refine ⟨vp_in_nI (by omega) (by omega), ?_⟩) | (refine ⟨fun zc => ?_, fun zc => ?_⟩ <;> try (exfalso; omega)) | fail)
      have hN5 := kNB_4 (X := upd NL' (V i) (nI (kNb (kPl R) V S i (V i) + 1))) ha (kNB_2 (X := upd (upd CT i (-1)) i (nI (ss (V i) + kNb (kPl R) V S i (V i)))) ha hN3)
      have hW5 : kW a ko _ n R G := kW_up (q := k + 4) (e := .inl (1, 7, .inl (upd NL' (V i) (nI (kNb (kPl R) V S i (V i) + 1))))) ha (kW_up (q := k + 2) (e := .inl (1, 60, .inl (upd (upd CT i (-1)) i (nI (ss (V i) + kNb (kPl R) V S i (V i)))))) ha hW3 (by omega)) (by omega)
      have hS5 : kS a ko _ S := kS_up (q := k + 4) (e := .inl (1, 7, .inl (upd NL' (V i) (nI (kNb (kPl R) V S i (V i) + 1))))) ha (kS_up (q := k + 2) (e := .inl (1, 60, .inl (upd (upd CT i (-1)) i (nI (ss (V i) + kNb (kPl R) V S i (V i)))))) ha hS3 (by omega)) (by omega)
      have hF5 : kfr a f _ (kNF k) := kfr_up (q := k + 4) (e := .inl (1, 7, .inl (upd NL' (V i) (nI (kNb (kPl R) V S i (V i) + 1))))) ha (kfr_up (q := k + 2) (e := .inl (1, 60, .inl (upd (upd CT i (-1)) i (nI (ss (V i) + kNb (kPl R) V S i (V i)))))) ha hF3 (by unfold kNF; omega)) (by unfold kNF; omega)
      generalize ky_up (ky_up f3 (a (k + 2)) (.inl (1, 60, .inl (upd (upd CT i (-1)) i (nI (ss (V i) + kNb (kPl R) V S i (V i))))))) (a (k + 4)) (.inl (1, 7, .inl (upd NL' (V i) (nI (kNb (kPl R) V S i (V i) + 1))))) = f5 at hN5 hW5 hS5 hF5 ⊢
      have hb5 := hN5.1
      have g5 := hS5.1
      -- what the end owes
      have hz5 : ∀ x, x = nI (kPf (kPl R) V S i) - 1 → kCi (kPl R) V S sk ss (i + 1) (upd KD i (S 0 (V i))) (upd (upd CT i (-1)) i (nI (ss (V i) + kNb (kPl R) V S i (V i)))) (upd PX i x) (upd NL' (V i) (nI (kNb (kPl R) V S i (V i) + 1))) (upd LV (V i) (nI i)) := by
        intro x hx
        refine ⟨fun l z1 z6 => ?_, hLV', fun j hj => ?_⟩
        · rw [kNb]
          by_cases e : V i = l
          · subst e
            rw [pk_us, if_neg (by omega), if_pos ⟨rfl, hnm⟩]
          · rw [pk_un (fun z => e z.symm), hNL l z1 z6, if_neg (show ¬ (V i = l ∧ kPl R i = 0 ∧ ¬ S 0 (V i) = 5) from fun z => e z.1)]; rfl
        · by_cases e : j = i
          · subst e
            rw [pk_us, pk_us, pk_us, hco, kct, if_neg hco0]
            exact ⟨hSl.1, rfl, hx⟩
          · rw [pk_un e, pk_un e, pk_un e, pk_un e]; exact c3 j (by omega)
      refine kx73 hS5 v1 v6 ?_
      simp only [ky_aft, ky_vl, Nat.reduceAdd]
      repeat' (first | (refine ky_ok_stp rfl ?_; simp (disch := first | omega | assumption) only [ky_stp, ky_inv, ky_ldi, ky_ldl, ky_ldd, ky_lda, ky_cl2, ky_st1, ky_st2, ky_s1i, ky_s2i, ky_s1l, ky_s2l, ky_sli, ky_s1f, ky_s2f, ky_s1d, ky_s2d, ky_sr, ky_sai, ky_sasi, ky_sasl, ky_sasr, ky_svr, ky_sv, ky_sv2, ky_s1, ky_cs, ky_pop, ky_nth, ky_snt, ky_obj, ky_ari, ky_arl, ky_arr, ky_arn, ky_fv, ky_rcv, List.map_cons, List.map_nil, List.drop_succ_cons, List.drop_zero, Value.category, Nat.reduceAdd, Nat.reduceSub, true_and, and_true, true_or, or_true, reduceCtorEq, ite_true, ite_false, eq_self, Nat.reduceEqDiff, Nat.reduceLeDiff, nI_add, nI_1, nI_leI, nI_ltI, nI_eq, nI_clamp, kz_m1, kz_mn, kz_mn2, kz_n0, kz_0n, kz_0, kz_le0, kz_0lt, false_implies, true_implies, not_false_eq_true, not_true_eq_false, Nat.zero_le, kb_0, kz_10, kz_of, ky_sw, kz_mx, kz_mi, hb5]) | (refine ⟨vp_in_nI (by omega) (by omega), ?_⟩) | (refine ⟨fun zc => ?_, fun zc => ?_⟩ <;> try (exfalso; omega)) | fail)
      · have hp : kPf (kPl R) V S i = 0 := by rw [kPf, if_neg (fun z => zc z.2.1)]
        exact hQ f5 _ _ _ _ _ hN5 (hz5 _ (by rw [hp, kz_z])) hF5
      · have hpf : ∀ t, kLt V i (V i - 1) = t → kCo (kPl R) V S ss (t - 1) = 0 ∨ t = 0 → kPf (kPl R) V S i = 0 := by
          intro t ht h
          rw [kPf, if_neg]
          rintro ⟨-, -, w1, w2⟩
          rw [ht] at w1 w2
          rcases h with h | h
          · rw [kCo, if_pos w2] at h
            have := (hso _ (hV (t - 1) (by omega)).1 (hV (t - 1) (by omega)).2).2.2.2.1
            omega
          · exact w1 h
        cases ht : kLt V i (V i - 1) with
        | zero =>
          rw [kz_z]
          refine kx14m hN5 ?_; simp only [ky_aft, ky_vl, Nat.reduceAdd]
          repeat' (first | (refine ky_ok_stp rfl ?_; simp (disch := first | omega | assumption) only [ky_stp, ky_inv, ky_ldi, ky_ldl, ky_ldd, ky_lda, ky_cl2, ky_st1, ky_st2, ky_s1i, ky_s2i, ky_s1l, ky_s2l, ky_sli, ky_s1f, ky_s2f, ky_s1d, ky_s2d, ky_sr, ky_sai, ky_sasi, ky_sasl, ky_sasr, ky_svr, ky_sv, ky_sv2, ky_s1, ky_cs, ky_pop, ky_nth, ky_snt, ky_obj, ky_ari, ky_arl, ky_arr, ky_arn, ky_fv, ky_rcv, List.map_cons, List.map_nil, List.drop_succ_cons, List.drop_zero, Value.category, Nat.reduceAdd, Nat.reduceSub, true_and, and_true, true_or, or_true, reduceCtorEq, ite_true, ite_false, eq_self, Nat.reduceEqDiff, Nat.reduceLeDiff, nI_add, nI_1, nI_leI, nI_ltI, nI_eq, nI_clamp, kz_m1, kz_mn, kz_mn2, kz_n0, kz_0n, kz_0, kz_le0, kz_0lt, false_implies, true_implies, not_false_eq_true, not_true_eq_false, Nat.zero_le, kb_0, kz_10, kz_of, ky_sw, kz_mx, kz_mi]) | (refine ⟨vp_in_nI (by omega) (by omega), ?_⟩) | (refine ⟨fun zc => ?_, fun zc => ?_⟩ <;> try (exfalso; omega)) | fail)
          exact hQ f5 _ _ _ _ _ hN5 (hz5 _ (by rw [hpf 0 ht (Or.inr rfl), kz_z])) hF5
        | succ t =>
          rw [nI_pred]
          rw [ht] at hk1
          have ct3 := (c3 t (by omega)).2.1
          have hct : upd (upd CT i (-1)) i (nI (ss (V i) + kNb (kPl R) V S i (V i))) t = kct (kCo (kPl R) V S ss t) := by
            rw [pk_un (by omega), pk_un (by omega)]; exact ct3
          have hcl : kCo (kPl R) V S ss t < 159 := by
            rw [kCo]
            split
            · have := kNb_le (kPl R) V S t (V t)
              have := (hso _ (hV t (by omega)).1 (hV t (by omega)).2).2.2.2.2
              omega
            · omega
          refine kx14 hN5 (show t < 60 by omega) hct hcl ?_; simp only [ky_aft, ky_vl, Nat.reduceAdd]
          have b3 := hN5.2.2.2.1
          by_cases hc0 : kCo (kPl R) V S ss t = 0
          · rw [if_pos hc0]
            repeat' (first | (refine ky_ok_stp rfl ?_; simp (disch := first | omega | assumption) only [ky_stp, ky_inv, ky_ldi, ky_ldl, ky_ldd, ky_lda, ky_cl2, ky_st1, ky_st2, ky_s1i, ky_s2i, ky_s1l, ky_s2l, ky_sli, ky_s1f, ky_s2f, ky_s1d, ky_s2d, ky_sr, ky_sai, ky_sasi, ky_sasl, ky_sasr, ky_svr, ky_sv, ky_sv2, ky_s1, ky_cs, ky_pop, ky_nth, ky_snt, ky_obj, ky_ari, ky_arl, ky_arr, ky_arn, ky_fv, ky_rcv, List.map_cons, List.map_nil, List.drop_succ_cons, List.drop_zero, Value.category, Nat.reduceAdd, Nat.reduceSub, true_and, and_true, true_or, or_true, reduceCtorEq, ite_true, ite_false, eq_self, Nat.reduceEqDiff, Nat.reduceLeDiff, nI_add, nI_1, nI_leI, nI_ltI, nI_eq, nI_clamp, kz_m1, kz_mn, kz_mn2, kz_n0, kz_0n, kz_0, kz_le0, kz_0lt, false_implies, true_implies, not_false_eq_true, not_true_eq_false, Nat.zero_le, kb_0, kz_10, kz_of, ky_sw, kz_mx, kz_mi]) | (refine ⟨vp_in_nI (by omega) (by omega), ?_⟩) | (refine ⟨fun zc => ?_, fun zc => ?_⟩ <;> try (exfalso; omega)) | fail)
            exact hQ f5 _ _ _ _ _ hN5 (hz5 _ (by rw [hpf (t + 1) ht (Or.inl hc0), kz_z])) hF5
          · rw [if_neg hc0]
            repeat' (first | (refine ky_ok_stp rfl ?_; simp (disch := first | omega | assumption) only [ky_stp, ky_inv, ky_ldi, ky_ldl, ky_ldd, ky_lda, ky_cl2, ky_st1, ky_st2, ky_s1i, ky_s2i, ky_s1l, ky_s2l, ky_sli, ky_s1f, ky_s2f, ky_s1d, ky_s2d, ky_sr, ky_sai, ky_sasi, ky_sasl, ky_sasr, ky_svr, ky_sv, ky_sv2, ky_s1, ky_cs, ky_pop, ky_nth, ky_snt, ky_obj, ky_ari, ky_arl, ky_arr, ky_arn, ky_fv, ky_rcv, List.map_cons, List.map_nil, List.drop_succ_cons, List.drop_zero, Value.category, Nat.reduceAdd, Nat.reduceSub, true_and, and_true, true_or, or_true, reduceCtorEq, ite_true, ite_false, eq_self, Nat.reduceEqDiff, Nat.reduceLeDiff, nI_add, nI_1, nI_leI, nI_ltI, nI_eq, nI_clamp, kz_m1, kz_mn, kz_mn2, kz_n0, kz_0n, kz_0, kz_le0, kz_0lt, false_implies, true_implies, not_false_eq_true, not_true_eq_false, Nat.zero_le, kb_0, kz_10, kz_of, ky_sw, kz_mx, kz_mi, hb5, b3, kuu]) | (refine ⟨vp_in_nI (by omega) (by omega), ?_⟩) | (refine ⟨fun zc => ?_, fun zc => ?_⟩ <;> try (exfalso; omega)) | fail)
            have hp : kPf (kPl R) V S i = t + 1 := by
              rw [kPf, ht, if_pos]
              refine ⟨hnm, by assumption, by omega, ?_⟩
              rw [kCo] at hc0
              by_cases w : kPl R t = 0 ∧ ¬ S 0 (V t) = 5
              · exact w
              · rw [if_neg w] at hc0; exact absurd rfl hc0
            refine hQ _ _ _ _ _ _ (kNB_3 (X := upd PX i (nI t)) ha hN5) (hz5 _ (by rw [hp, nI_pred])) (kfr_up ha hF5 (by unfold kNF; omega))
    · exact hQ f3 _ _ _ _ _ hN3 (hz fun z => z.2 zc) hF3
  obtain ⟨h0, h1, h2, h3, h4, h5, h6⟩ := id hN
  have y0 := kW_lv hW
  have hN1 := kNB_5 (X := upd LV (V i) (nI i)) ha hN
  have hW1 : kW a ko _ n R G := kW_up (q := k + 5) (e := .inl (1, 7, .inl (upd LV (V i) (nI i)))) ha hW (by omega)
  have hS1 : kS a ko _ S := kS_up (q := k + 5) (e := .inl (1, 7, .inl (upd LV (V i) (nI i)))) ha hS (by omega)
  have hF1 : kfr a f _ (kNF k) := kfr_up (q := k + 5) (e := .inl (1, 7, .inl (upd LV (V i) (nI i)))) ha kfr_rf (by unfold kNF; omega)
  have hQ' : ∀ f1, kfr a f f1 (kNF k) → ∀ f' KD' CT' PX' NL' LV', kNB a k f' KD' CT' PX' NL' LV' CH → kCi (kPl R) V S sk ss (i + 1) KD' CT' PX' NL' LV' → kfr a f1 f' (kNF k) → Q (.inl none) f' :=
    fun f1 h1 f' KD' CT' PX' NL' LV' w1 w2 w3 => hQ f' KD' CT' PX' NL' LV' w1 w2 (kfr_tr h1 w3 fun j hj => ⟨hj, hj⟩)
  refine ⟨Nat.le_of_ble_eq_true rfl, fun z => absurd z (by decide), ?_⟩; show ky_ok adK 11 0 [some (.ref (a k)), some (.ref (a ko)), some (.int (nI i)), some (.int (nI (V i))), none] [] f 0 0 _
  have hN2 := kNB_4 (X := upd NL (V i + 1) 0) ha hN1
  have hW2 : kW a ko _ n R G := kW_up (q := k + 4) (e := .inl (1, 7, .inl (upd NL (V i + 1) 0))) ha hW1 (by omega)
  have hS2 : kS a ko _ S := kS_up (q := k + 4) (e := .inl (1, 7, .inl (upd NL (V i + 1) 0))) ha hS1 (by omega)
  have hF2 : kfr a f _ (kNF k) := kfr_up (q := k + 4) (e := .inl (1, 7, .inl (upd NL (V i + 1) 0))) ha hF1 (by unfold kNF; omega)
  repeat' (first | (refine kx133v v1 v6 ?_; simp only [ky_aft, ky_vl, Nat.reduceAdd]) | (refine kx74 hS1 (show 1 ≤ V i + 1 by omega) (by omega) ?_; simp only [ky_aft, ky_vl, Nat.reduceAdd]) | (refine tail _ NL hW1 hS1 hN1 ?_ (hQ' _ hF1)) | (refine tail _ _ hW2 hS2 hN2 ?_ (hQ' _ hF2)) | (refine ky_ok_stp rfl ?_; simp (disch := first | omega | assumption) only [ky_stp, ky_inv, ky_ldi, ky_ldl, ky_ldd, ky_lda, ky_cl2, ky_st1, ky_st2, ky_s1i, ky_s2i, ky_s1l, ky_s2l, ky_sli, ky_s1f, ky_s2f, ky_s1d, ky_s2d, ky_sr, ky_sai, ky_sasi, ky_sasl, ky_sasr, ky_svr, ky_sv, ky_sv2, ky_s1, ky_cs, ky_pop, ky_nth, ky_snt, ky_obj, ky_ari, ky_arl, ky_arr, ky_arn, ky_fv, ky_rcv, List.map_cons, List.map_nil, List.drop_succ_cons, List.drop_zero, Value.category, Nat.reduceAdd, Nat.reduceSub, true_and, and_true, true_or, or_true, reduceCtorEq, ite_true, ite_false, eq_self, Nat.reduceEqDiff, Nat.reduceLeDiff, nI_add, nI_1, nI_leI, nI_ltI, nI_eq, nI_clamp, kz_m1, kz_mn, kz_mn2, kz_n0, kz_0n, kz_0, kz_le0, kz_0lt, false_implies, true_implies, not_false_eq_true, not_true_eq_false, Nat.zero_le, kb_0, kz_10, kz_of, ky_sw, kz_mx, kz_mi, h0, h4, h5, kz_60, kz_6, y0, hS.1, kz_up, kI_ne ha]) | (refine ⟨vp_in_nI (by omega) (by omega), ?_⟩) | (refine ⟨fun zc => ?_, fun zc => ?_⟩ <;> try (exfalso; omega)) | fail)
  · intro l z1 z6
    rw [if_neg (by omega)]; exact c1 l z1 z6
  · intro l z1 z6
    by_cases e : V i + 1 = l
    · subst e; rw [if_neg (fun z => absurd z.2 (by assumption))]; exact c1 _ z1 z6
    · rw [if_neg (fun z => e z.1)]; exact c1 l z1 z6
  · intro l z1 z6
    by_cases e : V i + 1 = l
    · subst e; rw [if_pos ⟨rfl, by assumption⟩, pk_us]; rfl
    · rw [if_neg (fun z => e z.1), pk_un (fun z => e z.symm)]; exact c1 l z1 z6
end KXC
section KXD
variable {adK a : Nat → Nat} {k ko n : Nat} {f : ky_H} {R : Nat → kR} {G : Nat → Int32} {S : Nat → Nat → Int32} {sk ss V : Nat → Nat} {Q : ky_Q} {KD CT PX NL LV CH : Nat → Int32}
theorem kx10 (ha : kI a) (hk : ko + 10 < k ∨ k + 6 < ko) (hW : kW a ko f n R G) (hS : kS a ko f S) (hso : kSok S sk ss) (hn : n ≤ 60) (hV : ∀ j, j < n → 1 ≤ V j ∧ V j ≤ 6) (hLV : ∀ j, j < n → kL R j = nI (V j)) (hN : kNB a k f KD CT PX NL LV CH)
    (hQ : ∀ f' KD' CT' PX' NL' LV', kNB a k f' KD' CT' PX' NL' LV' CH → kNR n KD' CT' PX' (fun i => sk (V i)) (kCo (kPl R) V S ss) (kPf (kPl R) V S) → kfr a f f' (kNF k) → Q (.inl none) f') :
    ky_cl adK 10 [.ref (a k), .ref (a ko)] f Q := by
  have loop2 : ∀ m i f KD CT PX NL LV, i + m = n → kW a ko f n R G → kS a ko f S → kNB a k f KD CT PX NL LV CH → kCi (kPl R) V S sk ss i KD CT PX NL LV →
      (∀ f' KD' CT' PX' NL' LV', kNB a k f' KD' CT' PX' NL' LV' CH → kNR n KD' CT' PX' (fun i => sk (V i)) (kCo (kPl R) V S ss) (kPf (kPl R) V S) → kfr a f f' (kNF k) → Q (.inl none) f') →
      ky_ok adK 10 30 [some (.ref (a k)), some (.ref (a ko)), some (.int (nI i))] [] f 0 0 Q := by
    intro m
    induction m with
    | zero =>
      intro i f KD CT PX NL LV hi hW hS hN hc hQ
      have y0 := kW_lv hW
      repeat' (first | (refine ky_ok_stp rfl ?_; simp (disch := first | omega | assumption) only [ky_stp, ky_inv, ky_ldi, ky_ldl, ky_ldd, ky_lda, ky_cl2, ky_st1, ky_st2, ky_s1i, ky_s2i, ky_s1l, ky_s2l, ky_sli, ky_s1f, ky_s2f, ky_s1d, ky_s2d, ky_sr, ky_sai, ky_sasi, ky_sasl, ky_sasr, ky_svr, ky_sv, ky_sv2, ky_s1, ky_cs, ky_pop, ky_nth, ky_snt, ky_obj, ky_ari, ky_arl, ky_arr, ky_arn, ky_fv, ky_rcv, List.map_cons, List.map_nil, List.drop_succ_cons, List.drop_zero, Value.category, Nat.reduceAdd, Nat.reduceSub, true_and, and_true, true_or, or_true, reduceCtorEq, ite_true, ite_false, eq_self, Nat.reduceEqDiff, Nat.reduceLeDiff, nI_add, nI_1, nI_leI, nI_ltI, nI_eq, nI_clamp, kz_m1, kz_mn, kz_mn2, kz_n0, kz_0n, kz_0, kz_le0, kz_0lt, false_implies, true_implies, not_false_eq_true, not_true_eq_false, Nat.zero_le, kb_0, kz_10, kz_of, ky_sw, kz_mx, kz_mi, y0]) | (refine ⟨vp_in_nI (by omega) (by omega), ?_⟩) | (refine ⟨fun zc => ?_, fun zc => ?_⟩ <;> try (exfalso; omega)) | fail)
      obtain rfl : i = n := by omega
      exact hQ f _ _ _ _ _ hN hc.2.2 kfr_rf
    | succ m ih =>
      intro i f KD CT PX NL LV hi hW hS hN hc hQ
      have y0 := kW_lv hW
      have hii := hLV i (by omega)
      have h0 := hN.1
      repeat' (first | (refine kx27 hW.1 hn (show i < n by omega) ?_; simp only [ky_aft, ky_vl, Nat.reduceAdd]) | (rw [hii]; refine kx11 ha hk hW hS hso hn (show i < n by omega) hV hN hc ?_) | (refine ky_ok_stp rfl ?_; simp (disch := first | omega | assumption) only [ky_stp, ky_inv, ky_ldi, ky_ldl, ky_ldd, ky_lda, ky_cl2, ky_st1, ky_st2, ky_s1i, ky_s2i, ky_s1l, ky_s2l, ky_sli, ky_s1f, ky_s2f, ky_s1d, ky_s2d, ky_sr, ky_sai, ky_sasi, ky_sasl, ky_sasr, ky_svr, ky_sv, ky_sv2, ky_s1, ky_cs, ky_pop, ky_nth, ky_snt, ky_obj, ky_ari, ky_arl, ky_arr, ky_arn, ky_fv, ky_rcv, List.map_cons, List.map_nil, List.drop_succ_cons, List.drop_zero, Value.category, Nat.reduceAdd, Nat.reduceSub, true_and, and_true, true_or, or_true, reduceCtorEq, ite_true, ite_false, eq_self, Nat.reduceEqDiff, Nat.reduceLeDiff, nI_add, nI_1, nI_leI, nI_ltI, nI_eq, nI_clamp, kz_m1, kz_mn, kz_mn2, kz_n0, kz_0n, kz_0, kz_le0, kz_0lt, false_implies, true_implies, not_false_eq_true, not_true_eq_false, Nat.zero_le, kb_0, kz_10, kz_of, ky_sw, kz_mx, kz_mi, h0, y0, kz_60]) | (refine ⟨vp_in_nI (by omega) (by omega), ?_⟩) | (refine ⟨fun zc => ?_, fun zc => ?_⟩ <;> try (exfalso; omega)) | fail)
      · intro f1 KD1 CT1 PX1 NL1 LV1 hN1 hc1 hF1
        simp only [ky_aft, ky_vl, Nat.reduceAdd]
        have hW1 : kW a ko f1 n R G := kW_fr hW fun j z1 z2 => hF1 j (by unfold kNF; omega)
        have hS1 : kS a ko f1 S := kS_fr hS fun j z1 z2 => hF1 j (by unfold kNF; omega)
        repeat' (first | (refine ih (i + 1) f1 _ _ _ _ _ (by omega) hW1 hS1 hN1 hc1 ?_) | (refine ky_ok_stp rfl ?_; simp (disch := first | omega | assumption) only [ky_stp, ky_inv, ky_ldi, ky_ldl, ky_ldd, ky_lda, ky_cl2, ky_st1, ky_st2, ky_s1i, ky_s2i, ky_s1l, ky_s2l, ky_sli, ky_s1f, ky_s2f, ky_s1d, ky_s2d, ky_sr, ky_sai, ky_sasi, ky_sasl, ky_sasr, ky_svr, ky_sv, ky_sv2, ky_s1, ky_cs, ky_pop, ky_nth, ky_snt, ky_obj, ky_ari, ky_arl, ky_arr, ky_arn, ky_fv, ky_rcv, List.map_cons, List.map_nil, List.drop_succ_cons, List.drop_zero, Value.category, Nat.reduceAdd, Nat.reduceSub, true_and, and_true, true_or, or_true, reduceCtorEq, ite_true, ite_false, eq_self, Nat.reduceEqDiff, Nat.reduceLeDiff, nI_add, nI_1, nI_leI, nI_ltI, nI_eq, nI_clamp, kz_m1, kz_mn, kz_mn2, kz_n0, kz_0n, kz_0, kz_le0, kz_0lt, false_implies, true_implies, not_false_eq_true, not_true_eq_false, Nat.zero_le, kb_0, kz_10, kz_of, ky_sw, kz_mx, kz_mi, nI_1]) | (refine ⟨vp_in_nI (by omega) (by omega), ?_⟩) | (refine ⟨fun zc => ?_, fun zc => ?_⟩ <;> try (exfalso; omega)) | fail)
        intro f2 KD2 CT2 PX2 NL2 LV2 w1 w2 w3
        exact hQ f2 _ _ _ _ _ w1 w2 (kfr_tr hF1 w3 fun j hj => ⟨hj, hj⟩)
  have loop1 : ∀ m t f NL LV, t + m = 7 → kW a ko f n R G → kS a ko f S → kNB a k f KD CT PX NL LV CH → (∀ l, l < t → NL l = 0 ∧ LV l = -1) →
      (∀ f' KD' CT' PX' NL' LV', kNB a k f' KD' CT' PX' NL' LV' CH → kNR n KD' CT' PX' (fun i => sk (V i)) (kCo (kPl R) V S ss) (kPf (kPl R) V S) → kfr a f f' (kNF k) → Q (.inl none) f') →
      ky_ok adK 10 2 [some (.ref (a k)), some (.ref (a ko)), some (.int (nI t))] [] f 0 0 Q := by
    intro m
    induction m with
    | zero =>
      intro t f NL LV ht hW hS hN hc hQ
      obtain rfl : t = 7 := by omega
      repeat' (first | (refine loop2 n 0 f KD CT PX NL LV (by omega) hW hS hN ⟨?_, ?_, ?_⟩ hQ) | (refine ky_ok_stp rfl ?_; simp (disch := first | omega | assumption) only [ky_stp, ky_inv, ky_ldi, ky_ldl, ky_ldd, ky_lda, ky_cl2, ky_st1, ky_st2, ky_s1i, ky_s2i, ky_s1l, ky_s2l, ky_sli, ky_s1f, ky_s2f, ky_s1d, ky_s2d, ky_sr, ky_sai, ky_sasi, ky_sasl, ky_sasr, ky_svr, ky_sv, ky_sv2, ky_s1, ky_cs, ky_pop, ky_nth, ky_snt, ky_obj, ky_ari, ky_arl, ky_arr, ky_arn, ky_fv, ky_rcv, List.map_cons, List.map_nil, List.drop_succ_cons, List.drop_zero, Value.category, Nat.reduceAdd, Nat.reduceSub, true_and, and_true, true_or, or_true, reduceCtorEq, ite_true, ite_false, eq_self, Nat.reduceEqDiff, Nat.reduceLeDiff, nI_add, nI_1, nI_leI, nI_ltI, nI_eq, nI_clamp, kz_m1, kz_mn, kz_mn2, kz_n0, kz_0n, kz_0, kz_le0, kz_0lt, false_implies, true_implies, not_false_eq_true, not_true_eq_false, Nat.zero_le, kb_0, kz_10, kz_of, ky_sw, kz_mx, kz_mi, kz_6]) | (refine ⟨vp_in_nI (by omega) (by omega), ?_⟩) | (refine ⟨fun zc => ?_, fun zc => ?_⟩ <;> try (exfalso; omega)) | fail)
      · intro l z1 z6; exact (hc l (by omega)).1
      · intro l z6; rw [(hc l (by omega)).2]; exact kz_z.symm
      · intro j hj; omega
    | succ m ih =>
      intro t f NL LV ht hW hS hN hc hQ
      obtain ⟨h0, h1, h2, h3, h4, h5, h6⟩ := id hN
      have hN2 := kNB_5 (X := upd LV t (-1)) ha (kNB_4 (X := upd NL t 0) ha hN)
      have hW2 : kW a ko _ n R G := kW_up (q := k + 5) (e := .inl (1, 7, .inl (upd LV t (-1)))) ha (kW_up (q := k + 4) (e := .inl (1, 7, .inl (upd NL t 0))) ha hW (by omega)) (by omega)
      have hS2 : kS a ko _ S := kS_up (q := k + 5) (e := .inl (1, 7, .inl (upd LV t (-1)))) ha (kS_up (q := k + 4) (e := .inl (1, 7, .inl (upd NL t 0))) ha hS (by omega)) (by omega)
      have hF2 : kfr a f _ (kNF k) := kfr_up (q := k + 5) (e := .inl (1, 7, .inl (upd LV t (-1)))) ha (kfr_up (q := k + 4) (e := .inl (1, 7, .inl (upd NL t 0))) ha kfr_rf (by unfold kNF; omega)) (by unfold kNF; omega)
      repeat' (first | (refine ih (t + 1) _ _ _ (by omega) hW2 hS2 hN2 ?_ ?_) | (refine ky_ok_stp rfl ?_; simp (disch := first | omega | assumption) only [ky_stp, ky_inv, ky_ldi, ky_ldl, ky_ldd, ky_lda, ky_cl2, ky_st1, ky_st2, ky_s1i, ky_s2i, ky_s1l, ky_s2l, ky_sli, ky_s1f, ky_s2f, ky_s1d, ky_s2d, ky_sr, ky_sai, ky_sasi, ky_sasl, ky_sasr, ky_svr, ky_sv, ky_sv2, ky_s1, ky_cs, ky_pop, ky_nth, ky_snt, ky_obj, ky_ari, ky_arl, ky_arr, ky_arn, ky_fv, ky_rcv, List.map_cons, List.map_nil, List.drop_succ_cons, List.drop_zero, Value.category, Nat.reduceAdd, Nat.reduceSub, true_and, and_true, true_or, or_true, reduceCtorEq, ite_true, ite_false, eq_self, Nat.reduceEqDiff, Nat.reduceLeDiff, nI_add, nI_1, nI_leI, nI_ltI, nI_eq, nI_clamp, kz_m1, kz_mn, kz_mn2, kz_n0, kz_0n, kz_0, kz_le0, kz_0lt, false_implies, true_implies, not_false_eq_true, not_true_eq_false, Nat.zero_le, kb_0, kz_10, kz_of, ky_sw, kz_mx, kz_mi, kz_6, h0, h4, h5, kz_up, kI_ne ha]) | (refine ⟨vp_in_nI (by omega) (by omega), ?_⟩) | (refine ⟨fun zc => ?_, fun zc => ?_⟩ <;> try (exfalso; omega)) | fail)
      · intro l hl
        by_cases e : l = t
        · subst e; rw [pk_us, pk_us]; exact ⟨rfl, rfl⟩
        · rw [pk_un e, pk_un e]; exact hc l (by omega)
      · intro f3 KD2 CT2 PX2 NL2 LV2 w1 w2 w3
        exact hQ f3 _ _ _ _ _ w1 w2 (kfr_tr hF2 w3 fun j hj => ⟨hj, hj⟩)
  refine ⟨Nat.le_of_ble_eq_true rfl, fun z => absurd z (by decide), ?_⟩; show ky_ok adK 10 0 [some (.ref (a k)), some (.ref (a ko)), none] [] f 0 0 _
  repeat' (first | (refine loop1 7 0 f NL LV (by omega) hW hS hN ?_ hQ) | (refine ky_ok_stp rfl ?_; simp (disch := first | omega | assumption) only [ky_stp, ky_inv, ky_ldi, ky_ldl, ky_ldd, ky_lda, ky_cl2, ky_st1, ky_st2, ky_s1i, ky_s2i, ky_s1l, ky_s2l, ky_sli, ky_s1f, ky_s2f, ky_s1d, ky_s2d, ky_sr, ky_sai, ky_sasi, ky_sasl, ky_sasr, ky_svr, ky_sv, ky_sv2, ky_s1, ky_cs, ky_pop, ky_nth, ky_snt, ky_obj, ky_ari, ky_arl, ky_arr, ky_arn, ky_fv, ky_rcv, List.map_cons, List.map_nil, List.drop_succ_cons, List.drop_zero, Value.category, Nat.reduceAdd, Nat.reduceSub, true_and, and_true, true_or, or_true, reduceCtorEq, ite_true, ite_false, eq_self, Nat.reduceEqDiff, Nat.reduceLeDiff, nI_add, nI_1, nI_leI, nI_ltI, nI_eq, nI_clamp, kz_m1, kz_mn, kz_mn2, kz_n0, kz_0n, kz_0, kz_le0, kz_0lt, false_implies, true_implies, not_false_eq_true, not_true_eq_false, Nat.zero_le, kb_0, kz_10, kz_of, ky_sw, kz_mx, kz_mi]) | (refine ⟨vp_in_nI (by omega) (by omega), ?_⟩) | (refine ⟨fun zc => ?_, fun zc => ?_⟩ <;> try (exfalso; omega)) | fail)
  intro l hl; omega
end KXD
