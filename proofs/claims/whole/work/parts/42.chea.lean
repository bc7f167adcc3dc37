/-! ## the cheapest move to a level -/
noncomputable def kCg (z : kZ) (p l t w : Nat) (r : Nat × Nat) : Nat × Nat := @ite _ (kNl z t w = l ∧ kMR z p t w = 0 ∧ kChg z p t w < r.2) (Classical.propDecidable _) (10 * t + w + 1, kChg z p t w) r
noncomputable def kCgi (z : kZ) (p l t : Nat) : Nat → Nat → Nat × Nat → Nat × Nat
  | 0, _, r => r
  | k + 1, w, r => kCgi z p l t k (w + 1) (kCg z p l t w r)
noncomputable def kCgo (z : kZ) (p l : Nat) : Nat → Nat → Nat × Nat → Nat × Nat
  | 0, _, r => r
  | m + 1, t, r => kCgo z p l m (t + 1) (kCgi z p l t 4 0 r)
/-- what is known of places that were tried -/
def kTi (z : kZ) (p l : Nat) (m : Nat) (T : Nat → Int32) : Prop := m ≤ 61 ∧ ∀ k, k < 61 → ¬ T k = 0 → ∃ t w, t < z.n ∧ w ≤ 3 ∧ kNl z t w = l ∧ kMR z p t w = 0 ∧ kKn z p t w = k ∧ m ≤ kChg z p t w
def kCF (j : Nat) : Prop := kDF j ∨ j = 56
section KXP
variable {adK a : Nat → Nat} {f : ky_H} {s : kSt} {Q : ky_Q} {x y v : Int32} {p t w i e l j k : Nat}
theorem kK_tr {P : Nat → Int32} (h : kK a f s) : kK a (ky_up f (a 56) (.inl (3, 61, .inl P))) s := by
  obtain ⟨b1, b2, b3, b4⟩ := h
  have hF : kfr a f (ky_up f (a 56) (.inl (3, 61, .inl P))) (fun j => j = 56) := kfr_up b1 kfr_rf rfl
  exact ⟨b1, kK1_fr b2 fun j hj => hF j (by unfold ksc at hj; omega), kK2_fr b3 hF (.inl fun j _ _ => by omega) (.inl fun j _ _ => by omega) (.inl fun j _ _ => by omega) (.inl ⟨by omega, by omega⟩) (.inl (by omega)) (.inl fun j _ _ => by omega) (.inl (by omega)) (.inl (by omega)) (.inr ⟨_, kz_same⟩), b4⟩
theorem kCFt {f1 f2 f3 : ky_H} (g1 : kfr a f1 f2 kCF) (g2 : kfr a f2 f3 kCF) : kfr a f1 f3 kCF := kfr_tr g1 g2 fun j hj => ⟨hj, hj⟩
theorem kx109 (h : kK a f s) (hy : ∀ p l f', p < s.o.n → 1 ≤ l → l ≤ 6 → x = nI p → y = nI l → kK a f' s → kfr a f f' kL7 → Q (.inl (some (.int (nI (kCgo s.o p l s.o.n 0 (0, 61)).1 - 1)))) f') (h2 : ¬ (kHas s.o.n x ∧ kLvl y) → Q (.inr 2) f) : ky_cl adK 109 [.ref (a 0), .int x, .int y] f Q := by
  have ha := h.1
  have hn := h.2.2.2.o.n60
  have ho := h.2.2.2.o
  have e61 : (61 : Int32) = nI 61 := rfl
  have e10 : (10 : Int32) = nI 10 := rfl
  obtain ⟨kh0, kh1, kh2, kh23, kh30, kh40, kh42, ⟨_, kh37⟩, ⟨_, kh44⟩, ⟨_, kh46⟩, kh47, ⟨_, kh48⟩, ⟨_, kh12⟩, kh53⟩ := kK_hd h
  refine ⟨Nat.le_of_ble_eq_true rfl, fun z => absurd z (by decide), ?_⟩; show ky_ok adK 109 0 [some (.ref (a 0)), some (.int x), some (.int y), none, none, none, none, none] [] f 0 0 _
  by_cases hx : kHas s.o.n x
  case neg =>
    have hq := h2 fun z => hx z.1
    repeat' (first | ((refine kx128 h (fun z => absurd z hx) (fun _ => ?_); exact hq)) | (refine ky_ok_stp rfl ?_; simp (disch := first | omega | assumption) only [ky_stp, ky_inv, ky_ldi, ky_ldl, ky_ldd, ky_lda, ky_cl2, ky_st1, ky_st2, ky_s1i, ky_s2i, ky_s1l, ky_s2l, ky_sli, ky_s1f, ky_s2f, ky_s1d, ky_s2d, ky_sr, ky_sai, ky_sasi, ky_sasl, ky_sasr, ky_svr, ky_sv, ky_sv2, ky_s1, ky_cs, ky_pop, ky_nth, ky_snt, ky_obj, ky_ari, ky_arl, ky_arr, ky_arn, ky_fv, ky_rcv, List.map_cons, List.map_nil, List.drop_succ_cons, List.drop_zero, Value.category, Nat.reduceAdd, Nat.reduceSub, true_and, and_true, true_or, or_true, reduceCtorEq, ite_true, ite_false, eq_self, Nat.reduceEqDiff, Nat.reduceLeDiff, nI_add, nI_1, nI_leI, nI_ltI, nI_eq, nI_clamp, kz_m1, kz_mn, kz_mn2, kz_n0, kz_0n, kz_0, kz_le0, kz_0lt, false_implies, true_implies, not_false_eq_true, not_true_eq_false, Nat.zero_le, kb_0, kz_10, kz_of, ky_sw, kz_mx, kz_mi, kh0, kh1, kh2, kh23, kh30, kh40, kh42, kh37, kh44, kh46, kh47, kh48, kh12, kh53]) | (refine ⟨vp_in_nI (by omega) (by omega), ?_⟩) | (rw [if_neg (by decide)]; refine ⟨by decide, by decide, ?_⟩) | (refine ⟨by decide, by decide, ?_⟩) | (refine ⟨fun zc => ?_, fun zc => ?_⟩ <;> try (exfalso; omega)) | fail)
  by_cases hyy : kLvl y
  case neg =>
    have hq := h2 fun z => hyy z.2
    repeat' (first | ((refine kx128 h (fun _ => ?_) (fun z => absurd hx z); simp only [ky_aft, ky_vl, Nat.reduceAdd])) | ((refine kx130 (fun z => absurd z hyy) (fun _ => ?_); exact hq)) | (refine ky_ok_stp rfl ?_; simp (disch := first | omega | assumption) only [ky_stp, ky_inv, ky_ldi, ky_ldl, ky_ldd, ky_lda, ky_cl2, ky_st1, ky_st2, ky_s1i, ky_s2i, ky_s1l, ky_s2l, ky_sli, ky_s1f, ky_s2f, ky_s1d, ky_s2d, ky_sr, ky_sai, ky_sasi, ky_sasl, ky_sasr, ky_svr, ky_sv, ky_sv2, ky_s1, ky_cs, ky_pop, ky_nth, ky_snt, ky_obj, ky_ari, ky_arl, ky_arr, ky_arn, ky_fv, ky_rcv, List.map_cons, List.map_nil, List.drop_succ_cons, List.drop_zero, Value.category, Nat.reduceAdd, Nat.reduceSub, true_and, and_true, true_or, or_true, reduceCtorEq, ite_true, ite_false, eq_self, Nat.reduceEqDiff, Nat.reduceLeDiff, nI_add, nI_1, nI_leI, nI_ltI, nI_eq, nI_clamp, kz_m1, kz_mn, kz_mn2, kz_n0, kz_0n, kz_0, kz_le0, kz_0lt, false_implies, true_implies, not_false_eq_true, not_true_eq_false, Nat.zero_le, kb_0, kz_10, kz_of, ky_sw, kz_mx, kz_mi, kh0, kh1, kh2, kh23, kh30, kh40, kh42, kh37, kh44, kh46, kh47, kh48, kh12, kh53]) | (refine ⟨vp_in_nI (by omega) (by omega), ?_⟩) | (rw [if_neg (by decide)]; refine ⟨by decide, by decide, ?_⟩) | (refine ⟨by decide, by decide, ?_⟩) | (refine ⟨fun zc => ?_, fun zc => ?_⟩ <;> try (exfalso; omega)) | fail)
  obtain ⟨p, hp, rfl⟩ := id hx
  obtain ⟨l, l1, l6, rfl⟩ := id hyy
  have inner : ∀ k w f b m T v7 t, w + k = 4 → t < s.o.n → kK a f s → kNu a 23 f s.o.n (kKD s.o) (kCO s.o) (kPF s.o) → f (a 56) = some (.inl (3, 61, .inl T)) → kTi s.o p l m T → b ≤ 1000 →
      (∀ f' b' m' T' v7', kCgi s.o p l t k w (b, m) = (b', m') → kK a f' s → kNu a 23 f' s.o.n (kKD s.o) (kCO s.o) (kPF s.o) → f' (a 56) = some (.inl (3, 61, .inl T')) → kTi s.o p l m' T' → b' ≤ 1000 → kfr a f f' kCF → ky_ok adK 109 141 [some (.ref (a 0)), some (.int (nI p)), some (.int (nI l)), some (.int (nI b' - 1)), some (.int (nI m')), some (.int (nI t)), some (.int (nI 4)), v7'] [] f' 2 12 Q) →
      ky_ok adK 109 68 [some (.ref (a 0)), some (.int (nI p)), some (.int (nI l)), some (.int (nI b - 1)), some (.int (nI m)), some (.int (nI t)), some (.int (nI w)), v7] [] f 2 12 Q := by
    intro k
    induction k with
    | zero =>
      intro w f b m T v7 t hwk ht h hN hT hi hb hK
      obtain rfl : w = 4 := by omega
      repeat' (first | (exact hK f b m T v7 rfl h hN hT hi hb kfr_rf) | (refine ky_ok_stp rfl ?_; simp (disch := first | omega | assumption) only [ky_stp, ky_inv, ky_ldi, ky_ldl, ky_ldd, ky_lda, ky_cl2, ky_st1, ky_st2, ky_s1i, ky_s2i, ky_s1l, ky_s2l, ky_sli, ky_s1f, ky_s2f, ky_s1d, ky_s2d, ky_sr, ky_sai, ky_sasi, ky_sasl, ky_sasr, ky_svr, ky_sv, ky_sv2, ky_s1, ky_cs, ky_pop, ky_nth, ky_snt, ky_obj, ky_ari, ky_arl, ky_arr, ky_arn, ky_fv, ky_rcv, List.map_cons, List.map_nil, List.drop_succ_cons, List.drop_zero, Value.category, Nat.reduceAdd, Nat.reduceSub, true_and, and_true, true_or, or_true, reduceCtorEq, ite_true, ite_false, eq_self, Nat.reduceEqDiff, Nat.reduceLeDiff, nI_add, nI_1, nI_leI, nI_ltI, nI_eq, nI_clamp, kz_m1, kz_mn, kz_mn2, kz_n0, kz_0n, kz_0, kz_le0, kz_0lt, false_implies, true_implies, not_false_eq_true, not_true_eq_false, Nat.zero_le, kb_0, kz_10, kz_of, ky_sw, kz_mx, kz_mi, kz_3x]) | (refine ⟨vp_in_nI (by omega) (by omega), ?_⟩) | (refine ⟨fun zc => ?_, fun zc => ?_⟩ <;> try (exfalso; omega)) | fail)
    | succ k ih =>
      intro w f b m T v7 t hwk ht h hN hT hi hb hK
      obtain ⟨kh0, kh1, kh2, kh23, kh30, kh40, kh42, ⟨_, kh37⟩, ⟨_, kh44⟩, ⟨_, kh46⟩, kh47, ⟨_, kh48⟩, ⟨_, kh12⟩, kh53⟩ := kK_hd h
      obtain ⟨G, hW⟩ := h.2.1.z.1
      have hw3 : w ≤ 3 := by omega
      have hlb := kLB_nl ho (w := w) ht
      have hnl : kNl s.o t w ≤ 7 := by have := (ho.lv t ht).2.2; unfold kNl; split <;> omega
      rw [kCgi] at hK
      (refine ky_ok_stp rfl ?_; simp (disch := first | omega | assumption) only [ky_stp, ky_inv, ky_ldi, ky_ldl, ky_ldd, ky_lda, ky_cl2, ky_st1, ky_st2, ky_s1i, ky_s2i, ky_s1l, ky_s2l, ky_sli, ky_s1f, ky_s2f, ky_s1d, ky_s2d, ky_sr, ky_sai, ky_sasi, ky_sasl, ky_sasr, ky_svr, ky_sv, ky_sv2, ky_s1, ky_cs, ky_pop, ky_nth, ky_snt, ky_obj, ky_ari, ky_arl, ky_arr, ky_arn, ky_fv, ky_rcv, List.map_cons, List.map_nil, List.drop_succ_cons, List.drop_zero, Value.category, Nat.reduceAdd, Nat.reduceSub, true_and, and_true, true_or, or_true, reduceCtorEq, ite_true, ite_false, eq_self, Nat.reduceEqDiff, Nat.reduceLeDiff, nI_add, nI_1, nI_leI, nI_ltI, nI_eq, nI_clamp, kz_m1, kz_mn, kz_mn2, kz_n0, kz_0n, kz_0, kz_le0, kz_0lt, false_implies, true_implies, not_false_eq_true, not_true_eq_false, Nat.zero_le, kb_0, kz_10, kz_of, ky_sw, kz_mx, kz_mi])
      by_cases c1 : kNl s.o t w = l
      case neg =>
        have e1 : (nI (kNl s.o t w) = nI l) = False := by rw [nI_eq (by omega) (by omega)]; exact eq_false c1
        have e2 : kCg s.o p l t w (b, m) = (b, m) := if_neg fun z => c1 z.1
        rw [e2] at hK
        repeat' (first | ((refine kx42 (j := t + 1) hW.1 hn ht (nI_pred t).symm hw3 ?_; rw [hlb]; simp only [ky_aft, ky_vl, Nat.reduceAdd])) | (refine ih (w + 1) f b m T _ t (by omega) ht h hN hT hi hb hK) | (refine ky_ok_stp rfl ?_; simp (disch := first | omega | assumption) only [ky_stp, ky_inv, ky_ldi, ky_ldl, ky_ldd, ky_lda, ky_cl2, ky_st1, ky_st2, ky_s1i, ky_s2i, ky_s1l, ky_s2l, ky_sli, ky_s1f, ky_s2f, ky_s1d, ky_s2d, ky_sr, ky_sai, ky_sasi, ky_sasl, ky_sasr, ky_svr, ky_sv, ky_sv2, ky_s1, ky_cs, ky_pop, ky_nth, ky_snt, ky_obj, ky_ari, ky_arl, ky_arr, ky_arn, ky_fv, ky_rcv, List.map_cons, List.map_nil, List.drop_succ_cons, List.drop_zero, Value.category, Nat.reduceAdd, Nat.reduceSub, true_and, and_true, true_or, or_true, reduceCtorEq, ite_true, ite_false, eq_self, Nat.reduceEqDiff, Nat.reduceLeDiff, nI_add, nI_1, nI_leI, nI_ltI, nI_eq, nI_clamp, kz_m1, kz_mn, kz_mn2, kz_n0, kz_0n, kz_0, kz_le0, kz_0lt, false_implies, true_implies, not_false_eq_true, not_true_eq_false, Nat.zero_le, kb_0, kz_10, kz_of, ky_sw, kz_mx, kz_mi, kh0, kh1, kh2, kh23, kh30, kh40, kh42, kh37, kh44, kh46, kh47, kh48, kh12, kh53, kz_3x, hlb, e1]) | (refine ⟨vp_in_nI (by omega) (by omega), ?_⟩) | (rw [if_neg (by decide)]; refine ⟨by decide, by decide, ?_⟩) | (refine ⟨by decide, by decide, ?_⟩) | (refine ⟨fun zc => ?_, fun zc => ?_⟩ <;> try (exfalso; omega)) | fail)
      by_cases c2 : kMR s.o p t w = 0 ∧ T (kKn s.o p t w) = 0
      case neg =>
        have e2 : kCg s.o p l t w (b, m) = (b, m) := if_neg fun z => by
          by_cases c3 : T (kKn s.o p t w) = 0
          · exact c2 ⟨z.2.1, c3⟩
          · have hE := kEnd_le hp
            obtain ⟨hd, -⟩ := kMR_0 ho hp ht z.2.1
            obtain ⟨hto, hton⟩ := kMR_to (w := w) ho hp ht hd
            obtain ⟨t', w', a1, a2, a3, a4, a5, a6⟩ := hi.2 (kKn s.o p t w) (by unfold kKn; split <;> omega) c3
            have := kChg_kn ho hp a1 ht a5 (by rw [a3, c1])
            have z2 : kChg s.o p t w < m := z.2.2
            omega
        rw [e2] at hK
        have c2' : ¬ kMR s.o p t w = 0 ∨ ¬ T (kKn s.o p t w) = 0 := by
          by_cases c3 : kMR s.o p t w = 0
          · exact Or.inr fun c4 => c2 ⟨c3, c4⟩
          · exact Or.inl c3
        repeat' (first | ((refine kx42 (j := t + 1) hW.1 hn ht (nI_pred t).symm hw3 ?_; rw [hlb]; simp only [ky_aft, ky_vl, Nat.reduceAdd])) | ((refine kx153 h hp ht hw3 hT (fun _ => ?_) (fun g1 g2 => absurd ⟨g1, g2⟩ c2); simp only [ky_aft, ky_vl, Nat.reduceAdd])) | (refine ih (w + 1) f b m T _ t (by omega) ht h hN hT hi hb hK) | (refine ky_ok_stp rfl ?_; simp (disch := first | omega | assumption) only [ky_stp, ky_inv, ky_ldi, ky_ldl, ky_ldd, ky_lda, ky_cl2, ky_st1, ky_st2, ky_s1i, ky_s2i, ky_s1l, ky_s2l, ky_sli, ky_s1f, ky_s2f, ky_s1d, ky_s2d, ky_sr, ky_sai, ky_sasi, ky_sasl, ky_sasr, ky_svr, ky_sv, ky_sv2, ky_s1, ky_cs, ky_pop, ky_nth, ky_snt, ky_obj, ky_ari, ky_arl, ky_arr, ky_arn, ky_fv, ky_rcv, List.map_cons, List.map_nil, List.drop_succ_cons, List.drop_zero, Value.category, Nat.reduceAdd, Nat.reduceSub, true_and, and_true, true_or, or_true, reduceCtorEq, ite_true, ite_false, eq_self, Nat.reduceEqDiff, Nat.reduceLeDiff, nI_add, nI_1, nI_leI, nI_ltI, nI_eq, nI_clamp, kz_m1, kz_mn, kz_mn2, kz_n0, kz_0n, kz_0, kz_le0, kz_0lt, false_implies, true_implies, not_false_eq_true, not_true_eq_false, Nat.zero_le, kb_0, kz_10, kz_of, ky_sw, kz_mx, kz_mi, kh0, kh1, kh2, kh23, kh30, kh40, kh42, kh37, kh44, kh46, kh47, kh48, kh12, kh53, kz_3x, hlb, c1]) | (refine ⟨vp_in_nI (by omega) (by omega), ?_⟩) | (rw [if_neg (by decide)]; refine ⟨by decide, by decide, ?_⟩) | (refine ⟨by decide, by decide, ?_⟩) | (refine ⟨fun zc => ?_, fun zc => ?_⟩ <;> try (exfalso; omega)) | fail)
      repeat' (first | ((refine kx42 (j := t + 1) hW.1 hn ht (nI_pred t).symm hw3 ?_; rw [hlb]; simp only [ky_aft, ky_vl, Nat.reduceAdd])) | (refine kx153 h hp ht hw3 hT (fun g => absurd c2 (fun z => g.elim (fun q => q z.1) (fun q => q z.2))) ?_) | (refine ky_ok_stp rfl ?_; simp (disch := first | omega | assumption) only [ky_stp, ky_inv, ky_ldi, ky_ldl, ky_ldd, ky_lda, ky_cl2, ky_st1, ky_st2, ky_s1i, ky_s2i, ky_s1l, ky_s2l, ky_sli, ky_s1f, ky_s2f, ky_s1d, ky_s2d, ky_sr, ky_sai, ky_sasi, ky_sasl, ky_sasr, ky_svr, ky_sv, ky_sv2, ky_s1, ky_cs, ky_pop, ky_nth, ky_snt, ky_obj, ky_ari, ky_arl, ky_arr, ky_arn, ky_fv, ky_rcv, List.map_cons, List.map_nil, List.drop_succ_cons, List.drop_zero, Value.category, Nat.reduceAdd, Nat.reduceSub, true_and, and_true, true_or, or_true, reduceCtorEq, ite_true, ite_false, eq_self, Nat.reduceEqDiff, Nat.reduceLeDiff, nI_add, nI_1, nI_leI, nI_ltI, nI_eq, nI_clamp, kz_m1, kz_mn, kz_mn2, kz_n0, kz_0n, kz_0, kz_le0, kz_0lt, false_implies, true_implies, not_false_eq_true, not_true_eq_false, Nat.zero_le, kb_0, kz_10, kz_of, ky_sw, kz_mx, kz_mi, kh0, kh1, kh2, kh23, kh30, kh40, kh42, kh37, kh44, kh46, kh47, kh48, kh12, kh53, kz_3x, hlb, c1]) | (refine ⟨vp_in_nI (by omega) (by omega), ?_⟩) | (rw [if_neg (by decide)]; refine ⟨by decide, by decide, ?_⟩) | (refine ⟨by decide, by decide, ?_⟩) | (refine ⟨fun zc => ?_, fun zc => ?_⟩ <;> try (exfalso; omega)) | fail)
      intro _ _ f1 h1 hT1 hF1
      simp only [ky_aft, ky_vl, Nat.reduceAdd]
      have hN1 : kNu a 23 f1 s.o.n (kKD s.o) (kCO s.o) (kPF s.o) := kNu_fr hN fun j z1 z2 => hF1 j (by omega)
      have hF1' : kfr a f f1 kCF := fun j hj => hF1 j fun z => hj (Or.inr z)
      obtain ⟨kh0, kh1, kh2, kh23, kh30, kh40, kh42, ⟨_, kh37⟩, ⟨_, kh44⟩, ⟨_, kh46⟩, kh47, ⟨_, kh48⟩, ⟨_, kh12⟩, kh53⟩ := kK_hd h1
      repeat' (first | (refine kx154 h1 hp ht hw3 c2.1 hN1 ?_) | (refine ky_ok_stp rfl ?_; simp (disch := first | omega | assumption) only [ky_stp, ky_inv, ky_ldi, ky_ldl, ky_ldd, ky_lda, ky_cl2, ky_st1, ky_st2, ky_s1i, ky_s2i, ky_s1l, ky_s2l, ky_sli, ky_s1f, ky_s2f, ky_s1d, ky_s2d, ky_sr, ky_sai, ky_sasi, ky_sasl, ky_sasr, ky_svr, ky_sv, ky_sv2, ky_s1, ky_cs, ky_pop, ky_nth, ky_snt, ky_obj, ky_ari, ky_arl, ky_arr, ky_arn, ky_fv, ky_rcv, List.map_cons, List.map_nil, List.drop_succ_cons, List.drop_zero, Value.category, Nat.reduceAdd, Nat.reduceSub, true_and, and_true, true_or, or_true, reduceCtorEq, ite_true, ite_false, eq_self, Nat.reduceEqDiff, Nat.reduceLeDiff, nI_add, nI_1, nI_leI, nI_ltI, nI_eq, nI_clamp, kz_m1, kz_mn, kz_mn2, kz_n0, kz_0n, kz_0, kz_le0, kz_0lt, false_implies, true_implies, not_false_eq_true, not_true_eq_false, Nat.zero_le, kb_0, kz_10, kz_of, ky_sw, kz_mx, kz_mi, kh0, kh1, kh2, kh23, kh30, kh40, kh42, kh37, kh44, kh46, kh47, kh48, kh12, kh53, kz_10]) | (refine ⟨vp_in_nI (by omega) (by omega), ?_⟩) | (rw [if_neg (by decide)]; refine ⟨by decide, by decide, ?_⟩) | (refine ⟨by decide, by decide, ?_⟩) | (refine ⟨fun zc => ?_, fun zc => ?_⟩ <;> try (exfalso; omega)) | fail)
      intro f2 h2' hN2 hF2
      simp only [ky_aft, ky_vl, Nat.reduceAdd]
      have hF2' : kfr a f f2 kCF := kCFt hF1' fun j hj => hF2 j fun z => hj (Or.inl z)
      have hT2 : f2 (a 56) = some (.inl (3, 61, .inl (upd T (kKn s.o p t w) 1))) := (hF2 56 (by unfold kDF; omega)).trans hT1
      have hle : kChg s.o p t w ≤ s.o.n := kCt_le _ _
      by_cases c3 : kChg s.o p t w < m
      · have e2 : kCg s.o p l t w (b, m) = (10 * t + w + 1, kChg s.o p t w) := if_pos ⟨c1, c2.1, c3⟩
        rw [e2] at hK
        have hi2 : kTi s.o p l (kChg s.o p t w) (upd T (kKn s.o p t w) 1) := by
          refine ⟨by omega, fun k hk hT => ?_⟩
          by_cases ek : k = kKn s.o p t w
          · exact ⟨t, w, ht, hw3, c1, c2.1, ek.symm, Nat.le_refl _⟩
          · rw [pk_un ek] at hT
            obtain ⟨t', w', a1, a2, a3, a4, a5, a6⟩ := hi.2 k hk hT
            exact ⟨t', w', a1, a2, a3, a4, a5, by omega⟩
        have em := hi.1
        repeat' (first | (exact (by have := ih (w + 1) f2 (10 * t + w + 1) (kChg s.o p t w) _ (some (.int (nI (kChg s.o p t w)))) t (by omega) ht h2' hN2 hT2 hi2 (by omega) (fun f' b' m' T' v7' g1 g2 g3 g4 g5 g6 g7 => hK f' b' m' T' v7' g1 g2 g3 g4 g5 g6 (kCFt hF2' g7)); rw [nI_pred] at this; exact this)) | (refine ky_ok_stp rfl ?_; simp (disch := first | omega | assumption) only [ky_stp, ky_inv, ky_ldi, ky_ldl, ky_ldd, ky_lda, ky_cl2, ky_st1, ky_st2, ky_s1i, ky_s2i, ky_s1l, ky_s2l, ky_sli, ky_s1f, ky_s2f, ky_s1d, ky_s2d, ky_sr, ky_sai, ky_sasi, ky_sasl, ky_sasr, ky_svr, ky_sv, ky_sv2, ky_s1, ky_cs, ky_pop, ky_nth, ky_snt, ky_obj, ky_ari, ky_arl, ky_arr, ky_arn, ky_fv, ky_rcv, List.map_cons, List.map_nil, List.drop_succ_cons, List.drop_zero, Value.category, Nat.reduceAdd, Nat.reduceSub, true_and, and_true, true_or, or_true, reduceCtorEq, ite_true, ite_false, eq_self, Nat.reduceEqDiff, Nat.reduceLeDiff, nI_add, nI_1, nI_leI, nI_ltI, nI_eq, nI_clamp, kz_m1, kz_mn, kz_mn2, kz_n0, kz_0n, kz_0, kz_le0, kz_0lt, false_implies, true_implies, not_false_eq_true, not_true_eq_false, Nat.zero_le, kb_0, kz_10, kz_of, ky_sw, kz_mx, kz_mi, kz_3x, e10, nI_mul, eq_true c3]) | (refine ⟨vp_in_nI (by omega) (by omega), ?_⟩) | (rw [if_neg (by decide)]; refine ⟨by decide, by decide, ?_⟩) | (refine ⟨by decide, by decide, ?_⟩) | (refine ⟨fun zc => ?_, fun zc => ?_⟩ <;> try (exfalso; omega)) | fail)
      · have e2 : kCg s.o p l t w (b, m) = (b, m) := if_neg fun z => c3 z.2.2
        rw [e2] at hK
        have hi2 : kTi s.o p l m (upd T (kKn s.o p t w) 1) := by
          refine ⟨hi.1, fun k hk hT => ?_⟩
          by_cases ek : k = kKn s.o p t w
          · exact ⟨t, w, ht, hw3, c1, c2.1, ek.symm, by omega⟩
          · rw [pk_un ek] at hT
            exact hi.2 k hk hT
        have em := hi.1
        repeat' (first | (refine ih (w + 1) f2 b m _ (some (.int (nI (kChg s.o p t w)))) t (by omega) ht h2' hN2 hT2 hi2 hb (fun f' b' m' T' v7' g1 g2 g3 g4 g5 g6 g7 => hK f' b' m' T' v7' g1 g2 g3 g4 g5 g6 (kCFt hF2' g7))) | (refine ky_ok_stp rfl ?_; simp (disch := first | omega | assumption) only [ky_stp, ky_inv, ky_ldi, ky_ldl, ky_ldd, ky_lda, ky_cl2, ky_st1, ky_st2, ky_s1i, ky_s2i, ky_s1l, ky_s2l, ky_sli, ky_s1f, ky_s2f, ky_s1d, ky_s2d, ky_sr, ky_sai, ky_sasi, ky_sasl, ky_sasr, ky_svr, ky_sv, ky_sv2, ky_s1, ky_cs, ky_pop, ky_nth, ky_snt, ky_obj, ky_ari, ky_arl, ky_arr, ky_arn, ky_fv, ky_rcv, List.map_cons, List.map_nil, List.drop_succ_cons, List.drop_zero, Value.category, Nat.reduceAdd, Nat.reduceSub, true_and, and_true, true_or, or_true, reduceCtorEq, ite_true, ite_false, eq_self, Nat.reduceEqDiff, Nat.reduceLeDiff, nI_add, nI_1, nI_leI, nI_ltI, nI_eq, nI_clamp, kz_m1, kz_mn, kz_mn2, kz_n0, kz_0n, kz_0, kz_le0, kz_0lt, false_implies, true_implies, not_false_eq_true, not_true_eq_false, Nat.zero_le, kb_0, kz_10, kz_of, ky_sw, kz_mx, kz_mi, kz_3x]) | (refine ⟨vp_in_nI (by omega) (by omega), ?_⟩) | (rw [if_neg (by decide)]; refine ⟨by decide, by decide, ?_⟩) | (refine ⟨by decide, by decide, ?_⟩) | (refine ⟨fun zc => ?_, fun zc => ?_⟩ <;> try (exfalso; omega)) | fail)
  have outer : ∀ m2 t f b m T v6 v7, t + m2 = s.o.n → kK a f s → kNu a 23 f s.o.n (kKD s.o) (kCO s.o) (kPF s.o) → f (a 56) = some (.inl (3, 61, .inl T)) → kTi s.o p l m T → b ≤ 1000 →
      (∀ f', kK a f' s → kfr a f f' kCF → Q (.inl (some (.int (nI (kCgo s.o p l m2 t (b, m)).1 - 1)))) f') →
      ky_ok adK 109 53 [some (.ref (a 0)), some (.int (nI p)), some (.int (nI l)), some (.int (nI b - 1)), some (.int (nI m)), some (.int (nI t)), v6, v7] [] f 2 12 Q := by
    intro m2
    induction m2 with
    | zero =>
      intro t f b m T v6 v7 ht h hN hT hi hb hq
      obtain ⟨kh0, kh1, kh2, kh23, kh30, kh40, kh42, ⟨_, kh37⟩, ⟨_, kh44⟩, ⟨_, kh46⟩, kh47, ⟨_, kh48⟩, ⟨_, kh12⟩, kh53⟩ := kK_hd h
      repeat' (first | (refine ky_ok_stp rfl ?_; simp (disch := first | omega | assumption) only [ky_stp, ky_inv, ky_ldi, ky_ldl, ky_ldd, ky_lda, ky_cl2, ky_st1, ky_st2, ky_s1i, ky_s2i, ky_s1l, ky_s2l, ky_sli, ky_s1f, ky_s2f, ky_s1d, ky_s2d, ky_sr, ky_sai, ky_sasi, ky_sasl, ky_sasr, ky_svr, ky_sv, ky_sv2, ky_s1, ky_cs, ky_pop, ky_nth, ky_snt, ky_obj, ky_ari, ky_arl, ky_arr, ky_arn, ky_fv, ky_rcv, List.map_cons, List.map_nil, List.drop_succ_cons, List.drop_zero, Value.category, Nat.reduceAdd, Nat.reduceSub, true_and, and_true, true_or, or_true, reduceCtorEq, ite_true, ite_false, eq_self, Nat.reduceEqDiff, Nat.reduceLeDiff, nI_add, nI_1, nI_leI, nI_ltI, nI_eq, nI_clamp, kz_m1, kz_mn, kz_mn2, kz_n0, kz_0n, kz_0, kz_le0, kz_0lt, false_implies, true_implies, not_false_eq_true, not_true_eq_false, Nat.zero_le, kb_0, kz_10, kz_of, ky_sw, kz_mx, kz_mi, kh0, kh1, kh2, kh23, kh30, kh40, kh42, kh37, kh44, kh46, kh47, kh48, kh12, kh53]) | (refine ⟨vp_in_nI (by omega) (by omega), ?_⟩) | (refine ⟨fun zc => ?_, fun zc => ?_⟩ <;> try (exfalso; omega)) | fail)
      exact hq f h kfr_rf
    | succ m2 ih =>
      intro t f b m T v6 v7 ht h hN hT hi hb hq
      obtain ⟨kh0, kh1, kh2, kh23, kh30, kh40, kh42, ⟨_, kh37⟩, ⟨_, kh44⟩, ⟨_, kh46⟩, kh47, ⟨_, kh48⟩, ⟨_, kh12⟩, kh53⟩ := kK_hd h
      (refine ky_ok_stp rfl ?_; simp (disch := first | omega | assumption) only [ky_stp, ky_inv, ky_ldi, ky_ldl, ky_ldd, ky_lda, ky_cl2, ky_st1, ky_st2, ky_s1i, ky_s2i, ky_s1l, ky_s2l, ky_sli, ky_s1f, ky_s2f, ky_s1d, ky_s2d, ky_sr, ky_sai, ky_sasi, ky_sasl, ky_sasr, ky_svr, ky_sv, ky_sv2, ky_s1, ky_cs, ky_pop, ky_nth, ky_snt, ky_obj, ky_ari, ky_arl, ky_arr, ky_arn, ky_fv, ky_rcv, List.map_cons, List.map_nil, List.drop_succ_cons, List.drop_zero, Value.category, Nat.reduceAdd, Nat.reduceSub, true_and, and_true, true_or, or_true, reduceCtorEq, ite_true, ite_false, eq_self, Nat.reduceEqDiff, Nat.reduceLeDiff, nI_add, nI_1, nI_leI, nI_ltI, nI_eq, nI_clamp, kz_m1, kz_mn, kz_mn2, kz_n0, kz_0n, kz_0, kz_le0, kz_0lt, false_implies, true_implies, not_false_eq_true, not_true_eq_false, Nat.zero_le, kb_0, kz_10, kz_of, ky_sw, kz_mx, kz_mi])
      repeat' (first | (refine inner 4 0 f b m T _ t rfl (by omega) h hN hT hi hb ?_) | (refine ky_ok_stp rfl ?_; simp (disch := first | omega | assumption) only [ky_stp, ky_inv, ky_ldi, ky_ldl, ky_ldd, ky_lda, ky_cl2, ky_st1, ky_st2, ky_s1i, ky_s2i, ky_s1l, ky_s2l, ky_sli, ky_s1f, ky_s2f, ky_s1d, ky_s2d, ky_sr, ky_sai, ky_sasi, ky_sasl, ky_sasr, ky_svr, ky_sv, ky_sv2, ky_s1, ky_cs, ky_pop, ky_nth, ky_snt, ky_obj, ky_ari, ky_arl, ky_arr, ky_arn, ky_fv, ky_rcv, List.map_cons, List.map_nil, List.drop_succ_cons, List.drop_zero, Value.category, Nat.reduceAdd, Nat.reduceSub, true_and, and_true, true_or, or_true, reduceCtorEq, ite_true, ite_false, eq_self, Nat.reduceEqDiff, Nat.reduceLeDiff, nI_add, nI_1, nI_leI, nI_ltI, nI_eq, nI_clamp, kz_m1, kz_mn, kz_mn2, kz_n0, kz_0n, kz_0, kz_le0, kz_0lt, false_implies, true_implies, not_false_eq_true, not_true_eq_false, Nat.zero_le, kb_0, kz_10, kz_of, ky_sw, kz_mx, kz_mi, kh0, kh1, kh2, kh23, kh30, kh40, kh42, kh37, kh44, kh46, kh47, kh48, kh12, kh53]) | (refine ⟨vp_in_nI (by omega) (by omega), ?_⟩) | (refine ⟨fun zc => ?_, fun zc => ?_⟩ <;> try (exfalso; omega)) | fail)
      intro f' b' m' T' v7' g1 g2 g3 g4 g5 g6 g7
      rw [kCgo, g1] at hq
      repeat' (first | (refine ih (t + 1) f' b' m' T' _ _ (by omega) g2 g3 g4 g5 g6 fun f2 k1 k2 => hq f2 k1 (kCFt g7 k2)) | (refine ky_ok_stp rfl ?_; simp (disch := first | omega | assumption) only [ky_stp, ky_inv, ky_ldi, ky_ldl, ky_ldd, ky_lda, ky_cl2, ky_st1, ky_st2, ky_s1i, ky_s2i, ky_s1l, ky_s2l, ky_sli, ky_s1f, ky_s2f, ky_s1d, ky_s2d, ky_sr, ky_sai, ky_sasi, ky_sasl, ky_sasr, ky_svr, ky_sv, ky_sv2, ky_s1, ky_cs, ky_pop, ky_nth, ky_snt, ky_obj, ky_ari, ky_arl, ky_arr, ky_arn, ky_fv, ky_rcv, List.map_cons, List.map_nil, List.drop_succ_cons, List.drop_zero, Value.category, Nat.reduceAdd, Nat.reduceSub, true_and, and_true, true_or, or_true, reduceCtorEq, ite_true, ite_false, eq_self, Nat.reduceEqDiff, Nat.reduceLeDiff, nI_add, nI_1, nI_leI, nI_ltI, nI_eq, nI_clamp, kz_m1, kz_mn, kz_mn2, kz_n0, kz_0n, kz_0, kz_le0, kz_0lt, false_implies, true_implies, not_false_eq_true, not_true_eq_false, Nat.zero_le, kb_0, kz_10, kz_of, ky_sw, kz_mx, kz_mi]) | (refine ⟨vp_in_nI (by omega) (by omega), ?_⟩) | (refine ⟨fun zc => ?_, fun zc => ?_⟩ <;> try (exfalso; omega)) | fail)
  have reset : ∀ m2 i f T v4 v5 v6 v7, i + m2 = 61 → kK a f s → kNu a 23 f s.o.n (kKD s.o) (kCO s.o) (kPF s.o) → f (a 56) = some (.inl (3, 61, .inl T)) → (∀ k, k < i → T k = 0) →
      (∀ f', kK a f' s → kfr a f f' kCF → Q (.inl (some (.int (nI (kCgo s.o p l s.o.n 0 (0, 61)).1 - 1)))) f') →
      ky_ok adK 109 22 [some (.ref (a 0)), some (.int (nI p)), some (.int (nI l)), some (.int (nI i)), v4, v5, v6, v7] [] f 2 12 Q := by
    intro m2
    induction m2 with
    | zero =>
      intro i f T v4 v5 v6 v7 hi h hN hT hT0 hq
      obtain ⟨kh0, kh1, kh2, kh23, kh30, kh40, kh42, ⟨_, kh37⟩, ⟨_, kh44⟩, ⟨_, kh46⟩, kh47, ⟨_, kh48⟩, ⟨_, kh12⟩, kh53⟩ := kK_hd h
      obtain rfl : i = 61 := by omega
      repeat' (first | (exact (by have := outer s.o.n 0 f 0 61 T v6 v7 (Nat.zero_add _) h hN hT ⟨Nat.le_refl _, fun k hk z => absurd (hT0 k hk) z⟩ (by decide) hq; rw [kz_z] at this; exact this)) | (refine ky_ok_stp rfl ?_; simp (disch := first | omega | assumption) only [ky_stp, ky_inv, ky_ldi, ky_ldl, ky_ldd, ky_lda, ky_cl2, ky_st1, ky_st2, ky_s1i, ky_s2i, ky_s1l, ky_s2l, ky_sli, ky_s1f, ky_s2f, ky_s1d, ky_s2d, ky_sr, ky_sai, ky_sasi, ky_sasl, ky_sasr, ky_svr, ky_sv, ky_sv2, ky_s1, ky_cs, ky_pop, ky_nth, ky_snt, ky_obj, ky_ari, ky_arl, ky_arr, ky_arn, ky_fv, ky_rcv, List.map_cons, List.map_nil, List.drop_succ_cons, List.drop_zero, Value.category, Nat.reduceAdd, Nat.reduceSub, true_and, and_true, true_or, or_true, reduceCtorEq, ite_true, ite_false, eq_self, Nat.reduceEqDiff, Nat.reduceLeDiff, nI_add, nI_1, nI_leI, nI_ltI, nI_eq, nI_clamp, kz_m1, kz_mn, kz_mn2, kz_n0, kz_0n, kz_0, kz_le0, kz_0lt, false_implies, true_implies, not_false_eq_true, not_true_eq_false, Nat.zero_le, kb_0, kz_10, kz_of, ky_sw, kz_mx, kz_mi, kh0, kh1, kh2, kh23, kh30, kh40, kh42, kh37, kh44, kh46, kh47, kh48, kh12, kh53, hT, kz_of, e61]) | (refine ⟨vp_in_nI (by omega) (by omega), ?_⟩) | (refine ⟨fun zc => ?_, fun zc => ?_⟩ <;> try (exfalso; omega)) | fail)
    | succ m2 ih =>
      intro i f T v4 v5 v6 v7 hi h hN hT hT0 hq
      obtain ⟨kh0, kh1, kh2, kh23, kh30, kh40, kh42, ⟨_, kh37⟩, ⟨_, kh44⟩, ⟨_, kh46⟩, kh47, ⟨_, kh48⟩, ⟨_, kh12⟩, kh53⟩ := kK_hd h
      have nb0 : ky_nb 3 0 = 0 := by decide
      (refine ky_ok_stp rfl ?_; simp (disch := first | omega | assumption) only [ky_stp, ky_inv, ky_ldi, ky_ldl, ky_ldd, ky_lda, ky_cl2, ky_st1, ky_st2, ky_s1i, ky_s2i, ky_s1l, ky_s2l, ky_sli, ky_s1f, ky_s2f, ky_s1d, ky_s2d, ky_sr, ky_sai, ky_sasi, ky_sasl, ky_sasr, ky_svr, ky_sv, ky_sv2, ky_s1, ky_cs, ky_pop, ky_nth, ky_snt, ky_obj, ky_ari, ky_arl, ky_arr, ky_arn, ky_fv, ky_rcv, List.map_cons, List.map_nil, List.drop_succ_cons, List.drop_zero, Value.category, Nat.reduceAdd, Nat.reduceSub, true_and, and_true, true_or, or_true, reduceCtorEq, ite_true, ite_false, eq_self, Nat.reduceEqDiff, Nat.reduceLeDiff, nI_add, nI_1, nI_leI, nI_ltI, nI_eq, nI_clamp, kz_m1, kz_mn, kz_mn2, kz_n0, kz_0n, kz_0, kz_le0, kz_0lt, false_implies, true_implies, not_false_eq_true, not_true_eq_false, Nat.zero_le, kb_0, kz_10, kz_of, ky_sw, kz_mx, kz_mi])
      repeat' (first | (refine ih (i + 1) _ (upd T i 0) v4 v5 v6 v7 (by omega) (kK_tr h) (kNu_fr hN fun j z1 z2 => kz_ne fun z => absurd (ha _ _ z) (by omega)) kz_same ?_ ?_) | (refine ky_ok_stp rfl ?_; simp (disch := first | omega | assumption) only [ky_stp, ky_inv, ky_ldi, ky_ldl, ky_ldd, ky_lda, ky_cl2, ky_st1, ky_st2, ky_s1i, ky_s2i, ky_s1l, ky_s2l, ky_sli, ky_s1f, ky_s2f, ky_s1d, ky_s2d, ky_sr, ky_sai, ky_sasi, ky_sasl, ky_sasr, ky_svr, ky_sv, ky_sv2, ky_s1, ky_cs, ky_pop, ky_nth, ky_snt, ky_obj, ky_ari, ky_arl, ky_arr, ky_arn, ky_fv, ky_rcv, List.map_cons, List.map_nil, List.drop_succ_cons, List.drop_zero, Value.category, Nat.reduceAdd, Nat.reduceSub, true_and, and_true, true_or, or_true, reduceCtorEq, ite_true, ite_false, eq_self, Nat.reduceEqDiff, Nat.reduceLeDiff, nI_add, nI_1, nI_leI, nI_ltI, nI_eq, nI_clamp, kz_m1, kz_mn, kz_mn2, kz_n0, kz_0n, kz_0, kz_le0, kz_0lt, false_implies, true_implies, not_false_eq_true, not_true_eq_false, Nat.zero_le, kb_0, kz_10, kz_of, ky_sw, kz_mx, kz_mi, kh0, kh1, kh2, kh23, kh30, kh40, kh42, kh37, kh44, kh46, kh47, kh48, kh12, kh53, hT, kz_of, nb0]) | (refine ⟨vp_in_nI (by omega) (by omega), ?_⟩) | (refine ⟨fun zc => ?_, fun zc => ?_⟩ <;> try (exfalso; omega)) | fail)
      · intro k hk
        by_cases e : k = i
        · subst e; exact pk_us
        · rw [pk_un e]; exact hT0 k (by omega)
      · intro f' g1 g2
        exact hq f' g1 (kCFt (kfr_up ha kfr_rf (Or.inr rfl)) g2)
  repeat' (first | ((refine kx128 h (fun _ => ?_) (fun z => absurd hx z); simp only [ky_aft, ky_vl, Nat.reduceAdd])) | ((refine kx130 (fun _ => ?_) (fun z => absurd hyy z); simp only [ky_aft, ky_vl, Nat.reduceAdd])) | (refine kx10k h ?_) | (refine ky_ok_stp rfl ?_; simp (disch := first | omega | assumption) only [ky_stp, ky_inv, ky_ldi, ky_ldl, ky_ldd, ky_lda, ky_cl2, ky_st1, ky_st2, ky_s1i, ky_s2i, ky_s1l, ky_s2l, ky_sli, ky_s1f, ky_s2f, ky_s1d, ky_s2d, ky_sr, ky_sai, ky_sasi, ky_sasl, ky_sasr, ky_svr, ky_sv, ky_sv2, ky_s1, ky_cs, ky_pop, ky_nth, ky_snt, ky_obj, ky_ari, ky_arl, ky_arr, ky_arn, ky_fv, ky_rcv, List.map_cons, List.map_nil, List.drop_succ_cons, List.drop_zero, Value.category, Nat.reduceAdd, Nat.reduceSub, true_and, and_true, true_or, or_true, reduceCtorEq, ite_true, ite_false, eq_self, Nat.reduceEqDiff, Nat.reduceLeDiff, nI_add, nI_1, nI_leI, nI_ltI, nI_eq, nI_clamp, kz_m1, kz_mn, kz_mn2, kz_n0, kz_0n, kz_0, kz_le0, kz_0lt, false_implies, true_implies, not_false_eq_true, not_true_eq_false, Nat.zero_le, kb_0, kz_10, kz_of, ky_sw, kz_mx, kz_mi, kh0, kh1, kh2, kh23, kh30, kh40, kh42, kh37, kh44, kh46, kh47, kh48, kh12, kh53]) | (refine ⟨vp_in_nI (by omega) (by omega), ?_⟩) | (rw [if_neg (by decide)]; refine ⟨by decide, by decide, ?_⟩) | (refine ⟨by decide, by decide, ?_⟩) | (refine ⟨fun zc => ?_, fun zc => ?_⟩ <;> try (exfalso; omega)) | fail)
  intro f1 h1 hN1 hF1
  simp only [ky_aft, ky_vl, Nat.reduceAdd]
  obtain ⟨kh0, kh1, kh2, kh23, kh30, kh40, kh42, ⟨_, kh37⟩, ⟨_, kh44⟩, ⟨_, kh46⟩, kh47, ⟨_, kh48⟩, ⟨_, kh12⟩, kh53⟩ := kK_hd h1
  obtain ⟨T0, hT0⟩ := h1.2.2.1.tr
  repeat' (first | (refine reset 61 0 f1 T0 none none none none rfl h1 hN1 hT0 (fun k hk => absurd hk (Nat.not_lt_zero k)) fun f' g1 g2 => hy p l f' hp l1 l6 rfl rfl g1 (kfr_tr hF1 g2 fun j hj => ⟨by unfold kNF; unfold kL7 at hj; omega, by unfold kCF kDF; unfold kL7 at hj; omega⟩)) | (refine ky_ok_stp rfl ?_; simp (disch := first | omega | assumption) only [ky_stp, ky_inv, ky_ldi, ky_ldl, ky_ldd, ky_lda, ky_cl2, ky_st1, ky_st2, ky_s1i, ky_s2i, ky_s1l, ky_s2l, ky_sli, ky_s1f, ky_s2f, ky_s1d, ky_s2d, ky_sr, ky_sai, ky_sasi, ky_sasl, ky_sasr, ky_svr, ky_sv, ky_sv2, ky_s1, ky_cs, ky_pop, ky_nth, ky_snt, ky_obj, ky_ari, ky_arl, ky_arr, ky_arn, ky_fv, ky_rcv, List.map_cons, List.map_nil, List.drop_succ_cons, List.drop_zero, Value.category, Nat.reduceAdd, Nat.reduceSub, true_and, and_true, true_or, or_true, reduceCtorEq, ite_true, ite_false, eq_self, Nat.reduceEqDiff, Nat.reduceLeDiff, nI_add, nI_1, nI_leI, nI_ltI, nI_eq, nI_clamp, kz_m1, kz_mn, kz_mn2, kz_n0, kz_0n, kz_0, kz_le0, kz_0lt, false_implies, true_implies, not_false_eq_true, not_true_eq_false, Nat.zero_le, kb_0, kz_10, kz_of, ky_sw, kz_mx, kz_mi]) | (refine ⟨vp_in_nI (by omega) (by omega), ?_⟩) | (refine ⟨fun zc => ?_, fun zc => ?_⟩ <;> try (exfalso; omega)) | fail)
end KXP
