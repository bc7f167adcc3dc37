/-! ## what is asked of the keeper -/
def kEnd (z : kZ) (p : Nat) : Nat := kE (kL z.R) (kL z.R p) (p + 1) (z.n - (p + 1))
theorem kEnd_le {z : kZ} {p : Nat} (h : p < z.n) : p + 1 ≤ kEnd z p ∧ kEnd z p ≤ z.n := by
  have := kE_le (kL z.R) (kL z.R p) (z.n - (p + 1)) (p + 1)
  unfold kEnd; omega
def kMR (z : kZ) (p t w : Nat) : Int32 := if p ≤ t ∧ t < kEnd z p then 2 else if 6 < kG (kL z.R) p (kEnd z p - p) 0 + (kLB (kL z.R) (t + 1) w - kL z.R p) then 1 else 0
def kVl (z : kZ) : List Nat := kVs (kL z.R) (kFo z.R) 6 0 z.n []
noncomputable def kShn (z : kZ) (i e : Nat) : Nat := kCt (fun t => i ≤ (kVl z).getD t 0 ∧ (kVl z).getD t 0 < e) (kVl z).length
theorem kVs_le (L F : Nat → Int32) : ∀ m g i l, (kVs L F g i m l).length ≤ l.length + m
  | 0, g, i, l => Nat.le_refl _
  | m + 1, g, i, l => by
    rw [kVs]
    split
    · have := kVs_le L F m (if F i = 0 then 6 else L i) (i + 1) (l ++ [i])
      rw [List.length_append, List.length_singleton] at this
      omega
    · have := kVs_le L F m g (i + 1) l; omega
theorem kVs_lt (L F : Nat → Int32) {n : Nat} : ∀ m g i l, i + m ≤ n → (∀ x ∈ l, x < n) → ∀ x ∈ kVs L F g i m l, x < n
  | 0, g, i, l, _, h => h
  | m + 1, g, i, l, hi, h => by
    rw [kVs]
    split
    · exact kVs_lt L F m _ (i + 1) _ (by omega) fun x hx => by
        rcases List.mem_append.mp hx with hx | hx
        · exact h x hx
        · rw [List.mem_singleton.mp hx]; omega
    · exact kVs_lt L F m g (i + 1) l (by omega) h
theorem kVl_le (z : kZ) : (kVl z).length ≤ z.n := by have := kVs_le (kL z.R) (kFo z.R) z.n 6 0 []; simpa [kVl] using this
theorem kVl_lt (z : kZ) {t : Nat} (h : t < (kVl z).length) : (kVl z).getD t 0 < z.n := by
  rw [List.getD_eq_getElem?_getD, List.getElem?_eq_getElem h]
  exact kVs_lt (kL z.R) (kFo z.R) z.n 6 0 [] (by omega) (fun x hx => by cases hx) _ (List.getElem_mem h)
section KXP
variable {adK a : Nat → Nat} {f : ky_H} {s : kSt} {Q : ky_Q} {x y v : Int32} {p t w i e l : Nat}
theorem kL7_p {P : vp_A} (ha : kI a) : kfr a f (ky_up f (a 54) (.inl (1, P))) kL7 := kfr_up ha kfr_rf (by unfold kL7; omega)
/-- what is visible, listed in places -/
theorem kx39k (h : kK a f s) (hQ : ∀ PL f', kK a f' s → f' (a 54) = some (.inl (1, 60, .inl (kput PL (kVl s.o)))) → kfr a f f' kL7 → Q (.inl (some (.int (nI (kVl s.o).length)))) f') : ky_cl adK 39 [.ref (a 1), .ref (a 54)] f Q := by
  obtain ⟨PL, hP⟩ := h.2.2.1.pl
  obtain ⟨G, hW⟩ := h.2.1.z.1
  exact kx39 hW.1 h.2.2.2.o.n60 hP h.1 (by omega) (hQ PL _ (kK_p h rfl) kz_same (kL7_p h.1))
theorem kx92 (h : kK a f s) (hQ : Q (.inl (some (.int s.er))) f) : ky_cl adK 92 [.ref (a 0)] f Q := by
  obtain ⟨kh0, kh1, kh2, kh23, kh30, kh40, kh42, ⟨_, kh37⟩, ⟨_, kh44⟩, ⟨_, kh46⟩, kh47, ⟨_, kh48⟩, ⟨_, kh12⟩, kh53⟩ := kK_hd h
  refine ⟨Nat.le_of_ble_eq_true rfl, fun z => absurd z (by decide), ?_⟩; show ky_ok adK 92 0 [some (.ref (a 0))] [] f 0 0 _
  repeat' (first | (refine ky_ok_stp rfl ?_; simp (disch := first | omega | assumption) only [ky_stp, ky_inv, ky_ldi, ky_ldl, ky_ldd, ky_lda, ky_cl2, ky_st1, ky_st2, ky_s1i, ky_s2i, ky_s1l, ky_s2l, ky_sli, ky_s1f, ky_s2f, ky_s1d, ky_s2d, ky_sr, ky_sai, ky_sasi, ky_sasl, ky_sasr, ky_svr, ky_sv, ky_sv2, ky_s1, ky_cs, ky_pop, ky_nth, ky_snt, ky_obj, ky_ari, ky_arl, ky_arr, ky_arn, ky_fv, ky_rcv, List.map_cons, List.map_nil, List.drop_succ_cons, List.drop_zero, Value.category, Nat.reduceAdd, Nat.reduceSub, true_and, and_true, true_or, or_true, reduceCtorEq, ite_true, ite_false, eq_self, Nat.reduceEqDiff, Nat.reduceLeDiff, nI_add, nI_1, nI_leI, nI_ltI, nI_eq, nI_clamp, kz_m1, kz_mn, kz_mn2, kz_n0, kz_0n, kz_0, kz_le0, kz_0lt, false_implies, true_implies, not_false_eq_true, not_true_eq_false, Nat.zero_le, kb_0, kz_10, kz_of, ky_sw, kz_mx, kz_mi, kh0, kh1, kh2, kh23, kh30, kh40, kh42, kh37, kh44, kh46, kh47, kh48, kh12, kh53]) | (refine ⟨vp_in_nI (by omega) (by omega), ?_⟩) | (refine ⟨fun zc => ?_, fun zc => ?_⟩ <;> try (exfalso; omega)) | fail)
  exact hQ
theorem kx93 (h : kK a f s) (hQ : Q (.inl (some (.int s.ep))) f) : ky_cl adK 93 [.ref (a 0)] f Q := by
  obtain ⟨kh0, kh1, kh2, kh23, kh30, kh40, kh42, ⟨_, kh37⟩, ⟨_, kh44⟩, ⟨_, kh46⟩, kh47, ⟨_, kh48⟩, ⟨_, kh12⟩, kh53⟩ := kK_hd h
  refine ⟨Nat.le_of_ble_eq_true rfl, fun z => absurd z (by decide), ?_⟩; show ky_ok adK 93 0 [some (.ref (a 0))] [] f 0 0 _
  repeat' (first | (refine ky_ok_stp rfl ?_; simp (disch := first | omega | assumption) only [ky_stp, ky_inv, ky_ldi, ky_ldl, ky_ldd, ky_lda, ky_cl2, ky_st1, ky_st2, ky_s1i, ky_s2i, ky_s1l, ky_s2l, ky_sli, ky_s1f, ky_s2f, ky_s1d, ky_s2d, ky_sr, ky_sai, ky_sasi, ky_sasl, ky_sasr, ky_svr, ky_sv, ky_sv2, ky_s1, ky_cs, ky_pop, ky_nth, ky_snt, ky_obj, ky_ari, ky_arl, ky_arr, ky_arn, ky_fv, ky_rcv, List.map_cons, List.map_nil, List.drop_succ_cons, List.drop_zero, Value.category, Nat.reduceAdd, Nat.reduceSub, true_and, and_true, true_or, or_true, reduceCtorEq, ite_true, ite_false, eq_self, Nat.reduceEqDiff, Nat.reduceLeDiff, nI_add, nI_1, nI_leI, nI_ltI, nI_eq, nI_clamp, kz_m1, kz_mn, kz_mn2, kz_n0, kz_0n, kz_0, kz_le0, kz_0lt, false_implies, true_implies, not_false_eq_true, not_true_eq_false, Nat.zero_le, kb_0, kz_10, kz_of, ky_sw, kz_mx, kz_mi, kh0, kh1, kh2, kh23, kh30, kh40, kh42, kh37, kh44, kh46, kh47, kh48, kh12, kh53]) | (refine ⟨vp_in_nI (by omega) (by omega), ?_⟩) | (refine ⟨fun zc => ?_, fun zc => ?_⟩ <;> try (exfalso; omega)) | fail)
  exact hQ
theorem kx104 (h : kK a f s) (hy : ∀ i, i < 8 → x = nI i → Q (.inl (some (.int (s.ac i)))) f) (hz : (∀ i, i < 8 → x ≠ nI i) → Q (.inr 1) f) : ky_cl adK 104 [.ref (a 0), .int x] f Q := by
  obtain ⟨kh0, kh1, kh2, kh23, kh30, kh40, kh42, ⟨_, kh37⟩, ⟨_, kh44⟩, ⟨_, kh46⟩, kh47, ⟨_, kh48⟩, ⟨_, kh12⟩, kh53⟩ := kK_hd h
  refine ⟨Nat.le_of_ble_eq_true rfl, fun z => absurd z (by decide), ?_⟩; show ky_ok adK 104 0 [some (.ref (a 0)), some (.int x)] [] f 0 0 _
  by_cases hx0 : x < 0
  · repeat' (first | (refine ky_ok_stp rfl ?_; simp (disch := first | omega | assumption) only [ky_stp, ky_inv, ky_ldi, ky_ldl, ky_ldd, ky_lda, ky_cl2, ky_st1, ky_st2, ky_s1i, ky_s2i, ky_s1l, ky_s2l, ky_sli, ky_s1f, ky_s2f, ky_s1d, ky_s2d, ky_sr, ky_sai, ky_sasi, ky_sasl, ky_sasr, ky_svr, ky_sv, ky_sv2, ky_s1, ky_cs, ky_pop, ky_nth, ky_snt, ky_obj, ky_ari, ky_arl, ky_arr, ky_arn, ky_fv, ky_rcv, List.map_cons, List.map_nil, List.drop_succ_cons, List.drop_zero, Value.category, Nat.reduceAdd, Nat.reduceSub, true_and, and_true, true_or, or_true, reduceCtorEq, ite_true, ite_false, eq_self, Nat.reduceEqDiff, Nat.reduceLeDiff, nI_add, nI_1, nI_leI, nI_ltI, nI_eq, nI_clamp, kz_m1, kz_mn, kz_mn2, kz_n0, kz_0n, kz_0, kz_le0, kz_0lt, false_implies, true_implies, not_false_eq_true, not_true_eq_false, Nat.zero_le, kb_0, kz_10, kz_of, ky_sw, kz_mx, kz_mi, kh0, kh1, kh2, kh23, kh30, kh40, kh42, kh37, kh44, kh46, kh47, kh48, kh12, kh53, eq_true hx0]) | (refine ⟨vp_in_nI (by omega) (by omega), ?_⟩) | (rw [if_neg (by decide)]; refine ⟨by decide, by decide, ?_⟩) | (refine ⟨by decide, by decide, ?_⟩) | (refine ⟨fun zc => ?_, fun zc => ?_⟩ <;> try (exfalso; omega)) | fail)
    exact hz fun i hi e => by subst e; exact nI_pos (n := i) (by omega) hx0
  · obtain ⟨j, hj, rfl⟩ := nI_of hx0
    repeat' (first | (refine ky_ok_stp rfl ?_; simp (disch := first | omega | assumption) only [ky_stp, ky_inv, ky_ldi, ky_ldl, ky_ldd, ky_lda, ky_cl2, ky_st1, ky_st2, ky_s1i, ky_s2i, ky_s1l, ky_s2l, ky_sli, ky_s1f, ky_s2f, ky_s1d, ky_s2d, ky_sr, ky_sai, ky_sasi, ky_sasl, ky_sasr, ky_svr, ky_sv, ky_sv2, ky_s1, ky_cs, ky_pop, ky_nth, ky_snt, ky_obj, ky_ari, ky_arl, ky_arr, ky_arn, ky_fv, ky_rcv, List.map_cons, List.map_nil, List.drop_succ_cons, List.drop_zero, Value.category, Nat.reduceAdd, Nat.reduceSub, true_and, and_true, true_or, or_true, reduceCtorEq, ite_true, ite_false, eq_self, Nat.reduceEqDiff, Nat.reduceLeDiff, nI_add, nI_1, nI_leI, nI_ltI, nI_eq, nI_clamp, kz_m1, kz_mn, kz_mn2, kz_n0, kz_0n, kz_0, kz_le0, kz_0lt, false_implies, true_implies, not_false_eq_true, not_true_eq_false, Nat.zero_le, kb_0, kz_10, kz_of, ky_sw, kz_mx, kz_mi, kh0, kh1, kh2, kh23, kh30, kh40, kh42, kh37, kh44, kh46, kh47, kh48, kh12, kh53, kz_of, kz_8]) | (refine ⟨vp_in_nI (by omega) (by omega), ?_⟩) | (rw [if_neg (by decide)]; refine ⟨by decide, by decide, ?_⟩) | (refine ⟨by decide, by decide, ?_⟩) | (refine ⟨fun zc => ?_, fun zc => ?_⟩ <;> try (exfalso; omega)) | fail)
    · exact hy j (by omega) rfl
    · exact hz fun i hi e => by rw [nI_eq hj (by omega)] at e; omega
theorem kx124 (h : kK a f s) (hy : ∀ i, i < s.wl → x = nI i → Q (.inl (some (.int (nI (s.wc i))))) f) (hz : (∀ i, i < s.wl → x ≠ nI i) → Q (.inr 2) f) : ky_cl adK 124 [.ref (a 0), .int x] f Q := by
  obtain ⟨kh0, kh1, kh2, kh23, kh30, kh40, kh42, ⟨_, kh37⟩, ⟨_, kh44⟩, ⟨_, kh46⟩, kh47, ⟨_, kh48⟩, ⟨_, kh12⟩, kh53⟩ := kK_hd h
  have hB := h.2.1.wr
  obtain ⟨B, g0, g1, g2, -⟩ := id hB
  refine ⟨Nat.le_of_ble_eq_true rfl, fun z => absurd z (by decide), ?_⟩; show ky_ok adK 124 0 [some (.ref (a 0)), some (.int x)] [] f 0 0 _
  by_cases hx0 : x < 0
  · repeat' (first | (refine ky_ok_stp rfl ?_; simp (disch := first | omega | assumption) only [ky_stp, ky_inv, ky_ldi, ky_ldl, ky_ldd, ky_lda, ky_cl2, ky_st1, ky_st2, ky_s1i, ky_s2i, ky_s1l, ky_s2l, ky_sli, ky_s1f, ky_s2f, ky_s1d, ky_s2d, ky_sr, ky_sai, ky_sasi, ky_sasl, ky_sasr, ky_svr, ky_sv, ky_sv2, ky_s1, ky_cs, ky_pop, ky_nth, ky_snt, ky_obj, ky_ari, ky_arl, ky_arr, ky_arn, ky_fv, ky_rcv, List.map_cons, List.map_nil, List.drop_succ_cons, List.drop_zero, Value.category, Nat.reduceAdd, Nat.reduceSub, true_and, and_true, true_or, or_true, reduceCtorEq, ite_true, ite_false, eq_self, Nat.reduceEqDiff, Nat.reduceLeDiff, nI_add, nI_1, nI_leI, nI_ltI, nI_eq, nI_clamp, kz_m1, kz_mn, kz_mn2, kz_n0, kz_0n, kz_0, kz_le0, kz_0lt, false_implies, true_implies, not_false_eq_true, not_true_eq_false, Nat.zero_le, kb_0, kz_10, kz_of, ky_sw, kz_mx, kz_mi, kh0, kh1, kh2, kh23, kh30, kh40, kh42, kh37, kh44, kh46, kh47, kh48, kh12, kh53, eq_true hx0]) | (refine ⟨vp_in_nI (by omega) (by omega), ?_⟩) | (rw [if_neg (by decide)]; refine ⟨by decide, by decide, ?_⟩) | (refine ⟨by decide, by decide, ?_⟩) | (refine ⟨fun zc => ?_, fun zc => ?_⟩ <;> try (exfalso; omega)) | fail)
    exact hz fun i hi e => by subst e; exact nI_pos (n := i) (by omega) hx0
  · obtain ⟨j, hj, rfl⟩ := nI_of hx0
    repeat' (first | (refine kx3 hB (by decide) (show j < s.wl by omega) ?_; simp only [ky_aft, ky_vl, Nat.reduceAdd]) | (refine ky_ok_stp rfl ?_; simp (disch := first | omega | assumption) only [ky_stp, ky_inv, ky_ldi, ky_ldl, ky_ldd, ky_lda, ky_cl2, ky_st1, ky_st2, ky_s1i, ky_s2i, ky_s1l, ky_s2l, ky_sli, ky_s1f, ky_s2f, ky_s1d, ky_s2d, ky_sr, ky_sai, ky_sasi, ky_sasl, ky_sasr, ky_svr, ky_sv, ky_sv2, ky_s1, ky_cs, ky_pop, ky_nth, ky_snt, ky_obj, ky_ari, ky_arl, ky_arr, ky_arn, ky_fv, ky_rcv, List.map_cons, List.map_nil, List.drop_succ_cons, List.drop_zero, Value.category, Nat.reduceAdd, Nat.reduceSub, true_and, and_true, true_or, or_true, reduceCtorEq, ite_true, ite_false, eq_self, Nat.reduceEqDiff, Nat.reduceLeDiff, nI_add, nI_1, nI_leI, nI_ltI, nI_eq, nI_clamp, kz_m1, kz_mn, kz_mn2, kz_n0, kz_0n, kz_0, kz_le0, kz_0lt, false_implies, true_implies, not_false_eq_true, not_true_eq_false, Nat.zero_le, kb_0, kz_10, kz_of, ky_sw, kz_mx, kz_mi, kh0, kh1, kh2, kh23, kh30, kh40, kh42, kh37, kh44, kh46, kh47, kh48, kh12, kh53, eq_false hx0]) | (refine ⟨vp_in_nI (by omega) (by omega), ?_⟩) | (rw [if_neg (by decide)]; refine ⟨by decide, by decide, ?_⟩) | (refine ⟨by decide, by decide, ?_⟩) | (refine ⟨fun zc => ?_, fun zc => ?_⟩ <;> try (exfalso; omega)) | fail)
    · exact hy j (by omega) rfl
    · exact hz fun i hi e => by rw [nI_eq hj (by omega)] at e; omega
theorem kx152 (h : kK a f s) (hp : p < s.o.n) (ht : t < s.o.n) (hw : w ≤ 3) (hQ : Q (.inl (some (.int (kMR s.o p t w)))) f) : ky_cl adK 152 [.ref (a 0), .int (nI p), .int (nI t), .int (nI w)] f Q := by
  obtain ⟨kh0, kh1, kh2, kh23, kh30, kh40, kh42, ⟨_, kh37⟩, ⟨_, kh44⟩, ⟨_, kh46⟩, kh47, ⟨_, kh48⟩, ⟨_, kh12⟩, kh53⟩ := kK_hd h
  obtain ⟨G, hW⟩ := h.2.1.z.1
  have hn := h.2.2.2.o.n60
  have hE := kEnd_le hp
  unfold kMR at hQ
  refine ⟨Nat.le_of_ble_eq_true rfl, fun z => absurd z (by decide), ?_⟩; show ky_ok adK 152 0 [some (.ref (a 0)), some (.int (nI p)), some (.int (nI t)), some (.int (nI w)), none, none] [] f 0 0 _
  repeat' (first | ((refine kx32 (j := p + 1) hW.1 hn hp (nI_pred p).symm ?_; show ky_aft _ _ _ _ _ _ _ _ _ (.inl (some (.int (nI (kEnd s.o p))))) f; simp only [ky_aft, ky_vl, Nat.reduceAdd])) | ((refine kx42 (j := t + 1) hW.1 hn ht (nI_pred t).symm hw ?_; simp only [ky_aft, ky_vl, Nat.reduceAdd])) | (refine kx27 hW.1 hn hp ?_; simp only [ky_aft, ky_vl, Nat.reduceAdd]) | ((refine kx33 hW.1 hn (show p ≤ kEnd s.o p by omega) hE.2 ?_; simp only [ky_aft, ky_vl, Nat.reduceAdd])) | (refine ky_ok_stp rfl ?_; simp (disch := first | omega | assumption) only [ky_stp, ky_inv, ky_ldi, ky_ldl, ky_ldd, ky_lda, ky_cl2, ky_st1, ky_st2, ky_s1i, ky_s2i, ky_s1l, ky_s2l, ky_sli, ky_s1f, ky_s2f, ky_s1d, ky_s2d, ky_sr, ky_sai, ky_sasi, ky_sasl, ky_sasr, ky_svr, ky_sv, ky_sv2, ky_s1, ky_cs, ky_pop, ky_nth, ky_snt, ky_obj, ky_ari, ky_arl, ky_arr, ky_arn, ky_fv, ky_rcv, List.map_cons, List.map_nil, List.drop_succ_cons, List.drop_zero, Value.category, Nat.reduceAdd, Nat.reduceSub, true_and, and_true, true_or, or_true, reduceCtorEq, ite_true, ite_false, eq_self, Nat.reduceEqDiff, Nat.reduceLeDiff, nI_add, nI_1, nI_leI, nI_ltI, nI_eq, nI_clamp, kz_m1, kz_mn, kz_mn2, kz_n0, kz_0n, kz_0, kz_le0, kz_0lt, false_implies, true_implies, not_false_eq_true, not_true_eq_false, Nat.zero_le, kb_0, kz_10, kz_of, ky_sw, kz_mx, kz_mi, kh0, kh1, kh2, kh23, kh30, kh40, kh42, kh37, kh44, kh46, kh47, kh48, kh12, kh53]) | (refine ⟨vp_in_nI (by omega) (by omega), ?_⟩) | (refine ⟨fun zc => ?_, fun zc => ?_⟩ <;> try (exfalso; omega)) | fail)
  · rw [if_neg (by omega), if_neg (Int32.not_lt.mpr zc)] at hQ; exact hQ
  · rw [if_neg (by omega), if_pos (Int32.not_le.mp zc)] at hQ; exact hQ
  · rw [if_neg (by omega), if_neg (Int32.not_lt.mpr zc)] at hQ; exact hQ
  · rw [if_neg (by omega), if_pos (Int32.not_le.mp zc)] at hQ; exact hQ
  · rw [if_pos ⟨by omega, by omega⟩] at hQ; exact hQ
theorem kx151 (h : kK a f s) (hi : i < 100) (he : e < 100) (hQ : ∀ f', kK a f' s → kfr a f f' kL7 → Q (.inl (some (.int (nI (kShn s.o i e))))) f') : ky_cl adK 151 [.ref (a 0), .int (nI i), .int (nI e)] f Q := by
  obtain ⟨kh0, kh1, kh2, kh23, kh30, kh40, kh42, ⟨_, kh37⟩, ⟨_, kh44⟩, ⟨_, kh46⟩, kh47, ⟨_, kh48⟩, ⟨_, kh12⟩, kh53⟩ := kK_hd h
  have hn := h.2.2.2.o.n60
  have hlen := kVl_le s.o
  have loop : ∀ m t f PL, t + m = (kVl s.o).length → kK a f s → f (a 54) = some (.inl (1, 60, .inl (kput PL (kVl s.o)))) → Q (.inl (some (.int (nI (kShn s.o i e))))) f →
      ky_ok adK 151 18 [some (.ref (a 0)), some (.int (nI i)), some (.int (nI e)), some (.int (nI (kVl s.o).length)), some (.int (nI (kCt (fun t => i ≤ (kVl s.o).getD t 0 ∧ (kVl s.o).getD t 0 < e) t))), some (.int (nI t))] [] f 0 0 Q := by
    intro m
    induction m with
    | zero =>
      intro t f PL ht h hP hQ
      obtain ⟨kh0, kh1, kh2, kh23, kh30, kh40, kh42, ⟨_, kh37⟩, ⟨_, kh44⟩, ⟨_, kh46⟩, kh47, ⟨_, kh48⟩, ⟨_, kh12⟩, kh53⟩ := kK_hd h
      obtain rfl : t = (kVl s.o).length := by omega
      repeat' (first | (refine ky_ok_stp rfl ?_; simp (disch := first | omega | assumption) only [ky_stp, ky_inv, ky_ldi, ky_ldl, ky_ldd, ky_lda, ky_cl2, ky_st1, ky_st2, ky_s1i, ky_s2i, ky_s1l, ky_s2l, ky_sli, ky_s1f, ky_s2f, ky_s1d, ky_s2d, ky_sr, ky_sai, ky_sasi, ky_sasl, ky_sasr, ky_svr, ky_sv, ky_sv2, ky_s1, ky_cs, ky_pop, ky_nth, ky_snt, ky_obj, ky_ari, ky_arl, ky_arr, ky_arn, ky_fv, ky_rcv, List.map_cons, List.map_nil, List.drop_succ_cons, List.drop_zero, Value.category, Nat.reduceAdd, Nat.reduceSub, true_and, and_true, true_or, or_true, reduceCtorEq, ite_true, ite_false, eq_self, Nat.reduceEqDiff, Nat.reduceLeDiff, nI_add, nI_1, nI_leI, nI_ltI, nI_eq, nI_clamp, kz_m1, kz_mn, kz_mn2, kz_n0, kz_0n, kz_0, kz_le0, kz_0lt, false_implies, true_implies, not_false_eq_true, not_true_eq_false, Nat.zero_le, kb_0, kz_10, kz_of, ky_sw, kz_mx, kz_mi, kh0, kh1, kh2, kh23, kh30, kh40, kh42, kh37, kh44, kh46, kh47, kh48, kh12, kh53]) | (refine ⟨vp_in_nI (by omega) (by omega), ?_⟩) | (refine ⟨fun zc => ?_, fun zc => ?_⟩ <;> try (exfalso; omega)) | fail)
      exact hQ
    | succ m ih =>
      intro t f PL ht h hP hQ
      obtain ⟨kh0, kh1, kh2, kh23, kh30, kh40, kh42, ⟨_, kh37⟩, ⟨_, kh44⟩, ⟨_, kh46⟩, kh47, ⟨_, kh48⟩, ⟨_, kh12⟩, kh53⟩ := kK_hd h
      have hlt := kVl_lt s.o (show t < (kVl s.o).length by omega)
      have hle := kCt_le (fun t => i ≤ (kVl s.o).getD t 0 ∧ (kVl s.o).getD t 0 < e) t
      have hpt : kput PL (kVl s.o) t = nI ((kVl s.o).getD t 0) := by rw [kput, if_pos (by omega)]
      (refine ky_ok_stp rfl ?_; simp (disch := first | omega | assumption) only [ky_stp, ky_inv, ky_ldi, ky_ldl, ky_ldd, ky_lda, ky_cl2, ky_st1, ky_st2, ky_s1i, ky_s2i, ky_s1l, ky_s2l, ky_sli, ky_s1f, ky_s2f, ky_s1d, ky_s2d, ky_sr, ky_sai, ky_sasi, ky_sasl, ky_sasr, ky_svr, ky_sv, ky_sv2, ky_s1, ky_cs, ky_pop, ky_nth, ky_snt, ky_obj, ky_ari, ky_arl, ky_arr, ky_arn, ky_fv, ky_rcv, List.map_cons, List.map_nil, List.drop_succ_cons, List.drop_zero, Value.category, Nat.reduceAdd, Nat.reduceSub, true_and, and_true, true_or, or_true, reduceCtorEq, ite_true, ite_false, eq_self, Nat.reduceEqDiff, Nat.reduceLeDiff, nI_add, nI_1, nI_leI, nI_ltI, nI_eq, nI_clamp, kz_m1, kz_mn, kz_mn2, kz_n0, kz_0n, kz_0, kz_le0, kz_0lt, false_implies, true_implies, not_false_eq_true, not_true_eq_false, Nat.zero_le, kb_0, kz_10, kz_of, ky_sw, kz_mx, kz_mi])
      by_cases hc : i ≤ (kVl s.o).getD t 0 ∧ (kVl s.o).getD t 0 < e
      · have e1 := kCt_s1 (p := fun t => i ≤ (kVl s.o).getD t 0 ∧ (kVl s.o).getD t 0 < e) hc
        obtain ⟨c1, c2⟩ := hc
        repeat' (first | (refine (by have := ih (t + 1) f PL (by omega) h hP hQ; rw [e1] at this; exact this)) | (refine ky_ok_stp rfl ?_; simp (disch := first | omega | assumption) only [ky_stp, ky_inv, ky_ldi, ky_ldl, ky_ldd, ky_lda, ky_cl2, ky_st1, ky_st2, ky_s1i, ky_s2i, ky_s1l, ky_s2l, ky_sli, ky_s1f, ky_s2f, ky_s1d, ky_s2d, ky_sr, ky_sai, ky_sasi, ky_sasl, ky_sasr, ky_svr, ky_sv, ky_sv2, ky_s1, ky_cs, ky_pop, ky_nth, ky_snt, ky_obj, ky_ari, ky_arl, ky_arr, ky_arn, ky_fv, ky_rcv, List.map_cons, List.map_nil, List.drop_succ_cons, List.drop_zero, Value.category, Nat.reduceAdd, Nat.reduceSub, true_and, and_true, true_or, or_true, reduceCtorEq, ite_true, ite_false, eq_self, Nat.reduceEqDiff, Nat.reduceLeDiff, nI_add, nI_1, nI_leI, nI_ltI, nI_eq, nI_clamp, kz_m1, kz_mn, kz_mn2, kz_n0, kz_0n, kz_0, kz_le0, kz_0lt, false_implies, true_implies, not_false_eq_true, not_true_eq_false, Nat.zero_le, kb_0, kz_10, kz_of, ky_sw, kz_mx, kz_mi, kh0, kh1, kh2, kh23, kh30, kh40, kh42, kh37, kh44, kh46, kh47, kh48, kh12, kh53, hP, hpt]) | (refine ⟨vp_in_nI (by omega) (by omega), ?_⟩) | (refine ⟨fun zc => ?_, fun zc => ?_⟩ <;> try (exfalso; omega)) | fail)
      · have e1 := kCt_s0 (p := fun t => i ≤ (kVl s.o).getD t 0 ∧ (kVl s.o).getD t 0 < e) hc
        repeat' (first | (refine (by have := ih (t + 1) f PL (by omega) h hP hQ; rw [e1] at this; exact this)) | (refine ky_ok_stp rfl ?_; simp (disch := first | omega | assumption) only [ky_stp, ky_inv, ky_ldi, ky_ldl, ky_ldd, ky_lda, ky_cl2, ky_st1, ky_st2, ky_s1i, ky_s2i, ky_s1l, ky_s2l, ky_sli, ky_s1f, ky_s2f, ky_s1d, ky_s2d, ky_sr, ky_sai, ky_sasi, ky_sasl, ky_sasr, ky_svr, ky_sv, ky_sv2, ky_s1, ky_cs, ky_pop, ky_nth, ky_snt, ky_obj, ky_ari, ky_arl, ky_arr, ky_arn, ky_fv, ky_rcv, List.map_cons, List.map_nil, List.drop_succ_cons, List.drop_zero, Value.category, Nat.reduceAdd, Nat.reduceSub, true_and, and_true, true_or, or_true, reduceCtorEq, ite_true, ite_false, eq_self, Nat.reduceEqDiff, Nat.reduceLeDiff, nI_add, nI_1, nI_leI, nI_ltI, nI_eq, nI_clamp, kz_m1, kz_mn, kz_mn2, kz_n0, kz_0n, kz_0, kz_le0, kz_0lt, false_implies, true_implies, not_false_eq_true, not_true_eq_false, Nat.zero_le, kb_0, kz_10, kz_of, ky_sw, kz_mx, kz_mi, kh0, kh1, kh2, kh23, kh30, kh40, kh42, kh37, kh44, kh46, kh47, kh48, kh12, kh53, hP, hpt]) | (refine ⟨vp_in_nI (by omega) (by omega), ?_⟩) | (refine ⟨fun zc => ?_, fun zc => ?_⟩ <;> try (exfalso; omega)) | fail)
  refine ⟨Nat.le_of_ble_eq_true rfl, fun z => absurd z (by decide), ?_⟩; show ky_ok adK 151 0 [some (.ref (a 0)), some (.int (nI i)), some (.int (nI e)), none, none, none] [] f 0 0 _
  repeat' (first | (refine kx39k h ?_) | (refine ky_ok_stp rfl ?_; simp (disch := first | omega | assumption) only [ky_stp, ky_inv, ky_ldi, ky_ldl, ky_ldd, ky_lda, ky_cl2, ky_st1, ky_st2, ky_s1i, ky_s2i, ky_s1l, ky_s2l, ky_sli, ky_s1f, ky_s2f, ky_s1d, ky_s2d, ky_sr, ky_sai, ky_sasi, ky_sasl, ky_sasr, ky_svr, ky_sv, ky_sv2, ky_s1, ky_cs, ky_pop, ky_nth, ky_snt, ky_obj, ky_ari, ky_arl, ky_arr, ky_arn, ky_fv, ky_rcv, List.map_cons, List.map_nil, List.drop_succ_cons, List.drop_zero, Value.category, Nat.reduceAdd, Nat.reduceSub, true_and, and_true, true_or, or_true, reduceCtorEq, ite_true, ite_false, eq_self, Nat.reduceEqDiff, Nat.reduceLeDiff, nI_add, nI_1, nI_leI, nI_ltI, nI_eq, nI_clamp, kz_m1, kz_mn, kz_mn2, kz_n0, kz_0n, kz_0, kz_le0, kz_0lt, false_implies, true_implies, not_false_eq_true, not_true_eq_false, Nat.zero_le, kb_0, kz_10, kz_of, ky_sw, kz_mx, kz_mi, kh0, kh1, kh2, kh23, kh30, kh40, kh42, kh37, kh44, kh46, kh47, kh48, kh12, kh53]) | (refine ⟨vp_in_nI (by omega) (by omega), ?_⟩) | (refine ⟨fun zc => ?_, fun zc => ?_⟩ <;> try (exfalso; omega)) | fail)
  intro PL f1 h1 hP hF
  simp only [ky_aft, ky_vl, Nat.reduceAdd]
  repeat' (first | (refine loop (kVl s.o).length 0 f1 PL (by omega) h1 hP (hQ f1 h1 hF)) | (refine ky_ok_stp rfl ?_; simp (disch := first | omega | assumption) only [ky_stp, ky_inv, ky_ldi, ky_ldl, ky_ldd, ky_lda, ky_cl2, ky_st1, ky_st2, ky_s1i, ky_s2i, ky_s1l, ky_s2l, ky_sli, ky_s1f, ky_s2f, ky_s1d, ky_s2d, ky_sr, ky_sai, ky_sasi, ky_sasl, ky_sasr, ky_svr, ky_sv, ky_sv2, ky_s1, ky_cs, ky_pop, ky_nth, ky_snt, ky_obj, ky_ari, ky_arl, ky_arr, ky_arn, ky_fv, ky_rcv, List.map_cons, List.map_nil, List.drop_succ_cons, List.drop_zero, Value.category, Nat.reduceAdd, Nat.reduceSub, true_and, and_true, true_or, or_true, reduceCtorEq, ite_true, ite_false, eq_self, Nat.reduceEqDiff, Nat.reduceLeDiff, nI_add, nI_1, nI_leI, nI_ltI, nI_eq, nI_clamp, kz_m1, kz_mn, kz_mn2, kz_n0, kz_0n, kz_0, kz_le0, kz_0lt, false_implies, true_implies, not_false_eq_true, not_true_eq_false, Nat.zero_le, kb_0, kz_10, kz_of, ky_sw, kz_mx, kz_mi]) | (refine ⟨vp_in_nI (by omega) (by omega), ?_⟩) | (refine ⟨fun zc => ?_, fun zc => ?_⟩ <;> try (exfalso; omega)) | fail)
end KXP
