/-! ## what is asked of the keeper: lists, ancestors, numbers of things -/
theorem kz_p1le {u l : Nat} (hu : u < 100000) (hl : l < 100000) : (nI u - 1 ≤ nI l - 1) = (u ≤ l) := by
  have h0 : ∀ t, t < 100000 → ¬ nI t ≤ -1 := fun t ht z => nI_pos (n := t) (by omega) (Int32.lt_of_le_of_lt z (by decide))
  have h1 : ∀ t, t < 100000 → (-1 : Int32) ≤ nI t := fun t ht => Int32.le_of_lt (Int32.lt_of_lt_of_le (by decide) (nI_pos' (n := t) (by omega)))
  cases u with
  | zero =>
    rw [kz_z]
    cases l with
    | zero => rw [kz_z]; exact propext ⟨fun _ => Nat.le_refl _, fun _ => Int32.le_refl _⟩
    | succ l => rw [nI_pred]; exact propext ⟨fun _ => Nat.zero_le _, fun _ => h1 l (by omega)⟩
  | succ u =>
    rw [nI_pred]
    cases l with
    | zero => rw [kz_z]; exact propext ⟨fun z => absurd z (h0 u (by omega)), fun z => by omega⟩
    | succ l => rw [nI_pred]; refine propext ?_; rw [nI_leI (by omega) (by omega)]; omega
theorem kz_p1eq {u l : Nat} (hu : u < 100000) (hl : l < 100000) : (nI u - 1 = nI l - 1) = (u = l) := by
  refine propext ⟨fun z => ?_, fun z => by rw [z]⟩
  have e1 := kz_p1le hu hl
  have e2 := kz_p1le hl hu
  rw [z] at e1 e2
  have := e1 ▸ Int32.le_refl (nI l - 1)
  have := e2 ▸ Int32.le_refl (nI l - 1)
  omega
/-- the children of a place (plus 1) -/
def kCl (z : kZ) (j : Nat) : List Nat := kCh (kL z.R) (kLv (kL z.R) j + 1) j (kE (kL z.R) (kLv (kL z.R) j) j (z.n - j) - j) []
theorem kCh_lt (L : Nat → Int32) (lv : Int32) {n : Nat} : ∀ m i l, i + m ≤ n → (∀ x ∈ l, x < n) → ∀ x ∈ kCh L lv i m l, x < n
  | 0, i, l, _, h => h
  | m + 1, i, l, hi, h => by
    rw [kCh]
    refine kCh_lt L lv m (i + 1) _ (by omega) ?_
    split
    · intro x hx
      rcases List.mem_append.mp hx with hx | hx
      · exact h x hx
      · rw [List.mem_singleton.mp hx]; omega
    · exact h
theorem kCl_le {z : kZ} {j : Nat} (hj : j ≤ z.n) : (kCl z j).length ≤ z.n := by
  have h1 := kE_le (kL z.R) (kLv (kL z.R) j) (z.n - j) j
  have := kCh_le (kL z.R) (kLv (kL z.R) j + 1) (kE (kL z.R) (kLv (kL z.R) j) j (z.n - j) - j) j []
  rw [List.length_nil] at this
  unfold kCl; omega
theorem kCl_lt {z : kZ} {j t : Nat} (hj : j ≤ z.n) (h : t < (kCl z j).length) : (kCl z j).getD t 0 < z.n := by
  have h1 := kE_le (kL z.R) (kLv (kL z.R) j) (z.n - j) j
  rw [List.getD_eq_getElem?_getD, List.getElem?_eq_getElem h]
  exact kCh_lt (kL z.R) _ _ j [] (by omega) (fun x hx => by cases hx) _ (List.getElem_mem h)
/-- the common heading (all by places plus 1) -/
def kCom (L : Nat → Int32) : Nat → Nat → Nat → Nat
  | 0, u, _ => u
  | m + 1, u, l => if u = l then u else if u ≤ l then kCom L m u (kP L (L (l - 1)) (l - 1)) else kCom L m (kP L (L (u - 1)) (u - 1)) l
theorem kP_le (L : Nat → Int32) (v : Int32) : ∀ j, kP L v j ≤ j
  | 0 => Nat.le_refl _
  | j + 1 => by
    have := kP_le L v j
    rw [kP]; split <;> omega
def kLgs (z : kZ) : List Nat → Nat → Nat → Nat
  | [], b, _ => b
  | x :: r, b, m => if m < kEnd z x - x then kLgs z r (x + 1) (kEnd z x - x) else kLgs z r b m
section KXP
variable {adK a : Nat → Nat} {f : ky_H} {s : kSt} {Q : ky_Q} {x y v : Int32} {p t w i e l j k : Nat}
/-- children, listed in places -/
theorem kx38k (h : kK a f s) (hj : j ≤ s.o.n) (hx : x = nI j - 1) (hQ : ∀ PL f', kK a f' s → f' (a 54) = some (.inl (1, 60, .inl (kput PL (kCl s.o j)))) → kfr a f f' kL7 → Q (.inl (some (.int (nI (kCl s.o j).length)))) f') : ky_cl adK 38 [.ref (a 1), .int x, .ref (a 54)] f Q := by
  obtain ⟨PL, hP⟩ := h.2.2.1.pl
  obtain ⟨G, hW⟩ := h.2.1.z.1
  exact kx38 hW.1 h.2.2.2.o.n60 hj hx hP h.1 (by omega) (hQ PL _ (kK_p h rfl) kz_same (kL7_p h.1))
theorem kx100 (h : kK a f s) (hy : ∀ j i f', j ≤ s.o.n → x = nI j - 1 → i < (kCl s.o j).length → y = nI i → kK a f' s → kfr a f f' kL7 → Q (.inl (some (.int (nI ((kCl s.o j).getD i 0))))) f') (hz : ∀ j f', j ≤ s.o.n → x = nI j - 1 → (∀ i, i < (kCl s.o j).length → y ≠ nI i) → kK a f' s → kfr a f f' kL7 → Q (.inr 3) f') (h2 : ¬ (kHas s.o.n x ∨ x = -1) → Q (.inr 2) f) : ky_cl adK 100 [.ref (a 0), .int x, .int y] f Q := by
  obtain ⟨kh0, kh1, kh2, kh23, kh30, kh40, kh42, ⟨_, kh37⟩, ⟨_, kh44⟩, ⟨_, kh46⟩, kh47, ⟨_, kh48⟩, ⟨_, kh12⟩, kh53⟩ := kK_hd h
  have hn := h.2.2.2.o.n60
  refine ⟨Nat.le_of_ble_eq_true rfl, fun z => absurd z (by decide), ?_⟩; show ky_ok adK 100 0 [some (.ref (a 0)), some (.int x), some (.int y), none] [] f 0 0 _
  by_cases hx : kHas s.o.n x ∨ x = -1
  case neg =>
    have hq := h2 hx
    repeat' (first | ((refine kx129 h (fun z => absurd z hx) (fun _ => ?_); exact hq)) | (refine ky_ok_stp rfl ?_; simp (disch := first | omega | assumption) only [ky_stp, ky_inv, ky_ldi, ky_ldl, ky_ldd, ky_lda, ky_cl2, ky_st1, ky_st2, ky_s1i, ky_s2i, ky_s1l, ky_s2l, ky_sli, ky_s1f, ky_s2f, ky_s1d, ky_s2d, ky_sr, ky_sai, ky_sasi, ky_sasl, ky_sasr, ky_svr, ky_sv, ky_sv2, ky_s1, ky_cs, ky_pop, ky_nth, ky_snt, ky_obj, ky_ari, ky_arl, ky_arr, ky_arn, ky_fv, ky_rcv, List.map_cons, List.map_nil, List.drop_succ_cons, List.drop_zero, Value.category, Nat.reduceAdd, Nat.reduceSub, true_and, and_true, true_or, or_true, reduceCtorEq, ite_true, ite_false, eq_self, Nat.reduceEqDiff, Nat.reduceLeDiff, nI_add, nI_1, nI_leI, nI_ltI, nI_eq, nI_clamp, kz_m1, kz_mn, kz_mn2, kz_n0, kz_0n, kz_0, kz_le0, kz_0lt, false_implies, true_implies, not_false_eq_true, not_true_eq_false, Nat.zero_le, kb_0, kz_10, kz_of, ky_sw, kz_mx, kz_mi, kh0, kh1, kh2, kh23, kh30, kh40, kh42, kh37, kh44, kh46, kh47, kh48, kh12, kh53]) | (refine ⟨vp_in_nI (by omega) (by omega), ?_⟩) | (rw [if_neg (by decide)]; refine ⟨by decide, by decide, ?_⟩) | (refine ⟨by decide, by decide, ?_⟩) | (refine ⟨fun zc => ?_, fun zc => ?_⟩ <;> try (exfalso; omega)) | fail)
  have hxj : ∃ j, j ≤ s.o.n ∧ x = nI j - 1 := by
    rcases id hx with ⟨i, hi, e⟩ | e
    · exact ⟨i + 1, hi, by rw [nI_pred]; exact e⟩
    · exact ⟨0, Nat.zero_le _, by rw [kz_z]; exact e⟩
  obtain ⟨j, hj, hxe⟩ := hxj
  have hlen := kCl_le hj
  repeat' (first | ((refine kx129 h (fun _ => ?_) (fun z => absurd hx z); simp only [ky_aft, ky_vl, Nat.reduceAdd])) | (refine kx38k h hj hxe ?_) | (refine ky_ok_stp rfl ?_; simp (disch := first | omega | assumption) only [ky_stp, ky_inv, ky_ldi, ky_ldl, ky_ldd, ky_lda, ky_cl2, ky_st1, ky_st2, ky_s1i, ky_s2i, ky_s1l, ky_s2l, ky_sli, ky_s1f, ky_s2f, ky_s1d, ky_s2d, ky_sr, ky_sai, ky_sasi, ky_sasl, ky_sasr, ky_svr, ky_sv, ky_sv2, ky_s1, ky_cs, ky_pop, ky_nth, ky_snt, ky_obj, ky_ari, ky_arl, ky_arr, ky_arn, ky_fv, ky_rcv, List.map_cons, List.map_nil, List.drop_succ_cons, List.drop_zero, Value.category, Nat.reduceAdd, Nat.reduceSub, true_and, and_true, true_or, or_true, reduceCtorEq, ite_true, ite_false, eq_self, Nat.reduceEqDiff, Nat.reduceLeDiff, nI_add, nI_1, nI_leI, nI_ltI, nI_eq, nI_clamp, kz_m1, kz_mn, kz_mn2, kz_n0, kz_0n, kz_0, kz_le0, kz_0lt, false_implies, true_implies, not_false_eq_true, not_true_eq_false, Nat.zero_le, kb_0, kz_10, kz_of, ky_sw, kz_mx, kz_mi, kh0, kh1, kh2, kh23, kh30, kh40, kh42, kh37, kh44, kh46, kh47, kh48, kh12, kh53]) | (refine ⟨vp_in_nI (by omega) (by omega), ?_⟩) | (rw [if_neg (by decide)]; refine ⟨by decide, by decide, ?_⟩) | (refine ⟨by decide, by decide, ?_⟩) | (refine ⟨fun zc => ?_, fun zc => ?_⟩ <;> try (exfalso; omega)) | fail)
  intro PL f1 h1 hP hF
  simp only [ky_aft, ky_vl, Nat.reduceAdd]
  obtain ⟨kh0, kh1, kh2, kh23, kh30, kh40, kh42, ⟨_, kh37⟩, ⟨_, kh44⟩, ⟨_, kh46⟩, kh47, ⟨_, kh48⟩, ⟨_, kh12⟩, kh53⟩ := kK_hd h1
  by_cases hx0 : y < 0
  · repeat' (first | (refine ky_ok_stp rfl ?_; simp (disch := first | omega | assumption) only [ky_stp, ky_inv, ky_ldi, ky_ldl, ky_ldd, ky_lda, ky_cl2, ky_st1, ky_st2, ky_s1i, ky_s2i, ky_s1l, ky_s2l, ky_sli, ky_s1f, ky_s2f, ky_s1d, ky_s2d, ky_sr, ky_sai, ky_sasi, ky_sasl, ky_sasr, ky_svr, ky_sv, ky_sv2, ky_s1, ky_cs, ky_pop, ky_nth, ky_snt, ky_obj, ky_ari, ky_arl, ky_arr, ky_arn, ky_fv, ky_rcv, List.map_cons, List.map_nil, List.drop_succ_cons, List.drop_zero, Value.category, Nat.reduceAdd, Nat.reduceSub, true_and, and_true, true_or, or_true, reduceCtorEq, ite_true, ite_false, eq_self, Nat.reduceEqDiff, Nat.reduceLeDiff, nI_add, nI_1, nI_leI, nI_ltI, nI_eq, nI_clamp, kz_m1, kz_mn, kz_mn2, kz_n0, kz_0n, kz_0, kz_le0, kz_0lt, false_implies, true_implies, not_false_eq_true, not_true_eq_false, Nat.zero_le, kb_0, kz_10, kz_of, ky_sw, kz_mx, kz_mi, kh0, kh1, kh2, kh23, kh30, kh40, kh42, kh37, kh44, kh46, kh47, kh48, kh12, kh53, eq_true hx0]) | (refine ⟨vp_in_nI (by omega) (by omega), ?_⟩) | (rw [if_neg (by decide)]; refine ⟨by decide, by decide, ?_⟩) | (refine ⟨by decide, by decide, ?_⟩) | (refine ⟨fun zc => ?_, fun zc => ?_⟩ <;> try (exfalso; omega)) | fail)
    exact hz j f1 hj hxe (fun i hi e => by subst e; exact nI_pos (n := i) (by omega) hx0) h1 hF
  · obtain ⟨i, hi, rfl⟩ := nI_of hx0
    by_cases hjl : i < (kCl s.o j).length
    · have hpt : kput PL (kCl s.o j) i = nI ((kCl s.o j).getD i 0) := by rw [kput, if_pos hjl]
      repeat' (first | (refine ky_ok_stp rfl ?_; simp (disch := first | omega | assumption) only [ky_stp, ky_inv, ky_ldi, ky_ldl, ky_ldd, ky_lda, ky_cl2, ky_st1, ky_st2, ky_s1i, ky_s2i, ky_s1l, ky_s2l, ky_sli, ky_s1f, ky_s2f, ky_s1d, ky_s2d, ky_sr, ky_sai, ky_sasi, ky_sasl, ky_sasr, ky_svr, ky_sv, ky_sv2, ky_s1, ky_cs, ky_pop, ky_nth, ky_snt, ky_obj, ky_ari, ky_arl, ky_arr, ky_arn, ky_fv, ky_rcv, List.map_cons, List.map_nil, List.drop_succ_cons, List.drop_zero, Value.category, Nat.reduceAdd, Nat.reduceSub, true_and, and_true, true_or, or_true, reduceCtorEq, ite_true, ite_false, eq_self, Nat.reduceEqDiff, Nat.reduceLeDiff, nI_add, nI_1, nI_leI, nI_ltI, nI_eq, nI_clamp, kz_m1, kz_mn, kz_mn2, kz_n0, kz_0n, kz_0, kz_le0, kz_0lt, false_implies, true_implies, not_false_eq_true, not_true_eq_false, Nat.zero_le, kb_0, kz_10, kz_of, ky_sw, kz_mx, kz_mi, kh0, kh1, kh2, kh23, kh30, kh40, kh42, kh37, kh44, kh46, kh47, kh48, kh12, kh53, eq_false hx0, hP, hpt]) | (refine ⟨vp_in_nI (by omega) (by omega), ?_⟩) | (rw [if_neg (by decide)]; refine ⟨by decide, by decide, ?_⟩) | (refine ⟨by decide, by decide, ?_⟩) | (refine ⟨fun zc => ?_, fun zc => ?_⟩ <;> try (exfalso; omega)) | fail)
      exact hy j i f1 hj hxe hjl rfl h1 hF
    · repeat' (first | (refine ky_ok_stp rfl ?_; simp (disch := first | omega | assumption) only [ky_stp, ky_inv, ky_ldi, ky_ldl, ky_ldd, ky_lda, ky_cl2, ky_st1, ky_st2, ky_s1i, ky_s2i, ky_s1l, ky_s2l, ky_sli, ky_s1f, ky_s2f, ky_s1d, ky_s2d, ky_sr, ky_sai, ky_sasi, ky_sasl, ky_sasr, ky_svr, ky_sv, ky_sv2, ky_s1, ky_cs, ky_pop, ky_nth, ky_snt, ky_obj, ky_ari, ky_arl, ky_arr, ky_arn, ky_fv, ky_rcv, List.map_cons, List.map_nil, List.drop_succ_cons, List.drop_zero, Value.category, Nat.reduceAdd, Nat.reduceSub, true_and, and_true, true_or, or_true, reduceCtorEq, ite_true, ite_false, eq_self, Nat.reduceEqDiff, Nat.reduceLeDiff, nI_add, nI_1, nI_leI, nI_ltI, nI_eq, nI_clamp, kz_m1, kz_mn, kz_mn2, kz_n0, kz_0n, kz_0, kz_le0, kz_0lt, false_implies, true_implies, not_false_eq_true, not_true_eq_false, Nat.zero_le, kb_0, kz_10, kz_of, ky_sw, kz_mx, kz_mi, kh0, kh1, kh2, kh23, kh30, kh40, kh42, kh37, kh44, kh46, kh47, kh48, kh12, kh53, eq_false hx0, hP]) | (refine ⟨vp_in_nI (by omega) (by omega), ?_⟩) | (rw [if_neg (by decide)]; refine ⟨by decide, by decide, ?_⟩) | (refine ⟨by decide, by decide, ?_⟩) | (refine ⟨fun zc => ?_, fun zc => ?_⟩ <;> try (exfalso; omega)) | fail)
      exact hz j f1 hj hxe (fun t ht e => by rw [nI_eq hi (by omega)] at e; omega) h1 hF
theorem kx101 (h : kK a f s) (hy : ∀ p t, p < s.o.n → t < s.o.n → x = nI p → y = nI t → Q (.inl (some (.int (nI (kCom (kL s.o.R) 12 (p + 1) (t + 1)) - 1)))) f) (h2 : ¬ (kHas s.o.n x ∧ kHas s.o.n y) → Q (.inr 2) f) : ky_cl adK 101 [.ref (a 0), .int x, .int y] f Q := by
  obtain ⟨kh0, kh1, kh2, kh23, kh30, kh40, kh42, ⟨_, kh37⟩, ⟨_, kh44⟩, ⟨_, kh46⟩, kh47, ⟨_, kh48⟩, ⟨_, kh12⟩, kh53⟩ := kK_hd h
  obtain ⟨G, hW⟩ := h.2.1.z.1
  have hn := h.2.2.2.o.n60
  have e12 : (12 : Int32) = nI 12 := rfl
  refine ⟨Nat.le_of_ble_eq_true rfl, fun z => absurd z (by decide), ?_⟩; show ky_ok adK 101 0 [some (.ref (a 0)), some (.int x), some (.int y), none, none, none] [] f 0 0 _
  by_cases hx : kHas s.o.n x
  case neg =>
    have hq := h2 fun z => hx z.1
    repeat' (first | ((refine kx128 h (fun z => absurd z hx) (fun _ => ?_); exact hq)) | (refine ky_ok_stp rfl ?_; simp (disch := first | omega | assumption) only [ky_stp, ky_inv, ky_ldi, ky_ldl, ky_ldd, ky_lda, ky_cl2, ky_st1, ky_st2, ky_s1i, ky_s2i, ky_s1l, ky_s2l, ky_sli, ky_s1f, ky_s2f, ky_s1d, ky_s2d, ky_sr, ky_sai, ky_sasi, ky_sasl, ky_sasr, ky_svr, ky_sv, ky_sv2, ky_s1, ky_cs, ky_pop, ky_nth, ky_snt, ky_obj, ky_ari, ky_arl, ky_arr, ky_arn, ky_fv, ky_rcv, List.map_cons, List.map_nil, List.drop_succ_cons, List.drop_zero, Value.category, Nat.reduceAdd, Nat.reduceSub, true_and, and_true, true_or, or_true, reduceCtorEq, ite_true, ite_false, eq_self, Nat.reduceEqDiff, Nat.reduceLeDiff, nI_add, nI_1, nI_leI, nI_ltI, nI_eq, nI_clamp, kz_m1, kz_mn, kz_mn2, kz_n0, kz_0n, kz_0, kz_le0, kz_0lt, false_implies, true_implies, not_false_eq_true, not_true_eq_false, Nat.zero_le, kb_0, kz_10, kz_of, ky_sw, kz_mx, kz_mi, kh0, kh1, kh2, kh23, kh30, kh40, kh42, kh37, kh44, kh46, kh47, kh48, kh12, kh53]) | (refine ⟨vp_in_nI (by omega) (by omega), ?_⟩) | (rw [if_neg (by decide)]; refine ⟨by decide, by decide, ?_⟩) | (refine ⟨by decide, by decide, ?_⟩) | (refine ⟨fun zc => ?_, fun zc => ?_⟩ <;> try (exfalso; omega)) | fail)
  by_cases hyy : kHas s.o.n y
  case neg =>
    have hq := h2 fun z => hyy z.2
    repeat' (first | ((refine kx128 h (fun _ => ?_) (fun z => absurd hx z); simp only [ky_aft, ky_vl, Nat.reduceAdd])) | ((refine kx128 h (fun z => absurd z hyy) (fun _ => ?_); exact hq)) | (refine ky_ok_stp rfl ?_; simp (disch := first | omega | assumption) only [ky_stp, ky_inv, ky_ldi, ky_ldl, ky_ldd, ky_lda, ky_cl2, ky_st1, ky_st2, ky_s1i, ky_s2i, ky_s1l, ky_s2l, ky_sli, ky_s1f, ky_s2f, ky_s1d, ky_s2d, ky_sr, ky_sai, ky_sasi, ky_sasl, ky_sasr, ky_svr, ky_sv, ky_sv2, ky_s1, ky_cs, ky_pop, ky_nth, ky_snt, ky_obj, ky_ari, ky_arl, ky_arr, ky_arn, ky_fv, ky_rcv, List.map_cons, List.map_nil, List.drop_succ_cons, List.drop_zero, Value.category, Nat.reduceAdd, Nat.reduceSub, true_and, and_true, true_or, or_true, reduceCtorEq, ite_true, ite_false, eq_self, Nat.reduceEqDiff, Nat.reduceLeDiff, nI_add, nI_1, nI_leI, nI_ltI, nI_eq, nI_clamp, kz_m1, kz_mn, kz_mn2, kz_n0, kz_0n, kz_0, kz_le0, kz_0lt, false_implies, true_implies, not_false_eq_true, not_true_eq_false, Nat.zero_le, kb_0, kz_10, kz_of, ky_sw, kz_mx, kz_mi, kh0, kh1, kh2, kh23, kh30, kh40, kh42, kh37, kh44, kh46, kh47, kh48, kh12, kh53]) | (refine ⟨vp_in_nI (by omega) (by omega), ?_⟩) | (rw [if_neg (by decide)]; refine ⟨by decide, by decide, ?_⟩) | (refine ⟨by decide, by decide, ?_⟩) | (refine ⟨fun zc => ?_, fun zc => ?_⟩ <;> try (exfalso; omega)) | fail)
  obtain ⟨p, hp, rfl⟩ := id hx
  obtain ⟨t, ht, rfl⟩ := id hyy
  have hy := hy p t hp ht rfl rfl
  have loop : ∀ m i u l, i + m = 12 → u ≤ s.o.n → l ≤ s.o.n → Q (.inl (some (.int (nI (kCom (kL s.o.R) m u l) - 1)))) f →
      ky_ok adK 101 18 [some (.ref (a 0)), some (.int (nI p)), some (.int (nI t)), some (.int (nI u - 1)), some (.int (nI l - 1)), some (.int (nI i))] [] f 2 12 Q := by
    intro m
    induction m with
    | zero =>
      intro i u l hi hu hl hq
      repeat' (first | (refine ky_ok_stp rfl ?_; simp (disch := first | omega | assumption) only [ky_stp, ky_inv, ky_ldi, ky_ldl, ky_ldd, ky_lda, ky_cl2, ky_st1, ky_st2, ky_s1i, ky_s2i, ky_s1l, ky_s2l, ky_sli, ky_s1f, ky_s2f, ky_s1d, ky_s2d, ky_sr, ky_sai, ky_sasi, ky_sasl, ky_sasr, ky_svr, ky_sv, ky_sv2, ky_s1, ky_cs, ky_pop, ky_nth, ky_snt, ky_obj, ky_ari, ky_arl, ky_arr, ky_arn, ky_fv, ky_rcv, List.map_cons, List.map_nil, List.drop_succ_cons, List.drop_zero, Value.category, Nat.reduceAdd, Nat.reduceSub, true_and, and_true, true_or, or_true, reduceCtorEq, ite_true, ite_false, eq_self, Nat.reduceEqDiff, Nat.reduceLeDiff, nI_add, nI_1, nI_leI, nI_ltI, nI_eq, nI_clamp, kz_m1, kz_mn, kz_mn2, kz_n0, kz_0n, kz_0, kz_le0, kz_0lt, false_implies, true_implies, not_false_eq_true, not_true_eq_false, Nat.zero_le, kb_0, kz_10, kz_of, ky_sw, kz_mx, kz_mi, kh0, kh1, kh2, kh23, kh30, kh40, kh42, kh37, kh44, kh46, kh47, kh48, kh12, kh53, e12]) | (refine ⟨vp_in_nI (by omega) (by omega), ?_⟩) | (rw [if_neg (by decide)]; refine ⟨by decide, by decide, ?_⟩) | (refine ⟨by decide, by decide, ?_⟩) | (refine ⟨fun zc => ?_, fun zc => ?_⟩ <;> try (exfalso; omega)) | fail)
      exact hq
    | succ m ih =>
      intro i u l hi hu hl hq
      rw [kCom] at hq
      (refine ky_ok_stp rfl ?_; simp (disch := first | omega | assumption) only [ky_stp, ky_inv, ky_ldi, ky_ldl, ky_ldd, ky_lda, ky_cl2, ky_st1, ky_st2, ky_s1i, ky_s2i, ky_s1l, ky_s2l, ky_sli, ky_s1f, ky_s2f, ky_s1d, ky_s2d, ky_sr, ky_sai, ky_sasi, ky_sasl, ky_sasr, ky_svr, ky_sv, ky_sv2, ky_s1, ky_cs, ky_pop, ky_nth, ky_snt, ky_obj, ky_ari, ky_arl, ky_arr, ky_arn, ky_fv, ky_rcv, List.map_cons, List.map_nil, List.drop_succ_cons, List.drop_zero, Value.category, Nat.reduceAdd, Nat.reduceSub, true_and, and_true, true_or, or_true, reduceCtorEq, ite_true, ite_false, eq_self, Nat.reduceEqDiff, Nat.reduceLeDiff, nI_add, nI_1, nI_leI, nI_ltI, nI_eq, nI_clamp, kz_m1, kz_mn, kz_mn2, kz_n0, kz_0n, kz_0, kz_le0, kz_0lt, false_implies, true_implies, not_false_eq_true, not_true_eq_false, Nat.zero_le, kb_0, kz_10, kz_of, ky_sw, kz_mx, kz_mi])
      have q1 := kz_p1le (u := u) (l := l) (by omega) (by omega)
      have q2 := kz_p1eq (u := u) (l := l) (by omega) (by omega)
      by_cases e1 : u = l
      · rw [if_pos e1] at hq
        repeat' (first | (refine ky_ok_stp rfl ?_; simp (disch := first | omega | assumption) only [ky_stp, ky_inv, ky_ldi, ky_ldl, ky_ldd, ky_lda, ky_cl2, ky_st1, ky_st2, ky_s1i, ky_s2i, ky_s1l, ky_s2l, ky_sli, ky_s1f, ky_s2f, ky_s1d, ky_s2d, ky_sr, ky_sai, ky_sasi, ky_sasl, ky_sasr, ky_svr, ky_sv, ky_sv2, ky_s1, ky_cs, ky_pop, ky_nth, ky_snt, ky_obj, ky_ari, ky_arl, ky_arr, ky_arn, ky_fv, ky_rcv, List.map_cons, List.map_nil, List.drop_succ_cons, List.drop_zero, Value.category, Nat.reduceAdd, Nat.reduceSub, true_and, and_true, true_or, or_true, reduceCtorEq, ite_true, ite_false, eq_self, Nat.reduceEqDiff, Nat.reduceLeDiff, nI_add, nI_1, nI_leI, nI_ltI, nI_eq, nI_clamp, kz_m1, kz_mn, kz_mn2, kz_n0, kz_0n, kz_0, kz_le0, kz_0lt, false_implies, true_implies, not_false_eq_true, not_true_eq_false, Nat.zero_le, kb_0, kz_10, kz_of, ky_sw, kz_mx, kz_mi, kh0, kh1, kh2, kh23, kh30, kh40, kh42, kh37, kh44, kh46, kh47, kh48, kh12, kh53, e12, q2, eq_true e1]) | (refine ⟨vp_in_nI (by omega) (by omega), ?_⟩) | (rw [if_neg (by decide)]; refine ⟨by decide, by decide, ?_⟩) | (refine ⟨by decide, by decide, ?_⟩) | (refine ⟨fun zc => ?_, fun zc => ?_⟩ <;> try (exfalso; omega)) | fail)
        exact hq
      · rw [if_neg e1] at hq
        by_cases e2 : u ≤ l
        · rw [if_pos e2] at hq
          obtain ⟨k, rfl⟩ : ∃ k, l = k + 1 := ⟨l - 1, by omega⟩
          rw [Nat.add_sub_cancel] at hq
          have hle := kP_le (kL s.o.R) (kL s.o.R k) k
          have e3 : nI (k + 1) - 1 = nI k := nI_pred k
          repeat' (first | ((simp only [e3]; refine kx31 hW.1 hn (show k < s.o.n by omega) ?_; simp only [ky_aft, ky_vl, Nat.reduceAdd])) | (refine ih (i + 1) u _ (by omega) hu (by omega) hq) | (refine ky_ok_stp rfl ?_; simp (disch := first | omega | assumption) only [ky_stp, ky_inv, ky_ldi, ky_ldl, ky_ldd, ky_lda, ky_cl2, ky_st1, ky_st2, ky_s1i, ky_s2i, ky_s1l, ky_s2l, ky_sli, ky_s1f, ky_s2f, ky_s1d, ky_s2d, ky_sr, ky_sai, ky_sasi, ky_sasl, ky_sasr, ky_svr, ky_sv, ky_sv2, ky_s1, ky_cs, ky_pop, ky_nth, ky_snt, ky_obj, ky_ari, ky_arl, ky_arr, ky_arn, ky_fv, ky_rcv, List.map_cons, List.map_nil, List.drop_succ_cons, List.drop_zero, Value.category, Nat.reduceAdd, Nat.reduceSub, true_and, and_true, true_or, or_true, reduceCtorEq, ite_true, ite_false, eq_self, Nat.reduceEqDiff, Nat.reduceLeDiff, nI_add, nI_1, nI_leI, nI_ltI, nI_eq, nI_clamp, kz_m1, kz_mn, kz_mn2, kz_n0, kz_0n, kz_0, kz_le0, kz_0lt, false_implies, true_implies, not_false_eq_true, not_true_eq_false, Nat.zero_le, kb_0, kz_10, kz_of, ky_sw, kz_mx, kz_mi, kh0, kh1, kh2, kh23, kh30, kh40, kh42, kh37, kh44, kh46, kh47, kh48, kh12, kh53, e12, q1, q2, eq_false e1, eq_true e2]) | (refine ⟨vp_in_nI (by omega) (by omega), ?_⟩) | (rw [if_neg (by decide)]; refine ⟨by decide, by decide, ?_⟩) | (refine ⟨by decide, by decide, ?_⟩) | (refine ⟨fun zc => ?_, fun zc => ?_⟩ <;> try (exfalso; omega)) | fail)
        · rw [if_neg e2] at hq
          obtain ⟨k, rfl⟩ : ∃ k, u = k + 1 := ⟨u - 1, by omega⟩
          rw [Nat.add_sub_cancel] at hq
          have hle := kP_le (kL s.o.R) (kL s.o.R k) k
          have e3 : nI (k + 1) - 1 = nI k := nI_pred k
          repeat' (first | ((simp only [e3]; refine kx31 hW.1 hn (show k < s.o.n by omega) ?_; simp only [ky_aft, ky_vl, Nat.reduceAdd])) | (refine ih (i + 1) _ l (by omega) (by omega) hl hq) | (refine ky_ok_stp rfl ?_; simp (disch := first | omega | assumption) only [ky_stp, ky_inv, ky_ldi, ky_ldl, ky_ldd, ky_lda, ky_cl2, ky_st1, ky_st2, ky_s1i, ky_s2i, ky_s1l, ky_s2l, ky_sli, ky_s1f, ky_s2f, ky_s1d, ky_s2d, ky_sr, ky_sai, ky_sasi, ky_sasl, ky_sasr, ky_svr, ky_sv, ky_sv2, ky_s1, ky_cs, ky_pop, ky_nth, ky_snt, ky_obj, ky_ari, ky_arl, ky_arr, ky_arn, ky_fv, ky_rcv, List.map_cons, List.map_nil, List.drop_succ_cons, List.drop_zero, Value.category, Nat.reduceAdd, Nat.reduceSub, true_and, and_true, true_or, or_true, reduceCtorEq, ite_true, ite_false, eq_self, Nat.reduceEqDiff, Nat.reduceLeDiff, nI_add, nI_1, nI_leI, nI_ltI, nI_eq, nI_clamp, kz_m1, kz_mn, kz_mn2, kz_n0, kz_0n, kz_0, kz_le0, kz_0lt, false_implies, true_implies, not_false_eq_true, not_true_eq_false, Nat.zero_le, kb_0, kz_10, kz_of, ky_sw, kz_mx, kz_mi, kh0, kh1, kh2, kh23, kh30, kh40, kh42, kh37, kh44, kh46, kh47, kh48, kh12, kh53, e12, q1, q2, eq_false e1, eq_false e2]) | (refine ⟨vp_in_nI (by omega) (by omega), ?_⟩) | (rw [if_neg (by decide)]; refine ⟨by decide, by decide, ?_⟩) | (refine ⟨by decide, by decide, ?_⟩) | (refine ⟨fun zc => ?_, fun zc => ?_⟩ <;> try (exfalso; omega)) | fail)
  have ep := (nI_pred p).symm
  have et := (nI_pred t).symm
  repeat' (first | ((refine kx128 h (fun _ => ?_) (fun z => absurd hx z); simp only [ky_aft, ky_vl, Nat.reduceAdd])) | ((refine kx128 h (fun _ => ?_) (fun z => absurd hyy z); simp only [ky_aft, ky_vl, Nat.reduceAdd])) | (exact (by have := loop 12 0 (p + 1) (t + 1) rfl hp ht hy; rw [nI_pred, nI_pred] at this; exact this)) | (refine ky_ok_stp rfl ?_; simp (disch := first | omega | assumption) only [ky_stp, ky_inv, ky_ldi, ky_ldl, ky_ldd, ky_lda, ky_cl2, ky_st1, ky_st2, ky_s1i, ky_s2i, ky_s1l, ky_s2l, ky_sli, ky_s1f, ky_s2f, ky_s1d, ky_s2d, ky_sr, ky_sai, ky_sasi, ky_sasl, ky_sasr, ky_svr, ky_sv, ky_sv2, ky_s1, ky_cs, ky_pop, ky_nth, ky_snt, ky_obj, ky_ari, ky_arl, ky_arr, ky_arn, ky_fv, ky_rcv, List.map_cons, List.map_nil, List.drop_succ_cons, List.drop_zero, Value.category, Nat.reduceAdd, Nat.reduceSub, true_and, and_true, true_or, or_true, reduceCtorEq, ite_true, ite_false, eq_self, Nat.reduceEqDiff, Nat.reduceLeDiff, nI_add, nI_1, nI_leI, nI_ltI, nI_eq, nI_clamp, kz_m1, kz_mn, kz_mn2, kz_n0, kz_0n, kz_0, kz_le0, kz_0lt, false_implies, true_implies, not_false_eq_true, not_true_eq_false, Nat.zero_le, kb_0, kz_10, kz_of, ky_sw, kz_mx, kz_mi, kh0, kh1, kh2, kh23, kh30, kh40, kh42, kh37, kh44, kh46, kh47, kh48, kh12, kh53]) | (refine ⟨vp_in_nI (by omega) (by omega), ?_⟩) | (rw [if_neg (by decide)]; refine ⟨by decide, by decide, ?_⟩) | (refine ⟨by decide, by decide, ?_⟩) | (refine ⟨fun zc => ?_, fun zc => ?_⟩ <;> try (exfalso; omega)) | fail)
theorem kx103 (h : kK a f s) (hQ : ∀ f', kK a f' s → kfr a f f' kL7 → Q (.inl (some (.int (nI (kLgs s.o (kCl s.o 0) 0 0) - 1)))) f') : ky_cl adK 103 [.ref (a 0)] f Q := by
  obtain ⟨kh0, kh1, kh2, kh23, kh30, kh40, kh42, ⟨_, kh37⟩, ⟨_, kh44⟩, ⟨_, kh46⟩, kh47, ⟨_, kh48⟩, ⟨_, kh12⟩, kh53⟩ := kK_hd h
  have hn := h.2.2.2.o.n60
  have hlen := kCl_le (z := s.o) (j := 0) (Nat.zero_le _)
  have loop : ∀ m i b mo f PL w5, i + m = (kCl s.o 0).length → b ≤ s.o.n → mo < 100 → kK a f s → f (a 54) = some (.inl (1, 60, .inl (kput PL (kCl s.o 0)))) → Q (.inl (some (.int (nI (kLgs s.o ((kCl s.o 0).drop i) b mo) - 1)))) f →
      ky_ok adK 103 20 [some (.ref (a 0)), some (.int (nI (kCl s.o 0).length)), some (.int (nI b - 1)), some (.int (nI mo)), some (.int (nI i)), w5] [] f 0 0 Q := by
    intro m
    induction m with
    | zero =>
      intro i b mo f PL w5 hi hb hmo h hP hq
      obtain ⟨kh0, kh1, kh2, kh23, kh30, kh40, kh42, ⟨_, kh37⟩, ⟨_, kh44⟩, ⟨_, kh46⟩, kh47, ⟨_, kh48⟩, ⟨_, kh12⟩, kh53⟩ := kK_hd h
      rw [List.drop_of_length_le (by omega)] at hq
      repeat' (first | (refine ky_ok_stp rfl ?_; simp (disch := first | omega | assumption) only [ky_stp, ky_inv, ky_ldi, ky_ldl, ky_ldd, ky_lda, ky_cl2, ky_st1, ky_st2, ky_s1i, ky_s2i, ky_s1l, ky_s2l, ky_sli, ky_s1f, ky_s2f, ky_s1d, ky_s2d, ky_sr, ky_sai, ky_sasi, ky_sasl, ky_sasr, ky_svr, ky_sv, ky_sv2, ky_s1, ky_cs, ky_pop, ky_nth, ky_snt, ky_obj, ky_ari, ky_arl, ky_arr, ky_arn, ky_fv, ky_rcv, List.map_cons, List.map_nil, List.drop_succ_cons, List.drop_zero, Value.category, Nat.reduceAdd, Nat.reduceSub, true_and, and_true, true_or, or_true, reduceCtorEq, ite_true, ite_false, eq_self, Nat.reduceEqDiff, Nat.reduceLeDiff, nI_add, nI_1, nI_leI, nI_ltI, nI_eq, nI_clamp, kz_m1, kz_mn, kz_mn2, kz_n0, kz_0n, kz_0, kz_le0, kz_0lt, false_implies, true_implies, not_false_eq_true, not_true_eq_false, Nat.zero_le, kb_0, kz_10, kz_of, ky_sw, kz_mx, kz_mi, kh0, kh1, kh2, kh23, kh30, kh40, kh42, kh37, kh44, kh46, kh47, kh48, kh12, kh53]) | (refine ⟨vp_in_nI (by omega) (by omega), ?_⟩) | (refine ⟨fun zc => ?_, fun zc => ?_⟩ <;> try (exfalso; omega)) | fail)
      exact hq
    | succ m ih =>
      intro i b mo f PL w5 hi hb hmo h hP hq
      obtain ⟨kh0, kh1, kh2, kh23, kh30, kh40, kh42, ⟨_, kh37⟩, ⟨_, kh44⟩, ⟨_, kh46⟩, kh47, ⟨_, kh48⟩, ⟨_, kh12⟩, kh53⟩ := kK_hd h
      obtain ⟨G, hW⟩ := h.2.1.z.1
      have hil : i < (kCl s.o 0).length := by omega
      have eg : (kCl s.o 0).getD i 0 = (kCl s.o 0)[i] := by rw [List.getD_eq_getElem?_getD, List.getElem?_eq_getElem hil]; rfl
      have hlt := kCl_lt (z := s.o) (j := 0) (Nat.zero_le _) hil
      have hpt : kput PL (kCl s.o 0) i = nI ((kCl s.o 0).getD i 0) := by rw [kput, if_pos hil]
      rw [List.drop_eq_getElem_cons hil, ← eg, kLgs] at hq
      generalize (kCl s.o 0).getD i 0 = q at hpt hlt hq
      have hE := kEnd_le hlt
      have e4 := nI_sub (a := kEnd s.o q) (b := q) (by omega)
      have eq := (nI_pred q).symm
      (refine ky_ok_stp rfl ?_; simp (disch := first | omega | assumption) only [ky_stp, ky_inv, ky_ldi, ky_ldl, ky_ldd, ky_lda, ky_cl2, ky_st1, ky_st2, ky_s1i, ky_s2i, ky_s1l, ky_s2l, ky_sli, ky_s1f, ky_s2f, ky_s1d, ky_s2d, ky_sr, ky_sai, ky_sasi, ky_sasl, ky_sasr, ky_svr, ky_sv, ky_sv2, ky_s1, ky_cs, ky_pop, ky_nth, ky_snt, ky_obj, ky_ari, ky_arl, ky_arr, ky_arn, ky_fv, ky_rcv, List.map_cons, List.map_nil, List.drop_succ_cons, List.drop_zero, Value.category, Nat.reduceAdd, Nat.reduceSub, true_and, and_true, true_or, or_true, reduceCtorEq, ite_true, ite_false, eq_self, Nat.reduceEqDiff, Nat.reduceLeDiff, nI_add, nI_1, nI_leI, nI_ltI, nI_eq, nI_clamp, kz_m1, kz_mn, kz_mn2, kz_n0, kz_0n, kz_0, kz_le0, kz_0lt, false_implies, true_implies, not_false_eq_true, not_true_eq_false, Nat.zero_le, kb_0, kz_10, kz_of, ky_sw, kz_mx, kz_mi])
      by_cases hc : mo < kEnd s.o q - q
      · rw [if_pos hc] at hq
        repeat' (first | ((refine kx32 (j := q + 1) hW.1 hn hlt eq ?_; show ky_aft _ _ _ _ _ _ _ _ _ (.inl (some (.int (nI (kEnd s.o q))))) f; simp only [ky_aft, ky_vl, Nat.reduceAdd])) | (exact (by have := ih (i + 1) (q + 1) (kEnd s.o q - q) f PL (some (.int (nI (kEnd s.o q - q)))) (by omega) (by omega) (by omega) h hP hq; rw [nI_pred] at this; exact this)) | (refine ky_ok_stp rfl ?_; simp (disch := first | omega | assumption) only [ky_stp, ky_inv, ky_ldi, ky_ldl, ky_ldd, ky_lda, ky_cl2, ky_st1, ky_st2, ky_s1i, ky_s2i, ky_s1l, ky_s2l, ky_sli, ky_s1f, ky_s2f, ky_s1d, ky_s2d, ky_sr, ky_sai, ky_sasi, ky_sasl, ky_sasr, ky_svr, ky_sv, ky_sv2, ky_s1, ky_cs, ky_pop, ky_nth, ky_snt, ky_obj, ky_ari, ky_arl, ky_arr, ky_arn, ky_fv, ky_rcv, List.map_cons, List.map_nil, List.drop_succ_cons, List.drop_zero, Value.category, Nat.reduceAdd, Nat.reduceSub, true_and, and_true, true_or, or_true, reduceCtorEq, ite_true, ite_false, eq_self, Nat.reduceEqDiff, Nat.reduceLeDiff, nI_add, nI_1, nI_leI, nI_ltI, nI_eq, nI_clamp, kz_m1, kz_mn, kz_mn2, kz_n0, kz_0n, kz_0, kz_le0, kz_0lt, false_implies, true_implies, not_false_eq_true, not_true_eq_false, Nat.zero_le, kb_0, kz_10, kz_of, ky_sw, kz_mx, kz_mi, kh0, kh1, kh2, kh23, kh30, kh40, kh42, kh37, kh44, kh46, kh47, kh48, kh12, kh53, hP, hpt, e4]) | (refine ⟨vp_in_nI (by omega) (by omega), ?_⟩) | (refine ⟨fun zc => ?_, fun zc => ?_⟩ <;> try (exfalso; omega)) | fail)
      · rw [if_neg hc] at hq
        repeat' (first | ((refine kx32 (j := q + 1) hW.1 hn hlt eq ?_; show ky_aft _ _ _ _ _ _ _ _ _ (.inl (some (.int (nI (kEnd s.o q))))) f; simp only [ky_aft, ky_vl, Nat.reduceAdd])) | (exact ih (i + 1) b mo f PL _ (by omega) hb hmo h hP hq) | (refine ky_ok_stp rfl ?_; simp (disch := first | omega | assumption) only [ky_stp, ky_inv, ky_ldi, ky_ldl, ky_ldd, ky_lda, ky_cl2, ky_st1, ky_st2, ky_s1i, ky_s2i, ky_s1l, ky_s2l, ky_sli, ky_s1f, ky_s2f, ky_s1d, ky_s2d, ky_sr, ky_sai, ky_sasi, ky_sasl, ky_sasr, ky_svr, ky_sv, ky_sv2, ky_s1, ky_cs, ky_pop, ky_nth, ky_snt, ky_obj, ky_ari, ky_arl, ky_arr, ky_arn, ky_fv, ky_rcv, List.map_cons, List.map_nil, List.drop_succ_cons, List.drop_zero, Value.category, Nat.reduceAdd, Nat.reduceSub, true_and, and_true, true_or, or_true, reduceCtorEq, ite_true, ite_false, eq_self, Nat.reduceEqDiff, Nat.reduceLeDiff, nI_add, nI_1, nI_leI, nI_ltI, nI_eq, nI_clamp, kz_m1, kz_mn, kz_mn2, kz_n0, kz_0n, kz_0, kz_le0, kz_0lt, false_implies, true_implies, not_false_eq_true, not_true_eq_false, Nat.zero_le, kb_0, kz_10, kz_of, ky_sw, kz_mx, kz_mi, kh0, kh1, kh2, kh23, kh30, kh40, kh42, kh37, kh44, kh46, kh47, kh48, kh12, kh53, hP, hpt, e4]) | (refine ⟨vp_in_nI (by omega) (by omega), ?_⟩) | (refine ⟨fun zc => ?_, fun zc => ?_⟩ <;> try (exfalso; omega)) | fail)
  refine ⟨Nat.le_of_ble_eq_true rfl, fun z => absurd z (by decide), ?_⟩; show ky_ok adK 103 0 [some (.ref (a 0)), none, none, none, none, none] [] f 0 0 _
  repeat' (first | (refine kx38k h (Nat.zero_le _) kz_z.symm ?_) | (refine ky_ok_stp rfl ?_; simp (disch := first | omega | assumption) only [ky_stp, ky_inv, ky_ldi, ky_ldl, ky_ldd, ky_lda, ky_cl2, ky_st1, ky_st2, ky_s1i, ky_s2i, ky_s1l, ky_s2l, ky_sli, ky_s1f, ky_s2f, ky_s1d, ky_s2d, ky_sr, ky_sai, ky_sasi, ky_sasl, ky_sasr, ky_svr, ky_sv, ky_sv2, ky_s1, ky_cs, ky_pop, ky_nth, ky_snt, ky_obj, ky_ari, ky_arl, ky_arr, ky_arn, ky_fv, ky_rcv, List.map_cons, List.map_nil, List.drop_succ_cons, List.drop_zero, Value.category, Nat.reduceAdd, Nat.reduceSub, true_and, and_true, true_or, or_true, reduceCtorEq, ite_true, ite_false, eq_self, Nat.reduceEqDiff, Nat.reduceLeDiff, nI_add, nI_1, nI_leI, nI_ltI, nI_eq, nI_clamp, kz_m1, kz_mn, kz_mn2, kz_n0, kz_0n, kz_0, kz_le0, kz_0lt, false_implies, true_implies, not_false_eq_true, not_true_eq_false, Nat.zero_le, kb_0, kz_10, kz_of, ky_sw, kz_mx, kz_mi, kh0, kh1, kh2, kh23, kh30, kh40, kh42, kh37, kh44, kh46, kh47, kh48, kh12, kh53]) | (refine ⟨vp_in_nI (by omega) (by omega), ?_⟩) | (refine ⟨fun zc => ?_, fun zc => ?_⟩ <;> try (exfalso; omega)) | fail)
  intro PL f1 h1 hP hF
  simp only [ky_aft, ky_vl, Nat.reduceAdd]
  repeat' (first | (exact (by have := loop (kCl s.o 0).length 0 0 0 f1 PL none (by omega) (Nat.zero_le _) (by decide) h1 hP (hQ f1 h1 hF); rw [kz_z] at this; exact this)) | (refine ky_ok_stp rfl ?_; simp (disch := first | omega | assumption) only [ky_stp, ky_inv, ky_ldi, ky_ldl, ky_ldd, ky_lda, ky_cl2, ky_st1, ky_st2, ky_s1i, ky_s2i, ky_s1l, ky_s2l, ky_sli, ky_s1f, ky_s2f, ky_s1d, ky_s2d, ky_sr, ky_sai, ky_sasi, ky_sasl, ky_sasr, ky_svr, ky_sv, ky_sv2, ky_s1, ky_cs, ky_pop, ky_nth, ky_snt, ky_obj, ky_ari, ky_arl, ky_arr, ky_arn, ky_fv, ky_rcv, List.map_cons, List.map_nil, List.drop_succ_cons, List.drop_zero, Value.category, Nat.reduceAdd, Nat.reduceSub, true_and, and_true, true_or, or_true, reduceCtorEq, ite_true, ite_false, eq_self, Nat.reduceEqDiff, Nat.reduceLeDiff, nI_add, nI_1, nI_leI, nI_ltI, nI_eq, nI_clamp, kz_m1, kz_mn, kz_mn2, kz_n0, kz_0n, kz_0, kz_le0, kz_0lt, false_implies, true_implies, not_false_eq_true, not_true_eq_false, Nat.zero_le, kb_0, kz_10, kz_of, ky_sw, kz_mx, kz_mi]) | (refine ⟨vp_in_nI (by omega) (by omega), ?_⟩) | (refine ⟨fun zc => ?_, fun zc => ?_⟩ <;> try (exfalso; omega)) | fail)
theorem kx155 (h : kK a f s) (h1 : 1 ≤ k) (h7 : k ≤ 7) (hQ : ∀ f', kK a f' (s.setA (upd s.ac k (s.ac k + 1))) → kfr a f f' (fun j => j = 53) → Q (.inl (some (.int (-(nI k))))) f') : ky_cl adK 155 [.ref (a 0), .int (nI k)] f Q := by
  obtain ⟨kh0, kh1, kh2, kh23, kh30, kh40, kh42, ⟨_, kh37⟩, ⟨_, kh44⟩, ⟨_, kh46⟩, kh47, ⟨_, kh48⟩, ⟨_, kh12⟩, kh53⟩ := kK_hd h
  refine ⟨Nat.le_of_ble_eq_true rfl, fun z => absurd z (by decide), ?_⟩; show ky_ok adK 155 0 [some (.ref (a 0)), some (.int (nI k))] [] f 0 0 _
  repeat' (first | (refine ky_ok_stp rfl ?_; simp (disch := first | omega | assumption) only [ky_stp, ky_inv, ky_ldi, ky_ldl, ky_ldd, ky_lda, ky_cl2, ky_st1, ky_st2, ky_s1i, ky_s2i, ky_s1l, ky_s2l, ky_sli, ky_s1f, ky_s2f, ky_s1d, ky_s2d, ky_sr, ky_sai, ky_sasi, ky_sasl, ky_sasr, ky_svr, ky_sv, ky_sv2, ky_s1, ky_cs, ky_pop, ky_nth, ky_snt, ky_obj, ky_ari, ky_arl, ky_arr, ky_arn, ky_fv, ky_rcv, List.map_cons, List.map_nil, List.drop_succ_cons, List.drop_zero, Value.category, Nat.reduceAdd, Nat.reduceSub, true_and, and_true, true_or, or_true, reduceCtorEq, ite_true, ite_false, eq_self, Nat.reduceEqDiff, Nat.reduceLeDiff, nI_add, nI_1, nI_leI, nI_ltI, nI_eq, nI_clamp, kz_m1, kz_mn, kz_mn2, kz_n0, kz_0n, kz_0, kz_le0, kz_0lt, false_implies, true_implies, not_false_eq_true, not_true_eq_false, Nat.zero_le, kb_0, kz_10, kz_of, ky_sw, kz_mx, kz_mi, kh0, kh1, kh2, kh23, kh30, kh40, kh42, kh37, kh44, kh46, kh47, kh48, kh12, kh53, kz_of, kz_8]) | (refine ⟨vp_in_nI (by omega) (by omega), ?_⟩) | (refine ⟨fun zc => ?_, fun zc => ?_⟩ <;> try (exfalso; omega)) | fail)
  have hF : kfr a f (ky_up f (a 53) (.inl (1, 8, .inl (upd s.ac k (s.ac k + 1))))) (fun j => j = 53) := kfr_up h.1 kfr_rf rfl
  exact hQ _ (kK_a h hF kz_same) hF
end KXP
