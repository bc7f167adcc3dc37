/-! ## the reference: children laid in order -/
theorem kCh_sn (L : Nat → Int32) (v : Int32) : ∀ m i l, kCh L v i (m + 1) l = if L (i + m) = v then kCh L v i m l ++ [i + m] else kCh L v i m l
  | 0, i, l => rfl
  | m + 1, i, l => by
    rw [kCh, kCh_sn L v m (i + 1), kCh, show i + 1 + m = i + (m + 1) by omega]
theorem kCh_at (L : Nat → Int32) (v : Int32) (j : Nat) : ∀ m i, i < (kCh L v j m []).length → j ≤ (kCh L v j m []).getD i 0 ∧ (kCh L v j m []).getD i 0 < j + m ∧ L ((kCh L v j m []).getD i 0) = v ∧ (kCh L v j ((kCh L v j m []).getD i 0 - j) []).length = i
  | 0, i, h => absurd h (Nat.not_lt_zero i)
  | m + 1, i, h => by
    rw [kCh_sn] at h ⊢
    by_cases e : L (j + m) = v
    · rw [if_pos e] at h ⊢
      rw [List.length_append, List.length_singleton] at h
      by_cases e2 : i < (kCh L v j m []).length
      · obtain ⟨a1, a2, a3, a4⟩ := kCh_at L v j m i e2
        rw [kgd_l e2]
        exact ⟨a1, by omega, a3, a4⟩
      · have e3 : i = (kCh L v j m []).length := by omega
        rw [kgd_r (by omega), e3, Nat.sub_self]
        exact ⟨Nat.le_add_right _ _, by show j + m < _; omega, e, by show (kCh L v j (j + m - j) []).length = _; rw [Nat.add_sub_cancel_left]⟩
    · rw [if_neg e] at h ⊢
      obtain ⟨a1, a2, a3, a4⟩ := kCh_at L v j m i h
      exact ⟨a1, by omega, a3, a4⟩
theorem kSb_ch {L : Nat → Int32} {v : Int32} {j : Nat} (h0 : j = 0 ∨ L (j - 1) < v) : ∀ m x, (∀ t, j ≤ t → t < j + m → ¬ L t < v) → kSb L v (j + m) x = x + (kCh L v j m []).length
  | 0, x, _ => by
    rcases h0 with rfl | h0
    · rfl
    · match j, h0 with
      | 0, _ => rfl
      | j + 1, h0 =>
        have h0 : L j < v := h0
        rw [Nat.add_zero, kSb, if_pos h0]
        rfl
  | m + 1, x, h => by
    rw [show j + (m + 1) = j + m + 1 from rfl, kSb, if_neg (h (j + m) (by omega) (by omega)), kSb_ch h0 m _ fun t t1 t2 => h t t1 (by omega), kCh_sn]
    by_cases e : L (j + m) = v
    · rw [if_pos e, if_pos e, List.length_append, List.length_singleton]; omega
    · rw [if_neg e, if_neg e]
/-- a child's place among its siblings -/
theorem kSb_cl {z : kZ} (h : kZo z) {j i : Nat} (hj : j ≤ z.n) (hi : i < (kCl z j).length) : kSb (kL z.R) (kL z.R ((kCl z j).getD i 0)) ((kCl z j).getD i 0) 0 = i := by
  obtain ⟨E1, E2, E3, E4⟩ := kEj_V h hj
  have hcl : kCl z j = kCh (kL z.R) (kLv (kL z.R) j + 1) j (kEj z j - j) [] := rfl
  rw [hcl] at hi ⊢
  obtain ⟨a1, a2, a3, a4⟩ := kCh_at (kL z.R) (kLv (kL z.R) j + 1) j (kEj z j - j) i hi
  generalize (kCh (kL z.R) (kLv (kL z.R) j + 1) j (kEj z j - j) []).getD i 0 = c at a1 a2 a3 a4 ⊢
  have hlj : kLv (kL z.R) j = nI (kLj z j) := by
    unfold kLj
    match j, hj with
    | 0, _ => rfl
    | j + 1, hj => rw [if_neg (by omega)]; exact (h.lv j hj).1
  have hlj6 : kLj z j ≤ 6 := by
    unfold kLj
    split
    · omega
    · exact (h.lv (j - 1) (by omega)).2.2
  have hv : kLv (kL z.R) j + 1 = nI (kLj z j + 1) := by rw [hlj, show (1 : Int32) = nI 1 from rfl, nI_add]
  have := kSb_ch (L := kL z.R) (v := kLv (kL z.R) j + 1) (j := j) (by
    match j, hj, hv with
    | 0, _, _ => exact .inl rfl
    | j + 1, hj, hv =>
      right
      rw [hv, Nat.add_sub_cancel, (h.lv j hj).1, nI_ltI (by have := (h.lv j hj).2.2; omega) (by omega)]
      unfold kLj
      rw [if_neg (by omega), Nat.add_sub_cancel]
      omega) (c - j) 0 (fun t t1 t2 => by
    have := E1 t t1 (by omega)
    rw [hv, (h.lv t (by omega)).1, nI_ltI (by have := (h.lv t (by omega)).2.2; omega) (by omega)]
    omega)
  rw [show j + (c - j) = c by omega, Nat.zero_add, a4] at this
  rw [a3]
  exact this
section KXM
variable {adK a : Nat → Nat} {f : ky_H} {Q : ky_Q} {g r B T O : Nat → Int32} {s : kSt} {p w n l i j t e m k b y c x : Nat} {X v d : Int32} {z : kZ}
theorem kx283 (hM : kMo a f g) (hs : f (a 171) = some (.inl (1, 388, .inl r))) (ho : kZo z) (hR : kRw r z) (hy : y < z.n) (hx : x < z.n) (hyx : y < x) (hb : b ≤ 2) (h1 : kSa z b x y → Q (.inl (some (.int 1))) f) (h0 : ¬ kSa z b x y → Q (.inl (some (.int 0))) f) : ky_cl adK 283 [.ref (a 170), .int (nI y), .int (nI x), .int (nI b)] f Q := by
  have h60 := ho.n60
  have hL := kRw_l ho hR
  have mh := hM
  unfold kMo at mh
  have e2 : (2 : Int32) = nI 2 := rfl
  have hEx : kE (kL z.R) (kL z.R x) (x + 1) (z.n - (x + 1)) = kEnd z x := rfl
  have hEy : kE (kL z.R) (kL z.R y) (y + 1) (z.n - (y + 1)) = kEnd z y := rfl
  have bx := kEnd_le hx
  have bY := kEnd_le hy
  have sx : nI (kEnd z x) - nI x = nI (kEnd z x - x) := nI_sub (by omega)
  have sy : nI (kEnd z y) - nI y = nI (kEnd z y - y) := nI_sub (by omega)
  refine ⟨Nat.le_of_ble_eq_true rfl, fun z => absurd z (by decide), ?_⟩; show ky_ok adK 283 0 [some (.ref (a 170)), some (.int (nI y)), some (.int (nI x)), some (.int (nI b))] [] f 0 0 _
  unfold kSa kSA at h1 h0
  match b, hb with
  | 0, _ =>
    rw [if_pos rfl] at h1 h0
    obtain ⟨wx, x3, x4⟩ := kRw_w hR hx
    obtain ⟨wy, y3, y4⟩ := kRw_w hR hy
    have nx := (kWo_s (ho.wd x hx)).1
    have ny := (kWo_s (ho.wd y hy)).1
    have key : (kN z.R x < kN z.R y) ↔ (kHf (kWo (kN z.R x)) 0 < kHf (kWo (kN z.R y)) 0 ∨ kHf (kWo (kN z.R x)) 0 = kHf (kWo (kN z.R y)) 0 ∧ kHf (kWo (kN z.R x)) 4 < kHf (kWo (kN z.R y)) 4) := by
      have := kNm_lt wx wy
      rwa [← nx, ← ny] at this
    rw [key] at h1 h0
    generalize hA : kHf (kWo (kN z.R x)) 0 = A at x3 h1 h0
    generalize hB : kHf (kWo (kN z.R y)) 0 = C at y3 h1 h0
    generalize hA4 : kHf (kWo (kN z.R x)) 4 = A4 at x4 h1 h0
    generalize hB4 : kHf (kWo (kN z.R y)) 4 = C4 at y4 h1 h0
    by_cases c1 : A < C
    · have hq := h1 (.inl c1)
      repeat' (first | ((refine kx173 (w := 3) hM hs (show y < 60 by omega) (by decide) ?_; simp only [ky_aft, ky_vl, Nat.reduceAdd])) | ((refine kx173 (w := 3) hM hs (show x < 60 by omega) (by decide) ?_; simp only [ky_aft, ky_vl, Nat.reduceAdd])) | (refine ky_ok_stp rfl ?_; simp (disch := first | omega | assumption) only [ky_stp, ky_inv, ky_ldi, ky_ldl, ky_ldd, ky_lda, ky_cl2, ky_st1, ky_st2, ky_s1i, ky_s2i, ky_s1l, ky_s2l, ky_sli, ky_s1f, ky_s2f, ky_s1d, ky_s2d, ky_sr, ky_sai, ky_sasi, ky_sasl, ky_sasr, ky_svr, ky_sv, ky_sv2, ky_s1, ky_cs, ky_pop, ky_nth, ky_snt, ky_obj, ky_ari, ky_arl, ky_arr, ky_arn, ky_fv, ky_rcv, List.map_cons, List.map_nil, List.drop_succ_cons, List.drop_zero, Value.category, Nat.reduceAdd, Nat.reduceSub, true_and, and_true, true_or, or_true, reduceCtorEq, ite_true, ite_false, eq_self, Nat.reduceEqDiff, Nat.reduceLeDiff, nI_add, nI_1, nI_leI, nI_ltI, nI_eq, nI_clamp, kz_m1, kz_mn, kz_mn2, kz_n0, kz_0n, kz_0, kz_le0, kz_0lt, false_implies, true_implies, not_false_eq_true, not_true_eq_false, Nat.zero_le, kb_0, kz_10, kz_of, ky_sw, kz_mx, kz_mi, mh, x3, y3, x4, y4, Int32.not_le.mpr c1]) | (refine ⟨vp_in_nI (by omega) (by omega), ?_⟩) | (refine ⟨fun zc => ?_, fun zc => ?_⟩ <;> try (exfalso; omega)) | fail)
      all_goals first | exact hq | exact absurd c1 (by assumption)
    · by_cases c2 : A = C
      · by_cases c3 : A4 < C4
        · have hq := h1 (.inr ⟨c2, c3⟩)
          subst c2
          repeat' (first | ((refine kx173 (w := 3) hM hs (show y < 60 by omega) (by decide) ?_; simp only [ky_aft, ky_vl, Nat.reduceAdd])) | ((refine kx173 (w := 3) hM hs (show x < 60 by omega) (by decide) ?_; simp only [ky_aft, ky_vl, Nat.reduceAdd])) | ((refine kx173 (w := 4) hM hs (show y < 60 by omega) (by decide) ?_; simp only [ky_aft, ky_vl, Nat.reduceAdd])) | ((refine kx173 (w := 4) hM hs (show x < 60 by omega) (by decide) ?_; simp only [ky_aft, ky_vl, Nat.reduceAdd])) | (refine ky_ok_stp rfl ?_; simp (disch := first | omega | assumption) only [ky_stp, ky_inv, ky_ldi, ky_ldl, ky_ldd, ky_lda, ky_cl2, ky_st1, ky_st2, ky_s1i, ky_s2i, ky_s1l, ky_s2l, ky_sli, ky_s1f, ky_s2f, ky_s1d, ky_s2d, ky_sr, ky_sai, ky_sasi, ky_sasl, ky_sasr, ky_svr, ky_sv, ky_sv2, ky_s1, ky_cs, ky_pop, ky_nth, ky_snt, ky_obj, ky_ari, ky_arl, ky_arr, ky_arn, ky_fv, ky_rcv, List.map_cons, List.map_nil, List.drop_succ_cons, List.drop_zero, Value.category, Nat.reduceAdd, Nat.reduceSub, true_and, and_true, true_or, or_true, reduceCtorEq, ite_true, ite_false, eq_self, Nat.reduceEqDiff, Nat.reduceLeDiff, nI_add, nI_1, nI_leI, nI_ltI, nI_eq, nI_clamp, kz_m1, kz_mn, kz_mn2, kz_n0, kz_0n, kz_0, kz_le0, kz_0lt, false_implies, true_implies, not_false_eq_true, not_true_eq_false, Nat.zero_le, kb_0, kz_10, kz_of, ky_sw, kz_mx, kz_mi, mh, x3, y3, x4, y4, c1, c3, Int32.not_le.mpr c3]) | (refine ⟨vp_in_nI (by omega) (by omega), ?_⟩) | (refine ⟨fun zc => ?_, fun zc => ?_⟩ <;> try (exfalso; omega)) | fail)
          all_goals first | exact hq | (exfalso; exact absurd (by assumption) c1) | (exfalso; exact absurd c3 (by assumption))
        · have hq := h0 fun w => w.elim c1 fun w => c3 w.2
          subst c2
          repeat' (first | ((refine kx173 (w := 3) hM hs (show y < 60 by omega) (by decide) ?_; simp only [ky_aft, ky_vl, Nat.reduceAdd])) | ((refine kx173 (w := 3) hM hs (show x < 60 by omega) (by decide) ?_; simp only [ky_aft, ky_vl, Nat.reduceAdd])) | ((refine kx173 (w := 4) hM hs (show y < 60 by omega) (by decide) ?_; simp only [ky_aft, ky_vl, Nat.reduceAdd])) | ((refine kx173 (w := 4) hM hs (show x < 60 by omega) (by decide) ?_; simp only [ky_aft, ky_vl, Nat.reduceAdd])) | (refine ky_ok_stp rfl ?_; simp (disch := first | omega | assumption) only [ky_stp, ky_inv, ky_ldi, ky_ldl, ky_ldd, ky_lda, ky_cl2, ky_st1, ky_st2, ky_s1i, ky_s2i, ky_s1l, ky_s2l, ky_sli, ky_s1f, ky_s2f, ky_s1d, ky_s2d, ky_sr, ky_sai, ky_sasi, ky_sasl, ky_sasr, ky_svr, ky_sv, ky_sv2, ky_s1, ky_cs, ky_pop, ky_nth, ky_snt, ky_obj, ky_ari, ky_arl, ky_arr, ky_arn, ky_fv, ky_rcv, List.map_cons, List.map_nil, List.drop_succ_cons, List.drop_zero, Value.category, Nat.reduceAdd, Nat.reduceSub, true_and, and_true, true_or, or_true, reduceCtorEq, ite_true, ite_false, eq_self, Nat.reduceEqDiff, Nat.reduceLeDiff, nI_add, nI_1, nI_leI, nI_ltI, nI_eq, nI_clamp, kz_m1, kz_mn, kz_mn2, kz_n0, kz_0n, kz_0, kz_le0, kz_0lt, false_implies, true_implies, not_false_eq_true, not_true_eq_false, Nat.zero_le, kb_0, kz_10, kz_of, ky_sw, kz_mx, kz_mi, mh, x3, y3, x4, y4, c1, c3, Int32.not_lt.mp c3]) | (refine ⟨vp_in_nI (by omega) (by omega), ?_⟩) | (refine ⟨fun zc => ?_, fun zc => ?_⟩ <;> try (exfalso; omega)) | fail)
          all_goals first | exact hq | (exfalso; exact absurd (by assumption) c1) | (exfalso; exact absurd (by assumption) c3)
      · have hq := h0 fun w => w.elim c1 fun w => c2 w.1
        repeat' (first | ((refine kx173 (w := 3) hM hs (show y < 60 by omega) (by decide) ?_; simp only [ky_aft, ky_vl, Nat.reduceAdd])) | ((refine kx173 (w := 3) hM hs (show x < 60 by omega) (by decide) ?_; simp only [ky_aft, ky_vl, Nat.reduceAdd])) | (refine ky_ok_stp rfl ?_; simp (disch := first | omega | assumption) only [ky_stp, ky_inv, ky_ldi, ky_ldl, ky_ldd, ky_lda, ky_cl2, ky_st1, ky_st2, ky_s1i, ky_s2i, ky_s1l, ky_s2l, ky_sli, ky_s1f, ky_s2f, ky_s1d, ky_s2d, ky_sr, ky_sai, ky_sasi, ky_sasl, ky_sasr, ky_svr, ky_sv, ky_sv2, ky_s1, ky_cs, ky_pop, ky_nth, ky_snt, ky_obj, ky_ari, ky_arl, ky_arr, ky_arn, ky_fv, ky_rcv, List.map_cons, List.map_nil, List.drop_succ_cons, List.drop_zero, Value.category, Nat.reduceAdd, Nat.reduceSub, true_and, and_true, true_or, or_true, reduceCtorEq, ite_true, ite_false, eq_self, Nat.reduceEqDiff, Nat.reduceLeDiff, nI_add, nI_1, nI_leI, nI_ltI, nI_eq, nI_clamp, kz_m1, kz_mn, kz_mn2, kz_n0, kz_0n, kz_0, kz_le0, kz_0lt, false_implies, true_implies, not_false_eq_true, not_true_eq_false, Nat.zero_le, kb_0, kz_10, kz_of, ky_sw, kz_mx, kz_mi, mh, x3, y3, x4, y4, c1, eq_false (fun w : C = A => c2 w.symm), Int32.not_lt.mp c1]) | (refine ⟨vp_in_nI (by omega) (by omega), ?_⟩) | (refine ⟨fun zc => ?_, fun zc => ?_⟩ <;> try (exfalso; omega)) | fail)
        all_goals first | exact hq | (exfalso; exact absurd (by assumption) c1)
  | 1, _ =>
    rw [if_neg (by decide), if_pos rfl, kSz_e, kSz_e] at h1 h0
    by_cases c : kEnd z y - y < kEnd z x - x
    · have hq := h1 c
      repeat' (first | (refine kx177 hM hs hL hx ?_; simp only [ky_aft, ky_vl, Nat.reduceAdd]) | (refine kx177 hM hs hL hy ?_; simp only [ky_aft, ky_vl, Nat.reduceAdd]) | (refine ky_ok_stp rfl ?_; simp (disch := first | omega | assumption) only [ky_stp, ky_inv, ky_ldi, ky_ldl, ky_ldd, ky_lda, ky_cl2, ky_st1, ky_st2, ky_s1i, ky_s2i, ky_s1l, ky_s2l, ky_sli, ky_s1f, ky_s2f, ky_s1d, ky_s2d, ky_sr, ky_sai, ky_sasi, ky_sasl, ky_sasr, ky_svr, ky_sv, ky_sv2, ky_s1, ky_cs, ky_pop, ky_nth, ky_snt, ky_obj, ky_ari, ky_arl, ky_arr, ky_arn, ky_fv, ky_rcv, List.map_cons, List.map_nil, List.drop_succ_cons, List.drop_zero, Value.category, Nat.reduceAdd, Nat.reduceSub, true_and, and_true, true_or, or_true, reduceCtorEq, ite_true, ite_false, eq_self, Nat.reduceEqDiff, Nat.reduceLeDiff, nI_add, nI_1, nI_leI, nI_ltI, nI_eq, nI_clamp, kz_m1, kz_mn, kz_mn2, kz_n0, kz_0n, kz_0, kz_le0, kz_0lt, false_implies, true_implies, not_false_eq_true, not_true_eq_false, Nat.zero_le, kb_0, kz_10, kz_of, ky_sw, kz_mx, kz_mi, mh, e2, hEx, hEy, sx, sy, show ¬ kEnd z x - x ≤ kEnd z y - y by omega]) | (refine ⟨vp_in_nI (by omega) (by omega), ?_⟩) | (refine ⟨fun zc => ?_, fun zc => ?_⟩ <;> try (exfalso; omega)) | fail)
      all_goals exact hq
    · have hq := h0 c
      repeat' (first | (refine kx177 hM hs hL hx ?_; simp only [ky_aft, ky_vl, Nat.reduceAdd]) | (refine kx177 hM hs hL hy ?_; simp only [ky_aft, ky_vl, Nat.reduceAdd]) | (refine ky_ok_stp rfl ?_; simp (disch := first | omega | assumption) only [ky_stp, ky_inv, ky_ldi, ky_ldl, ky_ldd, ky_lda, ky_cl2, ky_st1, ky_st2, ky_s1i, ky_s2i, ky_s1l, ky_s2l, ky_sli, ky_s1f, ky_s2f, ky_s1d, ky_s2d, ky_sr, ky_sai, ky_sasi, ky_sasl, ky_sasr, ky_svr, ky_sv, ky_sv2, ky_s1, ky_cs, ky_pop, ky_nth, ky_snt, ky_obj, ky_ari, ky_arl, ky_arr, ky_arn, ky_fv, ky_rcv, List.map_cons, List.map_nil, List.drop_succ_cons, List.drop_zero, Value.category, Nat.reduceAdd, Nat.reduceSub, true_and, and_true, true_or, or_true, reduceCtorEq, ite_true, ite_false, eq_self, Nat.reduceEqDiff, Nat.reduceLeDiff, nI_add, nI_1, nI_leI, nI_ltI, nI_eq, nI_clamp, kz_m1, kz_mn, kz_mn2, kz_n0, kz_0n, kz_0, kz_le0, kz_0lt, false_implies, true_implies, not_false_eq_true, not_true_eq_false, Nat.zero_le, kb_0, kz_10, kz_of, ky_sw, kz_mx, kz_mi, mh, e2, hEx, hEy, sx, sy, show kEnd z x - x ≤ kEnd z y - y by omega]) | (refine ⟨vp_in_nI (by omega) (by omega), ?_⟩) | (refine ⟨fun zc => ?_, fun zc => ?_⟩ <;> try (exfalso; omega)) | fail)
      all_goals exact hq
  | 2, _ =>
    rw [if_neg (by decide), if_neg (by decide)] at h1 h0
    have hq := h1 hyx
    repeat' (first | (refine ky_ok_stp rfl ?_; simp (disch := first | omega | assumption) only [ky_stp, ky_inv, ky_ldi, ky_ldl, ky_ldd, ky_lda, ky_cl2, ky_st1, ky_st2, ky_s1i, ky_s2i, ky_s1l, ky_s2l, ky_sli, ky_s1f, ky_s2f, ky_s1d, ky_s2d, ky_sr, ky_sai, ky_sasi, ky_sasl, ky_sasr, ky_svr, ky_sv, ky_sv2, ky_s1, ky_cs, ky_pop, ky_nth, ky_snt, ky_obj, ky_ari, ky_arl, ky_arr, ky_arn, ky_fv, ky_rcv, List.map_cons, List.map_nil, List.drop_succ_cons, List.drop_zero, Value.category, Nat.reduceAdd, Nat.reduceSub, true_and, and_true, true_or, or_true, reduceCtorEq, ite_true, ite_false, eq_self, Nat.reduceEqDiff, Nat.reduceLeDiff, nI_add, nI_1, nI_leI, nI_ltI, nI_eq, nI_clamp, kz_m1, kz_mn, kz_mn2, kz_n0, kz_0n, kz_0, kz_le0, kz_0lt, false_implies, true_implies, not_false_eq_true, not_true_eq_false, Nat.zero_le, kb_0, kz_10, kz_of, ky_sw, kz_mx, kz_mi, mh, e2]) | (refine ⟨vp_in_nI (by omega) (by omega), ?_⟩) | (refine ⟨fun zc => ?_, fun zc => ?_⟩ <;> try (exfalso; omega)) | fail)
    all_goals exact hq
theorem kx284 (ha : kI a) (hM : kMo a f g) (hs : f (a 171) = some (.inl (1, 388, .inl r))) (ho : kZo z) (hR : kRw r z) (hj : j ≤ z.n) (hX : X = nI j - 1) (hb : b ≤ 2) (hO : f (a 185) = some (.inl (1, 60, .inl O)))
    (hQ : ∀ f' O', f' (a 185) = some (.inl (1, 60, .inl O')) → (∀ t, t < (kCl z j).length → O' t = nI ((kSrt z b (kCl z j)).getD t 0)) → kfr a f f' (fun j => j = 185) → Q (.inl (some (.int (nI (kCl z j).length)))) f') : ky_cl adK 284 [.ref (a 170), .int X, .int (nI b)] f Q := by
  have h60 := ho.n60
  have hL := kRw_l ho hR
  have mh := hM
  unfold kMo at mh
  have hx1 : X + 1 = nI j := by rw [hX, kz_j1]
  have hE := kE_le (kL z.R) (kLv (kL z.R) j) (z.n - j) j
  have hlen := kCl_le hj
  have hv : kCl z j = kCh (kL z.R) (kLv (kL z.R) j + 1) j (kE (kL z.R) (kLv (kL z.R) j) j (z.n - j) - j) [] := rfl
  have c242 : ∀ {f : ky_H} {Q : ky_Q}, kMo a f g → f (a 171) = some (.inl (1, 388, .inl r)) → Q (.inl (some (.int (nI (kE (kL z.R) (kLv (kL z.R) j) j (z.n - j)))))) f → ky_cl adK 242 [.ref (a 170), .int X] f Q := fun hM hs hQ => kx242x hM hs ho hR hj hX hQ
  generalize kE (kL z.R) (kLv (kL z.R) j) j (z.n - j) = e at hE hv c242
  -- the inner loop
  have inn : ∀ (R sh : List Nat) f2 O2 k v4 m0, (∀ y ∈ R, y < k) → k < z.n → R.length + sh.length = m0 → m0 < 60 → f2 (a 185) = some (.inl (1, 60, .inl O2)) → (∀ t, t < m0 + 1 → t ≠ R.length → O2 t = nI ((R.reverse ++ 0 :: sh.reverse).getD t 0)) → kfr a f f2 (fun j => j = 185) → (∀ f3 O3 v6, f3 (a 185) = some (.inl (1, 60, .inl O3)) → (∀ t, t < m0 + 1 → O3 t = nI ((sh ++ kIr z b R k).reverse.getD t 0)) → kfr a f f3 (fun j => j = 185) → ky_ok adK 284 89 [some (.ref (a 170)), some (.int X), some (.int (nI b)), some (.int (nI e)), v4, some (.int (nI k)), v6] [] f3 0 0 Q) → ky_ok adK 284 34 [some (.ref (a 170)), some (.int X), some (.int (nI b)), some (.int (nI e)), v4, some (.int (nI k)), some (.int (nI R.length))] [] f2 0 0 Q := by
    intro R
    induction R with
    | nil =>
      intro sh f2 O2 k v4 m0 hlt hk hm hm60 h185 hx hF hc
      have hM2 := kMo_fq hM hF (by omega)
      have mh2 := hM2
      unfold kMo at mh2
      have hcc := hc (ky_up f2 (a 185) (.inl (1, 60, .inl (upd O2 0 (nI k))))) _ (some (.int (nI 0))) kz_same (fun t ht => by
        rw [show (sh ++ kIr z b [] k).reverse = k :: sh.reverse from by rw [kIr, List.reverse_append]; rfl]
        by_cases e : t = 0
        · subst e; rw [pk_us]; rfl
        · rw [pk_un e, hx t ht e, List.reverse_nil, List.nil_append, kgd_c (by omega), kgd_c (by omega)]) (kfr_up ha hF rfl)
      have n0 : ([] : List Nat).length = 0 := rfl
      rw [n0]
      repeat' (first | (exact hcc) | (refine ⟨vp_in_nI (n := 0) (by omega) (by omega), ?_⟩) | (refine ky_ok_stp rfl ?_; simp (disch := first | omega | assumption) only [ky_stp, ky_inv, ky_ldi, ky_ldl, ky_ldd, ky_lda, ky_cl2, ky_st1, ky_st2, ky_s1i, ky_s2i, ky_s1l, ky_s2l, ky_sli, ky_s1f, ky_s2f, ky_s1d, ky_s2d, ky_sr, ky_sai, ky_sasi, ky_sasl, ky_sasr, ky_svr, ky_sv, ky_sv2, ky_s1, ky_cs, ky_pop, ky_nth, ky_snt, ky_obj, ky_ari, ky_arl, ky_arr, ky_arn, ky_fv, ky_rcv, List.map_cons, List.map_nil, List.drop_succ_cons, List.drop_zero, Value.category, Nat.reduceAdd, Nat.reduceSub, true_and, and_true, true_or, or_true, reduceCtorEq, ite_true, ite_false, eq_self, Nat.reduceEqDiff, Nat.reduceLeDiff, nI_add, nI_1, nI_leI, nI_ltI, nI_eq, nI_clamp, kz_m1, kz_mn, kz_mn2, kz_n0, kz_0n, kz_0, kz_le0, kz_0lt, false_implies, true_implies, not_false_eq_true, not_true_eq_false, Nat.zero_le, kb_0, kz_10, kz_of, ky_sw, kz_mx, kz_mi, mh2, h185, kz_c0, show (nI 0 ≤ 0) = True from eq_true (by decide)]) | (refine ⟨vp_in_nI (by omega) (by omega), ?_⟩) | (refine ⟨fun zc => ?_, fun zc => ?_⟩ <;> try (exfalso; omega)) | fail)
    | cons y R ih =>
      intro sh f2 O2 k v4 m0 hlt hk hm hm60 h185 hx hF hc
      have hM2 := kMo_fq hM hF (by omega)
      have mh2 := hM2
      unfold kMo at mh2
      have hs2 : f2 (a 171) = some (.inl (1, 388, .inl r)) := (hF 171 (by omega)).trans hs
      have hyk := hlt y List.mem_cons_self
      have hRl : (y :: R).length = R.length + 1 := rfl
      rw [hRl] at hm hx
      have hOy : O2 R.length = nI y := by
        rw [hx _ (by omega) (by omega), List.reverse_cons, List.append_assoc, kgd_r (by rw [List.length_reverse]; exact Nat.le_refl _), List.length_reverse, Nat.sub_self]
        rfl
      by_cases hsa : kSa z b k y
      · have hi := ih (sh ++ [y]) (ky_up f2 (a 185) (.inl (1, 60, .inl (upd O2 (R.length + 1) (nI y))))) _ k v4 m0 (fun x hx => hlt x (List.mem_cons_of_mem _ hx)) hk (by rw [List.length_append, List.length_singleton]; omega) hm60 kz_same (fun t ht htn => by
          by_cases e : t = R.length + 1
          · subst e
            rw [pk_us, kgd_r (by rw [List.length_reverse]; omega), List.length_reverse, Nat.add_sub_cancel_left, kgd_c (by omega), List.reverse_append]
            rfl
          · have e1 : (y :: R).reverse ++ 0 :: sh.reverse = R.reverse ++ (y :: 0 :: sh.reverse) := by rw [List.reverse_cons, List.append_assoc]; rfl
            have e2 : R.reverse ++ 0 :: (sh ++ [y]).reverse = R.reverse ++ (0 :: y :: sh.reverse) := by rw [List.reverse_append]; rfl
            rw [pk_un e, hx t ht e, e1, e2]
            congr 1
            by_cases e3 : t < R.length
            · rw [kgd_l (by rw [List.length_reverse]; exact e3), kgd_l (by rw [List.length_reverse]; exact e3)]
            · rw [kgd_r (by rw [List.length_reverse]; omega), kgd_r (by rw [List.length_reverse]; omega), List.length_reverse, kgd_c (by omega), kgd_c (by omega), kgd_c (by omega), kgd_c (by omega)]) (kfr_up ha hF rfl) (fun f3 O3 v6 w1 w2 w3 => hc f3 O3 v6 w1 (fun t ht => by
          rw [w2 t ht, kIr_y hsa, List.append_assoc]
          rfl) w3)
        repeat' (first | ((refine kx283 hM2 hs2 ho hR (show y < z.n by omega) hk hyk hb (fun _ => ?_) (fun w => absurd hsa w); simp only [ky_aft, ky_vl, Nat.reduceAdd])) | (exact hi) | (refine ky_ok_stp rfl ?_; simp (disch := first | omega | assumption) only [ky_stp, ky_inv, ky_ldi, ky_ldl, ky_ldd, ky_lda, ky_cl2, ky_st1, ky_st2, ky_s1i, ky_s2i, ky_s1l, ky_s2l, ky_sli, ky_s1f, ky_s2f, ky_s1d, ky_s2d, ky_sr, ky_sai, ky_sasi, ky_sasl, ky_sasr, ky_svr, ky_sv, ky_sv2, ky_s1, ky_cs, ky_pop, ky_nth, ky_snt, ky_obj, ky_ari, ky_arl, ky_arr, ky_arn, ky_fv, ky_rcv, List.map_cons, List.map_nil, List.drop_succ_cons, List.drop_zero, Value.category, Nat.reduceAdd, Nat.reduceSub, true_and, and_true, true_or, or_true, reduceCtorEq, ite_true, ite_false, eq_self, Nat.reduceEqDiff, Nat.reduceLeDiff, nI_add, nI_1, nI_leI, nI_ltI, nI_eq, nI_clamp, kz_m1, kz_mn, kz_mn2, kz_n0, kz_0n, kz_0, kz_le0, kz_0lt, false_implies, true_implies, not_false_eq_true, not_true_eq_false, Nat.zero_le, kb_0, kz_10, kz_of, ky_sw, kz_mx, kz_mi, mh2, hRl, nI_pred, h185, hOy, show ¬ R.length + 1 ≤ 0 by omega]) | (refine ⟨vp_in_nI (by omega) (by omega), ?_⟩) | (refine ⟨fun zc => ?_, fun zc => ?_⟩ <;> try (exfalso; omega)) | fail)
      · have hcc := hc (ky_up f2 (a 185) (.inl (1, 60, .inl (upd O2 (R.length + 1) (nI k))))) _ (some (.int (nI (R.length + 1)))) kz_same (fun t ht => by
          rw [show (sh ++ kIr z b (y :: R) k).reverse = (y :: R).reverse ++ k :: sh.reverse from by rw [kIr_n hsa, List.reverse_append, List.reverse_cons, List.append_assoc]; rfl]
          by_cases e : t = R.length + 1
          · subst e
            rw [pk_us]
            congr 1
            have := kgd_a (A := (y :: R).reverse) (x := k) (C := sh.reverse)
            rw [List.length_reverse] at this
            exact this.symm
          · rw [pk_un e, hx t ht e]
            congr 1
            exact kgd_h (by rw [List.length_reverse]; exact e)) (kfr_up ha hF rfl)
        repeat' (first | ((refine kx283 hM2 hs2 ho hR (show y < z.n by omega) hk hyk hb (fun w => absurd w hsa) (fun _ => ?_); simp only [ky_aft, ky_vl, Nat.reduceAdd])) | (exact hcc) | (refine ky_ok_stp rfl ?_; simp (disch := first | omega | assumption) only [ky_stp, ky_inv, ky_ldi, ky_ldl, ky_ldd, ky_lda, ky_cl2, ky_st1, ky_st2, ky_s1i, ky_s2i, ky_s1l, ky_s2l, ky_sli, ky_s1f, ky_s2f, ky_s1d, ky_s2d, ky_sr, ky_sai, ky_sasi, ky_sasl, ky_sasr, ky_svr, ky_sv, ky_sv2, ky_s1, ky_cs, ky_pop, ky_nth, ky_snt, ky_obj, ky_ari, ky_arl, ky_arr, ky_arn, ky_fv, ky_rcv, List.map_cons, List.map_nil, List.drop_succ_cons, List.drop_zero, Value.category, Nat.reduceAdd, Nat.reduceSub, true_and, and_true, true_or, or_true, reduceCtorEq, ite_true, ite_false, eq_self, Nat.reduceEqDiff, Nat.reduceLeDiff, nI_add, nI_1, nI_leI, nI_ltI, nI_eq, nI_clamp, kz_m1, kz_mn, kz_mn2, kz_n0, kz_0n, kz_0, kz_le0, kz_0lt, false_implies, true_implies, not_false_eq_true, not_true_eq_false, Nat.zero_le, kb_0, kz_10, kz_of, ky_sw, kz_mx, kz_mi, mh2, hRl, nI_pred, h185, hOy, show ¬ R.length + 1 ≤ 0 by omega]) | (refine ⟨vp_in_nI (by omega) (by omega), ?_⟩) | (refine ⟨fun zc => ?_, fun zc => ?_⟩ <;> try (exfalso; omega)) | fail)
  have lp : ∀ m k (l : List Nat) f2 O2 v6, e - k ≤ m → k ≤ e → (∀ y ∈ l, y < k) → l.length ≤ k → (k = e ∧ kCl z j = l ∨ k < e ∧ kCl z j = kCh (kL z.R) (kLv (kL z.R) j + 1) (k + 1) (e - (k + 1)) (l ++ [k])) → f2 (a 185) = some (.inl (1, 60, .inl O2)) → (∀ t, t < l.length → O2 t = nI ((kSrt z b l).getD t 0)) → kfr a f f2 (fun j => j = 185) → ky_ok adK 284 24 [some (.ref (a 170)), some (.int X), some (.int (nI b)), some (.int (nI e)), some (.int (nI l.length)), some (.int (nI k)), v6] [] f2 0 0 Q := by
    intro m
    induction m with
    | zero =>
      intro k l f2 O2 v6 hm hk hlt hl hd h185 hx hF
      rcases hd with ⟨h1, h2⟩ | ⟨h1, h2⟩
      · have hq := hQ f2 O2 h185 (by rw [h2]; exact hx) hF
        rw [h2] at hq
        repeat' (first | (refine ky_ok_stp rfl ?_; simp (disch := first | omega | assumption) only [ky_stp, ky_inv, ky_ldi, ky_ldl, ky_ldd, ky_lda, ky_cl2, ky_st1, ky_st2, ky_s1i, ky_s2i, ky_s1l, ky_s2l, ky_sli, ky_s1f, ky_s2f, ky_s1d, ky_s2d, ky_sr, ky_sai, ky_sasi, ky_sasl, ky_sasr, ky_svr, ky_sv, ky_sv2, ky_s1, ky_cs, ky_pop, ky_nth, ky_snt, ky_obj, ky_ari, ky_arl, ky_arr, ky_arn, ky_fv, ky_rcv, List.map_cons, List.map_nil, List.drop_succ_cons, List.drop_zero, Value.category, Nat.reduceAdd, Nat.reduceSub, true_and, and_true, true_or, or_true, reduceCtorEq, ite_true, ite_false, eq_self, Nat.reduceEqDiff, Nat.reduceLeDiff, nI_add, nI_1, nI_leI, nI_ltI, nI_eq, nI_clamp, kz_m1, kz_mn, kz_mn2, kz_n0, kz_0n, kz_0, kz_le0, kz_0lt, false_implies, true_implies, not_false_eq_true, not_true_eq_false, Nat.zero_le, kb_0, kz_10, kz_of, ky_sw, kz_mx, kz_mi, h1]) | (refine ⟨vp_in_nI (by omega) (by omega), ?_⟩) | (refine ⟨fun zc => ?_, fun zc => ?_⟩ <;> try (exfalso; omega)) | fail)
        exact hq
      · omega
    | succ m ih =>
      intro k l f2 O2 v6 hm hk hlt hl hd h185 hx hF
      rcases hd with ⟨h1, h2⟩ | ⟨h1, h2⟩
      · have hq := hQ f2 O2 h185 (by rw [h2]; exact hx) hF
        rw [h2] at hq
        repeat' (first | (refine ky_ok_stp rfl ?_; simp (disch := first | omega | assumption) only [ky_stp, ky_inv, ky_ldi, ky_ldl, ky_ldd, ky_lda, ky_cl2, ky_st1, ky_st2, ky_s1i, ky_s2i, ky_s1l, ky_s2l, ky_sli, ky_s1f, ky_s2f, ky_s1d, ky_s2d, ky_sr, ky_sai, ky_sasi, ky_sasl, ky_sasr, ky_svr, ky_sv, ky_sv2, ky_s1, ky_cs, ky_pop, ky_nth, ky_snt, ky_obj, ky_ari, ky_arl, ky_arr, ky_arn, ky_fv, ky_rcv, List.map_cons, List.map_nil, List.drop_succ_cons, List.drop_zero, Value.category, Nat.reduceAdd, Nat.reduceSub, true_and, and_true, true_or, or_true, reduceCtorEq, ite_true, ite_false, eq_self, Nat.reduceEqDiff, Nat.reduceLeDiff, nI_add, nI_1, nI_leI, nI_ltI, nI_eq, nI_clamp, kz_m1, kz_mn, kz_mn2, kz_n0, kz_0n, kz_0, kz_le0, kz_0lt, false_implies, true_implies, not_false_eq_true, not_true_eq_false, Nat.zero_le, kb_0, kz_10, kz_of, ky_sw, kz_mx, kz_mi, h1]) | (refine ⟨vp_in_nI (by omega) (by omega), ?_⟩) | (refine ⟨fun zc => ?_, fun zc => ?_⟩ <;> try (exfalso; omega)) | fail)
        exact hq
      · have hM2 := kMo_fq hM hF (by omega)
        have mh2 := hM2
        unfold kMo at mh2
        have hperm := kFold_p (z := z) (b := b) l []
        rw [List.append_nil] at hperm
        have hRl : (l.foldl (kIr z b) []).length = l.length := hperm.length_eq
        have hfin := inn (l.foldl (kIr z b) []) [] f2 O2 k (some (.int (nI l.length))) l.length (fun y hy => hlt y (hperm.mem_iff.mp hy)) (by omega) (by rw [hRl]; rfl) (by omega) h185 (fun t ht htn => by
          rw [hRl] at htn
          rw [hx t (by omega), kgd_l (by rw [List.length_reverse, hRl]; omega)]
          rfl) hF fun f3 O3 v6 w1 w2 w3 => by
            have hM3 := kMo_fq hM w3 (by omega)
            have mh3 := hM3
            unfold kMo at mh3
            have hs3 : f3 (a 171) = some (.inl (1, 388, .inl r)) := (w3 171 (by omega)).trans hs
            have hnx := kCh_nx (kL z.R) (kLv (kL z.R) j + 1) (e - (k + 1)) (k + 1) (l ++ [k])
            have hnl := kNx2_le (kL z.R) (kLv (kL z.R) j + 1) (e - (k + 1)) (k + 1)
            rw [show k + 1 + (e - (k + 1)) = e by omega] at hnx hnl
            have ell : (l ++ [k]).length = l.length + 1 := by rw [List.length_append, List.length_singleton]
            have hi := ih (kNx2 (kL z.R) (kLv (kL z.R) j + 1) (k + 1) (e - (k + 1))) (l ++ [k]) f3 O3 v6 (by omega) hnl.2 (fun y hy => by
              rcases List.mem_append.mp hy with hy | hy
              · have := hlt y hy; omega
              · rw [List.mem_singleton.mp hy]; omega) (by omega) (by
              rcases hnx with ⟨n1, n2⟩ | ⟨n1, n2, n3⟩
              · exact .inl ⟨n1, h2.trans n2⟩
              · exact .inr ⟨n1, h2.trans n3⟩) w1 (fun t ht => by
              rw [ell] at ht
              rw [w2 t ht, List.nil_append]
              unfold kSrt
              rw [List.foldl_append]
              rfl) w3
            rw [ell] at hi
            repeat' (first | (refine kx243x hM3 hs3 ho hR hj hX ?_; simp only [ky_aft, ky_vl, Nat.reduceAdd]) | (refine kx241 (p := k + 1) (t := e) hM3 hs3 hL (show e ≤ z.n by omega) (hp := .inl (by omega)) ?_; simp only [ky_aft, ky_vl, Nat.reduceAdd]) | (exact hi) | (refine ky_ok_stp rfl ?_; simp (disch := first | omega | assumption) only [ky_stp, ky_inv, ky_ldi, ky_ldl, ky_ldd, ky_lda, ky_cl2, ky_st1, ky_st2, ky_s1i, ky_s2i, ky_s1l, ky_s2l, ky_sli, ky_s1f, ky_s2f, ky_s1d, ky_s2d, ky_sr, ky_sai, ky_sasi, ky_sasl, ky_sasr, ky_svr, ky_sv, ky_sv2, ky_s1, ky_cs, ky_pop, ky_nth, ky_snt, ky_obj, ky_ari, ky_arl, ky_arr, ky_arn, ky_fv, ky_rcv, List.map_cons, List.map_nil, List.drop_succ_cons, List.drop_zero, Value.category, Nat.reduceAdd, Nat.reduceSub, true_and, and_true, true_or, or_true, reduceCtorEq, ite_true, ite_false, eq_self, Nat.reduceEqDiff, Nat.reduceLeDiff, nI_add, nI_1, nI_leI, nI_ltI, nI_eq, nI_clamp, kz_m1, kz_mn, kz_mn2, kz_n0, kz_0n, kz_0, kz_le0, kz_0lt, false_implies, true_implies, not_false_eq_true, not_true_eq_false, Nat.zero_le, kb_0, kz_10, kz_of, ky_sw, kz_mx, kz_mi, mh3]) | (refine ⟨vp_in_nI (by omega) (by omega), ?_⟩) | (refine ⟨fun zc => ?_, fun zc => ?_⟩ <;> try (exfalso; omega)) | fail)
        rw [hRl] at hfin
        repeat' (first | (exact hfin) | (refine ky_ok_stp rfl ?_; simp (disch := first | omega | assumption) only [ky_stp, ky_inv, ky_ldi, ky_ldl, ky_ldd, ky_lda, ky_cl2, ky_st1, ky_st2, ky_s1i, ky_s2i, ky_s1l, ky_s2l, ky_sli, ky_s1f, ky_s2f, ky_s1d, ky_s2d, ky_sr, ky_sai, ky_sasi, ky_sasl, ky_sasr, ky_svr, ky_sv, ky_sv2, ky_s1, ky_cs, ky_pop, ky_nth, ky_snt, ky_obj, ky_ari, ky_arl, ky_arr, ky_arn, ky_fv, ky_rcv, List.map_cons, List.map_nil, List.drop_succ_cons, List.drop_zero, Value.category, Nat.reduceAdd, Nat.reduceSub, true_and, and_true, true_or, or_true, reduceCtorEq, ite_true, ite_false, eq_self, Nat.reduceEqDiff, Nat.reduceLeDiff, nI_add, nI_1, nI_leI, nI_ltI, nI_eq, nI_clamp, kz_m1, kz_mn, kz_mn2, kz_n0, kz_0n, kz_0, kz_le0, kz_0lt, false_implies, true_implies, not_false_eq_true, not_true_eq_false, Nat.zero_le, kb_0, kz_10, kz_of, ky_sw, kz_mx, kz_mi, mh2]) | (refine ⟨vp_in_nI (by omega) (by omega), ?_⟩) | (refine ⟨fun zc => ?_, fun zc => ?_⟩ <;> try (exfalso; omega)) | fail)
  have hnx := kCh_nx (kL z.R) (kLv (kL z.R) j + 1) (e - j) j []
  have hnl := kNx2_le (kL z.R) (kLv (kL z.R) j + 1) (e - j) j
  rw [show j + (e - j) = e by omega, ← hv] at hnx
  rw [show j + (e - j) = e by omega] at hnl
  have hl := lp e (kNx2 (kL z.R) (kLv (kL z.R) j + 1) j (e - j)) [] f O none (by omega) hnl.2 (fun y hy => by cases hy) (Nat.zero_le _) (by
    rcases hnx with ⟨n1, n2⟩ | ⟨n1, n2, n3⟩
    · exact .inl ⟨n1, n2⟩
    · exact .inr ⟨n1, n3⟩) hO (fun t ht => absurd ht (Nat.not_lt_zero t)) kfr_rf
  refine ⟨Nat.le_of_ble_eq_true rfl, fun z => absurd z (by decide), ?_⟩; show ky_ok adK 284 0 [some (.ref (a 170)), some (.int X), some (.int (nI b)), none, none, none, none] [] f 0 0 _
  repeat' (first | ((refine c242 hM hs ?_; simp only [ky_aft, ky_vl, Nat.reduceAdd])) | (refine kx243x hM hs ho hR hj hX ?_; simp only [ky_aft, ky_vl, Nat.reduceAdd]) | (refine kx241 (p := j) (t := e) hM hs hL (show e ≤ z.n by omega) (hp := .inl (by omega)) ?_; simp only [ky_aft, ky_vl, Nat.reduceAdd]) | (exact hl) | (refine ky_ok_stp rfl ?_; simp (disch := first | omega | assumption) only [ky_stp, ky_inv, ky_ldi, ky_ldl, ky_ldd, ky_lda, ky_cl2, ky_st1, ky_st2, ky_s1i, ky_s2i, ky_s1l, ky_s2l, ky_sli, ky_s1f, ky_s2f, ky_s1d, ky_s2d, ky_sr, ky_sai, ky_sasi, ky_sasl, ky_sasr, ky_svr, ky_sv, ky_sv2, ky_s1, ky_cs, ky_pop, ky_nth, ky_snt, ky_obj, ky_ari, ky_arl, ky_arr, ky_arn, ky_fv, ky_rcv, List.map_cons, List.map_nil, List.drop_succ_cons, List.drop_zero, Value.category, Nat.reduceAdd, Nat.reduceSub, true_and, and_true, true_or, or_true, reduceCtorEq, ite_true, ite_false, eq_self, Nat.reduceEqDiff, Nat.reduceLeDiff, nI_add, nI_1, nI_leI, nI_ltI, nI_eq, nI_clamp, kz_m1, kz_mn, kz_mn2, kz_n0, kz_0n, kz_0, kz_le0, kz_0lt, false_implies, true_implies, not_false_eq_true, not_true_eq_false, Nat.zero_le, kb_0, kz_10, kz_of, ky_sw, kz_mx, kz_mi, mh, hx1]) | (refine ⟨vp_in_nI (by omega) (by omega), ?_⟩) | (refine ⟨fun zc => ?_, fun zc => ?_⟩ <;> try (exfalso; omega)) | fail)
end KXM
