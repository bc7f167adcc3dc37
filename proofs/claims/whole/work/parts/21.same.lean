/-! ## NUMBERs compared -/
def rvv (sh b : Nat) : Nat := if b = 73 + sh then 1 else if b = 86 + sh then 5 else if b = 88 + sh then 10 else if b = 76 + sh then 50 else 100
def rvd (sh : Nat) : List Nat → Nat × Nat
  | [] => (0, 0)
  | b :: r => let q := rvd sh r; if rvv sh b < q.2 then (q.1 - rvv sh b, q.2) else (q.1 + rvv sh b, rvv sh b)
def sgdec (k : Nat) (l : List Nat) : Nat := match k with
  | 0 => l.foldl (fun s b => 10 * s + (b - 48)) 0
  | 1 => l.foldl (fun s b => 26 * s + (b - 64)) 0
  | 2 => l.foldl (fun s b => 26 * s + (b - 96)) 0
  | 3 => (rvd 0 l).1
  | _ => (rvd 32 l).1
set_option maxRecDepth 100000 in
theorem sg_dec : ∀ k, k < 5 → ∀ c, c < 159 → 1 ≤ c → sgdec k (sg k c) = c := by decide +kernel
theorem sgn_inj {k c d : Nat} (hc : c < 159) (hd : d < 159) (hc5 : c ≠ 0 → k < 5) (hd5 : d ≠ 0 → k < 5) (h : sgn k c = sgn k d) : c = d := by
  unfold sgn at h
  by_cases h1 : c = 0
  · by_cases h2 : d = 0
    · omega
    · rw [if_pos h1, if_neg h2] at h
      exact absurd h.symm (sg_ok (hd5 h2) hd (by omega)).1
  · by_cases h2 : d = 0
    · rw [if_neg h1, if_pos h2] at h
      exact absurd h (sg_ok (hc5 h1) hc (by omega)).1
    · rw [if_neg h1, if_neg h2] at h
      rw [← sg_dec k (hc5 h1) c hc (by omega), h, sg_dec k (hd5 h2) d hd (by omega)]
theorem kct_inj {c d : Nat} (hc : c < 159) (hd : d < 159) : (kct c = kct d) = (c = d) := by
  unfold kct
  refine propext ⟨fun h => ?_, fun h => by rw [h]⟩
  by_cases h1 : c = 0
  · by_cases h2 : d = 0
    · omega
    · rw [if_pos h1, if_neg h2] at h
      have := nI_pos (n := d) (by omega)
      rw [← h] at this
      exact absurd (by decide) this
  · by_cases h2 : d = 0
    · rw [if_neg h1, if_pos h2] at h
      have := nI_pos (n := c) (by omega)
      rw [h] at this
      exact absurd (by decide) this
    · rw [if_neg h1, if_neg h2] at h
      exact (nI_eq (by omega) (by omega)).mp h
theorem sgn_S {k c k' d : Nat} (h1 : k ≤ 5) (hc : c < 159) (hc5 : c ≠ 0 → k < 5) (h1' : k' ≤ 5) (hd : d < 159) (hd5 : d ≠ 0 → k' < 5) : (kpS (sgn k c) = kpS (sgn k' d)) = (sgn k c = sgn k' d) := by
  have a1 := sgn_ok h1 hc hc5
  have a2 := sgn_ok h1' hd hd5
  refine propext ⟨fun h => ?_, fun h => by rw [h]⟩
  exact kpN_inj _ _ (fun b hb => ⟨(a1.2 b hb).1, (a1.2 b hb).2.1⟩) (fun b hb => ⟨(a2.2 b hb).1, (a2.2 b hb).2.1⟩) (kpS_inj (fun b hb => (a1.2 b hb).2.1) a1.1 (fun b hb => (a2.2 b hb).2.1) a2.1 h)
theorem kz_cmp0 (x y : Int64) : (lg_cmp x y = 0) = (x = y) := by
  unfold lg_cmp
  by_cases h1 : x > y
  · rw [if_pos h1]
    exact propext ⟨fun z => absurd z (by decide), fun z => by rw [z] at h1; exact absurd h1 Int64.lt_irrefl⟩
  · rw [if_neg h1]
    by_cases h2 : x = y
    · rw [if_pos h2]; exact propext ⟨fun _ => h2, fun _ => rfl⟩
    · rw [if_neg h2]; exact propext ⟨fun z => absurd z (by decide), fun z => absurd z h2⟩
/-- two chains of signs are the same -/
def kSm (kd ct px kd2 ct2 px2 : Nat → Nat) : Nat → Nat → Nat → Prop
  | 0, j, j2 => j = 0 ∧ j2 = 0
  | _ + 1, 0, j2 => j2 = 0
  | _ + 1, _ + 1, 0 => False
  | m + 1, t + 1, u + 1 => sgn (kd t) (ct t) = sgn (kd2 u) (ct2 u) ∧ kSm kd ct px kd2 ct2 px2 m (px t) (px2 u)
section KXE
variable {adK a : Nat → Nat} {k k2 n n2 p p2 d t d2 t2 : Nat} {f : ky_H} {kd ct px kd2 ct2 px2 : Nat → Nat} {Q : ky_Q} {KD CT PX NL LV CH KD2 CT2 PX2 NL2 LV2 CH2 : Nat → Int32}
theorem kx16 (h1 : d ≤ 5) (h2 : t < 159) (h3 : t ≠ 0 → d < 5) (g1 : d2 ≤ 5) (g2 : t2 < 159) (g3 : t2 ≠ 0 → d2 < 5) (hQ1 : sgn d t = sgn d2 t2 → Q (.inl (some (.int 1))) f) (hQ0 : ¬ sgn d t = sgn d2 t2 → Q (.inl (some (.int 0))) f) :
    ky_cl adK 16 [.int (nI d), .int (kct t), .int (nI d2), .int (kct t2)] f Q := by
  have e1 := sgn_S h1 h2 h3 g1 g2 g3
  have e2 := kct_inj h2 g2
  refine ⟨Nat.le_of_ble_eq_true rfl, fun z => absurd z (by decide), ?_⟩; show ky_ok adK 16 0 [some (.int (nI d)), some (.int (kct t)), some (.int (nI d2)), some (.int (kct t2))] [] f 0 0 _
  repeat' (first | (refine kx19u h1 h2 h3 ?_; simp only [ky_aft, ky_vl, Nat.reduceAdd]) | (refine kx19u g1 g2 g3 ?_; simp only [ky_aft, ky_vl, Nat.reduceAdd]) | (refine ky_ok_stp rfl ?_; simp (disch := first | omega | assumption) only [ky_stp, ky_inv, ky_ldi, ky_ldl, ky_ldd, ky_lda, ky_cl2, ky_st1, ky_st2, ky_s1i, ky_s2i, ky_s1l, ky_s2l, ky_sli, ky_s1f, ky_s2f, ky_s1d, ky_s2d, ky_sr, ky_sai, ky_sasi, ky_sasl, ky_sasr, ky_svr, ky_sv, ky_sv2, ky_s1, ky_cs, ky_pop, ky_nth, ky_snt, ky_obj, ky_ari, ky_arl, ky_arr, ky_arn, ky_fv, ky_rcv, List.map_cons, List.map_nil, List.drop_succ_cons, List.drop_zero, Value.category, Nat.reduceAdd, Nat.reduceSub, true_and, and_true, true_or, or_true, reduceCtorEq, ite_true, ite_false, eq_self, Nat.reduceEqDiff, Nat.reduceLeDiff, nI_add, nI_1, nI_leI, nI_ltI, nI_eq, nI_clamp, kz_m1, kz_mn, kz_mn2, kz_n0, kz_0n, kz_0, kz_le0, kz_0lt, false_implies, true_implies, not_false_eq_true, not_true_eq_false, Nat.zero_le, kb_0, kz_10, kz_of, ky_sw, kz_mx, kz_mi, e1, e2, kz_cmp0]) | (refine ⟨vp_in_nI (by omega) (by omega), ?_⟩) | (refine ⟨fun zc => ?_, fun zc => ?_⟩ <;> try (exfalso; omega)) | fail)
  · exact hQ0 zc
  · exact hQ1 zc
  · refine hQ0 fun z => zc ?_
    next zc0 =>
    subst zc0
    exact sgn_inj h2 g2 h3 g3 z
  · refine hQ1 ?_
    next zc0 =>
    rw [zc0, zc]
theorem kz_nm1 {j : Nat} (h : j ≤ 60) : (nI j - 1 = -1) = (j = 0) := by
  cases j with
  | zero => exact propext ⟨fun _ => rfl, fun _ => kz_z⟩
  | succ j =>
    rw [nI_pred]
    refine propext ⟨fun z => ?_, fun z => absurd z (by omega)⟩
    have := nI_pos (n := j) (by omega)
    rw [z] at this
    exact absurd (by decide) this
theorem kx15 {V V2 : Nat → Nat} (hN : kNB a k f KD CT PX NL LV CH) (hR : kNR n KD CT PX kd ct px) (hw : kNw n kd ct px) (hN2 : kNB a k2 f KD2 CT2 PX2 NL2 LV2 CH2) (hR2 : kNR n2 KD2 CT2 PX2 kd2 ct2 px2) (hw2 : kNw n2 kd2 ct2 px2) (hn : n ≤ 60) (hn2 : n2 ≤ 60) (hp : p < n) (hp2 : p2 < n2)
    (hV : ∀ i, i < n → 1 ≤ V i ∧ V i ≤ 6 ∧ (px i ≠ 0 → V (px i - 1) < V i)) (hV2 : ∀ i, i < n2 → 1 ≤ V2 i ∧ V2 i ≤ 6 ∧ (px2 i ≠ 0 → V2 (px2 i - 1) < V2 i))
    (hQ1 : kSm kd ct px kd2 ct2 px2 6 (p + 1) (p2 + 1) → Q (.inl (some (.int 1))) f) (hQ0 : ¬ kSm kd ct px kd2 ct2 px2 6 (p + 1) (p2 + 1) → Q (.inl (some (.int 0))) f) :
    ky_cl adK 15 [.ref (a k), .int (nI p), .ref (a k2), .int (nI p2)] f Q := by
  obtain ⟨h0, h1, h2, h3, h4, h5, h6⟩ := id hN
  obtain ⟨g0, g1, g2, g3, g4, g5, g6⟩ := id hN2
  have loop : ∀ m s j j2, s + m = 6 → j ≤ n → j2 ≤ n2 → (∀ t, j = t + 1 → V t ≤ m) → (∀ t, j2 = t + 1 → V2 t ≤ m) → (kSm kd ct px kd2 ct2 px2 m j j2 → Q (.inl (some (.int 1))) f) → (¬ kSm kd ct px kd2 ct2 px2 m j j2 → Q (.inl (some (.int 0))) f) →
      ky_ok adK 15 9 [some (.ref (a k)), some (.int (nI p)), some (.ref (a k2)), some (.int (nI p2)), some (.int (nI j - 1)), some (.int (nI j2 - 1)), some (.int (nI s))] [] f 0 0 Q := by
    intro m
    induction m with
    | zero =>
      intro s j j2 hs hj hj2 v1 v2 q1 q0
      have e1 := kz_nm1 (j := j) (by omega)
      have e2 := kz_nm1 (j := j2) (by omega)
      repeat' (first | (refine ky_ok_stp rfl ?_; simp (disch := first | omega | assumption) only [ky_stp, ky_inv, ky_ldi, ky_ldl, ky_ldd, ky_lda, ky_cl2, ky_st1, ky_st2, ky_s1i, ky_s2i, ky_s1l, ky_s2l, ky_sli, ky_s1f, ky_s2f, ky_s1d, ky_s2d, ky_sr, ky_sai, ky_sasi, ky_sasl, ky_sasr, ky_svr, ky_sv, ky_sv2, ky_s1, ky_cs, ky_pop, ky_nth, ky_snt, ky_obj, ky_ari, ky_arl, ky_arr, ky_arn, ky_fv, ky_rcv, List.map_cons, List.map_nil, List.drop_succ_cons, List.drop_zero, Value.category, Nat.reduceAdd, Nat.reduceSub, true_and, and_true, true_or, or_true, reduceCtorEq, ite_true, ite_false, eq_self, Nat.reduceEqDiff, Nat.reduceLeDiff, nI_add, nI_1, nI_leI, nI_ltI, nI_eq, nI_clamp, kz_m1, kz_mn, kz_mn2, kz_n0, kz_0n, kz_0, kz_le0, kz_0lt, false_implies, true_implies, not_false_eq_true, not_true_eq_false, Nat.zero_le, kb_0, kz_10, kz_of, ky_sw, kz_mx, kz_mi, kz_6, e1, e2]) | (refine ⟨vp_in_nI (by omega) (by omega), ?_⟩) | (refine ⟨fun zc => ?_, fun zc => ?_⟩ <;> try (exfalso; omega)) | fail)
      · exact q0 fun z => zc z.1
      · exact q0 fun z => zc z.2
      · exact q1 ⟨by assumption, by assumption⟩
    | succ m ih =>
      intro s j j2 hs hj hj2 v1 v2 q1 q0
      cases j with
      | zero =>
        have e2 := kz_nm1 (j := j2) (by omega)
        rw [kz_z]
        repeat' (first | (refine kx12m ?_; simp only [ky_aft, ky_vl, Nat.reduceAdd]) | (refine ky_ok_stp rfl ?_; simp (disch := first | omega | assumption) only [ky_stp, ky_inv, ky_ldi, ky_ldl, ky_ldd, ky_lda, ky_cl2, ky_st1, ky_st2, ky_s1i, ky_s2i, ky_s1l, ky_s2l, ky_sli, ky_s1f, ky_s2f, ky_s1d, ky_s2d, ky_sr, ky_sai, ky_sasi, ky_sasl, ky_sasr, ky_svr, ky_sv, ky_sv2, ky_s1, ky_cs, ky_pop, ky_nth, ky_snt, ky_obj, ky_ari, ky_arl, ky_arr, ky_arn, ky_fv, ky_rcv, List.map_cons, List.map_nil, List.drop_succ_cons, List.drop_zero, Value.category, Nat.reduceAdd, Nat.reduceSub, true_and, and_true, true_or, or_true, reduceCtorEq, ite_true, ite_false, eq_self, Nat.reduceEqDiff, Nat.reduceLeDiff, nI_add, nI_1, nI_leI, nI_ltI, nI_eq, nI_clamp, kz_m1, kz_mn, kz_mn2, kz_n0, kz_0n, kz_0, kz_le0, kz_0lt, false_implies, true_implies, not_false_eq_true, not_true_eq_false, Nat.zero_le, kb_0, kz_10, kz_of, ky_sw, kz_mx, kz_mi, kz_6, e2]) | (refine ⟨vp_in_nI (by omega) (by omega), ?_⟩) | (refine ⟨fun zc => ?_, fun zc => ?_⟩ <;> try (exfalso; omega)) | fail)
        · exact q0 fun z => zc z
        · exact q1 zc
      | succ j =>
        have hjn : j < n := hj
        cases j2 with
        | zero =>
          rw [kz_z, nI_pred]
          have e1 := kz_nm1 (j := j + 1) (by omega)
          rw [nI_pred] at e1
          repeat' (first | (refine kx12m ?_; simp only [ky_aft, ky_vl, Nat.reduceAdd]) | (refine kx12 (show j < 60 by omega) ?_; simp only [ky_aft, ky_vl, Nat.reduceAdd]) | (refine ky_ok_stp rfl ?_; simp (disch := first | omega | assumption) only [ky_stp, ky_inv, ky_ldi, ky_ldl, ky_ldd, ky_lda, ky_cl2, ky_st1, ky_st2, ky_s1i, ky_s2i, ky_s1l, ky_s2l, ky_sli, ky_s1f, ky_s2f, ky_s1d, ky_s2d, ky_sr, ky_sai, ky_sasi, ky_sasl, ky_sasr, ky_svr, ky_sv, ky_sv2, ky_s1, ky_cs, ky_pop, ky_nth, ky_snt, ky_obj, ky_ari, ky_arl, ky_arr, ky_arn, ky_fv, ky_rcv, List.map_cons, List.map_nil, List.drop_succ_cons, List.drop_zero, Value.category, Nat.reduceAdd, Nat.reduceSub, true_and, and_true, true_or, or_true, reduceCtorEq, ite_true, ite_false, eq_self, Nat.reduceEqDiff, Nat.reduceLeDiff, nI_add, nI_1, nI_leI, nI_ltI, nI_eq, nI_clamp, kz_m1, kz_mn, kz_mn2, kz_n0, kz_0n, kz_0, kz_le0, kz_0lt, false_implies, true_implies, not_false_eq_true, not_true_eq_false, Nat.zero_le, kb_0, kz_10, kz_of, ky_sw, kz_mx, kz_mi, kz_6, e1, Nat.succ_ne_zero]) | (refine ⟨vp_in_nI (by omega) (by omega), ?_⟩) | (refine ⟨fun zc => ?_, fun zc => ?_⟩ <;> try (exfalso; omega)) | fail)
          exact q0 id
        | succ j2 =>
          have hjn2 : j2 < n2 := hj2
          obtain ⟨w1, w2, w3, w4, w5⟩ := hw j hjn
          obtain ⟨x1, x2, x3, x4, x5⟩ := hw2 j2 hjn2
          obtain ⟨r1, r2, r3⟩ := hR j hjn
          obtain ⟨s1, s2, s3⟩ := hR2 j2 hjn2
          rw [nI_pred, nI_pred]
          rw [kSm] at q1 q0
          repeat' (first | (refine kx12 (show j < 60 by omega) ?_; simp only [ky_aft, ky_vl, Nat.reduceAdd]) | (refine kx12 (show j2 < 60 by omega) ?_; simp only [ky_aft, ky_vl, Nat.reduceAdd]) | (refine ky_ok_stp rfl ?_; simp (disch := first | omega | assumption) only [ky_stp, ky_inv, ky_ldi, ky_ldl, ky_ldd, ky_lda, ky_cl2, ky_st1, ky_st2, ky_s1i, ky_s2i, ky_s1l, ky_s2l, ky_sli, ky_s1f, ky_s2f, ky_s1d, ky_s2d, ky_sr, ky_sai, ky_sasi, ky_sasl, ky_sasr, ky_svr, ky_sv, ky_sv2, ky_s1, ky_cs, ky_pop, ky_nth, ky_snt, ky_obj, ky_ari, ky_arl, ky_arr, ky_arn, ky_fv, ky_rcv, List.map_cons, List.map_nil, List.drop_succ_cons, List.drop_zero, Value.category, Nat.reduceAdd, Nat.reduceSub, true_and, and_true, true_or, or_true, reduceCtorEq, ite_true, ite_false, eq_self, Nat.reduceEqDiff, Nat.reduceLeDiff, nI_add, nI_1, nI_leI, nI_ltI, nI_eq, nI_clamp, kz_m1, kz_mn, kz_mn2, kz_n0, kz_0n, kz_0, kz_le0, kz_0lt, false_implies, true_implies, not_false_eq_true, not_true_eq_false, Nat.zero_le, kb_0, kz_10, kz_of, ky_sw, kz_mx, kz_mi, kz_6, h0, h1, h2, h3, g0, g1, g2, g3, r1, r2, r3, s1, s2, s3]) | (refine ⟨vp_in_nI (by omega) (by omega), ?_⟩) | (refine ⟨fun zc => ?_, fun zc => ?_⟩ <;> try (exfalso; omega)) | fail)
          refine kx16 w1 w2 w3 x1 x2 x3 (fun z => ?_) (fun z => ?_)
          · simp only [ky_aft, ky_vl, Nat.reduceAdd]
            repeat' (first | (refine ih (s + 1) (px j) (px2 j2) (by omega) (by omega) (by omega) ?_ ?_ (fun y => q1 ⟨z, y⟩) (fun y => q0 fun y2 => y y2.2)) | (refine ky_ok_stp rfl ?_; simp (disch := first | omega | assumption) only [ky_stp, ky_inv, ky_ldi, ky_ldl, ky_ldd, ky_lda, ky_cl2, ky_st1, ky_st2, ky_s1i, ky_s2i, ky_s1l, ky_s2l, ky_sli, ky_s1f, ky_s2f, ky_s1d, ky_s2d, ky_sr, ky_sai, ky_sasi, ky_sasl, ky_sasr, ky_svr, ky_sv, ky_sv2, ky_s1, ky_cs, ky_pop, ky_nth, ky_snt, ky_obj, ky_ari, ky_arl, ky_arr, ky_arn, ky_fv, ky_rcv, List.map_cons, List.map_nil, List.drop_succ_cons, List.drop_zero, Value.category, Nat.reduceAdd, Nat.reduceSub, true_and, and_true, true_or, or_true, reduceCtorEq, ite_true, ite_false, eq_self, Nat.reduceEqDiff, Nat.reduceLeDiff, nI_add, nI_1, nI_leI, nI_ltI, nI_eq, nI_clamp, kz_m1, kz_mn, kz_mn2, kz_n0, kz_0n, kz_0, kz_le0, kz_0lt, false_implies, true_implies, not_false_eq_true, not_true_eq_false, Nat.zero_le, kb_0, kz_10, kz_of, ky_sw, kz_mx, kz_mi, h0, h3, g0, g3, r3, s3]) | (refine ⟨vp_in_nI (by omega) (by omega), ?_⟩) | (refine ⟨fun zc => ?_, fun zc => ?_⟩ <;> try (exfalso; omega)) | fail)
            · intro t ht
              have y1 := (hV j hjn).2.2 (by omega)
              rw [ht, Nat.add_sub_cancel] at y1
              have y2 := v1 j rfl
              omega
            · intro t ht
              have y1 := (hV2 j2 hjn2).2.2 (by omega)
              rw [ht, Nat.add_sub_cancel] at y1
              have y2 := v2 j2 rfl
              omega
          · simp only [ky_aft, ky_vl, Nat.reduceAdd]
            repeat' (first | (refine ky_ok_stp rfl ?_; simp (disch := first | omega | assumption) only [ky_stp, ky_inv, ky_ldi, ky_ldl, ky_ldd, ky_lda, ky_cl2, ky_st1, ky_st2, ky_s1i, ky_s2i, ky_s1l, ky_s2l, ky_sli, ky_s1f, ky_s2f, ky_s1d, ky_s2d, ky_sr, ky_sai, ky_sasi, ky_sasl, ky_sasr, ky_svr, ky_sv, ky_sv2, ky_s1, ky_cs, ky_pop, ky_nth, ky_snt, ky_obj, ky_ari, ky_arl, ky_arr, ky_arn, ky_fv, ky_rcv, List.map_cons, List.map_nil, List.drop_succ_cons, List.drop_zero, Value.category, Nat.reduceAdd, Nat.reduceSub, true_and, and_true, true_or, or_true, reduceCtorEq, ite_true, ite_false, eq_self, Nat.reduceEqDiff, Nat.reduceLeDiff, nI_add, nI_1, nI_leI, nI_ltI, nI_eq, nI_clamp, kz_m1, kz_mn, kz_mn2, kz_n0, kz_0n, kz_0, kz_le0, kz_0lt, false_implies, true_implies, not_false_eq_true, not_true_eq_false, Nat.zero_le, kb_0, kz_10, kz_of, ky_sw, kz_mx, kz_mi, h0]) | (refine ⟨vp_in_nI (by omega) (by omega), ?_⟩) | (refine ⟨fun zc => ?_, fun zc => ?_⟩ <;> try (exfalso; omega)) | fail)
            exact q0 fun y => z y.1
  have hl0 := loop 6 0 (p + 1) (p2 + 1) rfl (by omega) (by omega) (fun t ht => (Nat.succ.inj ht) ▸ (hV p hp).2.1) (fun t ht => (Nat.succ.inj ht) ▸ (hV2 p2 hp2).2.1) hQ1 hQ0
  rw [nI_pred, nI_pred] at hl0
  refine ⟨Nat.le_of_ble_eq_true rfl, fun z => absurd z (by decide), ?_⟩; show ky_ok adK 15 0 [some (.ref (a k)), some (.int (nI p)), some (.ref (a k2)), some (.int (nI p2)), none, none, none] [] f 0 0 _
  repeat' (first | (exact hl0) | (refine ky_ok_stp rfl ?_; simp (disch := first | omega | assumption) only [ky_stp, ky_inv, ky_ldi, ky_ldl, ky_ldd, ky_lda, ky_cl2, ky_st1, ky_st2, ky_s1i, ky_s2i, ky_s1l, ky_s2l, ky_sli, ky_s1f, ky_s2f, ky_s1d, ky_s2d, ky_sr, ky_sai, ky_sasi, ky_sasl, ky_sasr, ky_svr, ky_sv, ky_sv2, ky_s1, ky_cs, ky_pop, ky_nth, ky_snt, ky_obj, ky_ari, ky_arl, ky_arr, ky_arn, ky_fv, ky_rcv, List.map_cons, List.map_nil, List.drop_succ_cons, List.drop_zero, Value.category, Nat.reduceAdd, Nat.reduceSub, true_and, and_true, true_or, or_true, reduceCtorEq, ite_true, ite_false, eq_self, Nat.reduceEqDiff, Nat.reduceLeDiff, nI_add, nI_1, nI_leI, nI_ltI, nI_eq, nI_clamp, kz_m1, kz_mn, kz_mn2, kz_n0, kz_0n, kz_0, kz_le0, kz_0lt, false_implies, true_implies, not_false_eq_true, not_true_eq_false, Nat.zero_le, kb_0, kz_10, kz_of, ky_sw, kz_mx, kz_mi]) | (refine ⟨vp_in_nI (by omega) (by omega), ?_⟩) | (refine ⟨fun zc => ?_, fun zc => ?_⟩ <;> try (exfalso; omega)) | fail)
end KXE
