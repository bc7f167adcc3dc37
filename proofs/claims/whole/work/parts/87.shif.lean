/-! ## the reference: a branch is shifted -/
theorem kE_u {L : Nat → Int32} {lv : Int32} {m i x : Nat} (h1 : i ≤ x) (h2 : x ≤ i + m) (h3 : ∀ t, i ≤ t → t < x → lv < L t) (h4 : x < i + m → ¬ lv < L x) : kE L lv i m = x := by
  obtain ⟨s1, s2⟩ := kE_sp L lv m i
  obtain ⟨w1, w2⟩ := kE_le L lv m i
  by_cases e : kE L lv i m < x
  · exact absurd (h3 _ w1 e) (s2 (by omega))
  · by_cases e2 : x < kE L lv i m
    · exact absurd (s1 x h1 e2) (h4 (by omega))
    · omega
/-- an end, once a branch is out -/
theorem kEnd_out {z : kZ} {p t t' : Nat} {L1 : Nat → Int32} (hp : p < z.n) (ht : t < z.n) (hd : t < p ∨ kEnd z p ≤ t) (hL : ∀ i, i < z.n - (kEnd z p - p) → L1 i = kL z.R (if i < p then i else i + (kEnd z p - p))) (ht' : t' = if p < t then t - (kEnd z p - p) else t) : kE L1 (L1 t') (t' + 1) (z.n - (kEnd z p - p) - (t' + 1)) = if kEnd z t ≤ p then kEnd z t else kEnd z t - (kEnd z p - p) := by
  obtain ⟨p1, p2⟩ := kEnd_le hp
  obtain ⟨t1, t2⟩ := kEnd_le ht
  have sp := kE_sp (kL z.R) (kL z.R p) (z.n - (p + 1)) (p + 1)
  have st := kE_sp (kL z.R) (kL z.R t) (z.n - (t + 1)) (t + 1)
  rw [show kE (kL z.R) (kL z.R p) (p + 1) (z.n - (p + 1)) = kEnd z p from rfl] at sp
  rw [show kE (kL z.R) (kL z.R t) (t + 1) (z.n - (t + 1)) = kEnd z t from rfl] at st
  have hlt : L1 t' = kL z.R t := by
    rw [hL t' (by split at ht' <;> omega)]
    congr 1
    split at ht' <;> split <;> omega
  rw [hlt]
  by_cases c0 : kEnd z p ≤ t
  · rw [if_pos (by omega)] at ht'
    rw [if_neg (by omega)]
    refine kE_u (by omega) (by omega) (fun i i1 i2 => ?_) (fun h => ?_)
    · rw [hL i (by omega), if_neg (by omega)]
      exact st.1 _ (by omega) (by omega)
    · rw [hL _ (by omega), if_neg (by omega), Nat.sub_add_cancel (by omega)]
      exact st.2 (by omega)
  · have c1 : t < p := by omega
    rw [if_neg (by omega)] at ht'
    subst ht'
    by_cases c2 : kEnd z t' ≤ p
    · rw [if_pos c2]
      refine kE_u (by omega) (by omega) (fun i i1 i2 => ?_) (fun h => ?_)
      · rw [hL i (by omega), if_pos (by omega)]
        exact st.1 _ i1 i2
      · rw [hL _ (by omega)]
        by_cases c3 : kEnd z t' < p
        · rw [if_pos c3]; exact st.2 (by omega)
        · have c4 : kEnd z t' = p := by omega
          rw [if_neg c3, c4, show p + (kEnd z p - p) = kEnd z p by omega]
          have q1 := st.2 (by omega)
          rw [c4] at q1
          have q2 := sp.2 (by omega)
          exact fun w => q2 (kli (Int32.not_lt.mp q1) w)
    · rw [if_neg c2]
      have q1 := st.1 p (by omega) (by omega)
      have c3 : kEnd z p ≤ kEnd z t' := by
        by_cases e : kEnd z p ≤ kEnd z t'
        · exact e
        · have q2 := sp.1 (kEnd z t') (by omega) (by omega)
          exact absurd (kil q1 (Int32.le_of_lt q2)) (st.2 (by omega))
      refine kE_u (by omega) (by omega) (fun i i1 i2 => ?_) (fun h => ?_)
      · rw [hL i (by omega)]
        by_cases c4 : i < p
        · rw [if_pos c4]; exact st.1 _ i1 (by omega)
        · rw [if_neg c4]; exact st.1 _ (by omega) (by omega)
      · rw [hL _ (by omega), if_neg (by omega), Nat.sub_add_cancel (by omega)]
        exact st.2 (by omega)
theorem kPB_out {z : kZ} {p t t' w : Nat} {L1 : Nat → Int32} (hp : p < z.n) (ht : t < z.n) (hd : t < p ∨ kEnd z p ≤ t) (hL : ∀ i, i < z.n - (kEnd z p - p) → L1 i = kL z.R (if i < p then i else i + (kEnd z p - p))) (ht' : t' = if p < t then t - (kEnd z p - p) else t) : kPB L1 (z.n - (kEnd z p - p)) (t' + 1) w = if kTo2 z t w ≤ p then kTo2 z t w else kTo2 z t w - (kEnd z p - p) := by
  obtain ⟨p1, p2⟩ := kEnd_le hp
  have hE := kEnd_out hp ht hd hL ht'
  rw [kTo2_e]
  unfold kPB
  by_cases w0 : w = 0
  · rw [if_pos w0, if_pos w0, Nat.add_sub_cancel]
    split at ht' <;> split <;> omega
  · rw [if_neg w0, if_neg w0]
    by_cases w2 : w = 2
    · rw [if_pos w2, if_pos w2]
      split at ht' <;> split <;> omega
    · rw [if_neg w2, if_neg w2]
      exact hE
section KXM
variable {adK a : Nat → Nat} {f : ky_H} {Q : ky_Q} {g r B : Nat → Int32} {p w n l i j t e m b : Nat} {x y v : Int32} {z : kZ}
theorem kx256 (ha : kI a) (hM : kMo a f g) (hr : f (a 171) = some (.inl (1, 388, .inl r))) (hB : f (a 184) = some (.inl (1, 360, .inl B))) (hL : kRlv r z.n (kL z.R)) (hp : p < z.n) (ht : t < z.n) (hw : w ≤ 3) (hd : t < p ∨ kEnd z p ≤ t) (hto : (kTo2 z t w ≤ p ∨ kEnd z p ≤ kTo2 z t w) ∧ kTo2 z t w ≤ z.n)
    (hQ : ∀ f' T B', f' (a 171) = some (.inl (1, 388, .inl T)) → f' (a 184) = some (.inl (1, 360, .inl B')) → T 0 = nI z.n → (∀ t, t < 28 → T t = r t) → (∀ j u, u < 6 → j < z.n → T (28 + 6 * j + u) = if p ≤ kMi p (kEnd z p) (kTo2 z t w) j ∧ kMi p (kEnd z p) (kTo2 z t w) j < kEnd z p ∧ u = 0 then r (28 + 6 * kMi p (kEnd z p) (kTo2 z t w) j) + (kLB (kL z.R) (t + 1) w - kL z.R p) else r (28 + 6 * kMi p (kEnd z p) (kTo2 z t w) j + u)) → kfr a f f' kTF → Q (.inl (some (.int (nI (if kTo2 z t w ≤ p then kTo2 z t w else kTo2 z t w - (kEnd z p - p)))))) f') : ky_cl adK 256 [.ref (a 170), .int (nI p), .int (nI t), .int (nI w)] f Q := by
  obtain ⟨hn, h0, hl⟩ := id hL
  obtain ⟨p1, p2⟩ := kEnd_le hp
  have hE : kE (kL z.R) (kL z.R p) (p + 1) (z.n - (p + 1)) = kEnd z p := rfl
  have es : nI (kEnd z p) - nI p = nI (kEnd z p - p) := nI_sub (by omega)
  have ep : p + (kEnd z p - p) = kEnd z p := by omega
  have hlp := hl p hp
  generalize hto2 : kTo2 z t w = T2 at hto hQ
  have mh := hM; unfold kMo at mh
  refine ⟨Nat.le_of_ble_eq_true rfl, fun z => absurd z (by decide), ?_⟩; show ky_ok adK 256 0 [some (.ref (a 170)), some (.int (nI p)), some (.int (nI t)), some (.int (nI w)), none, none, none] [] f 0 0 _
  repeat' (first | (refine kx177 hM hr hL hp ?_; simp only [ky_aft, ky_vl, Nat.reduceAdd]) | (refine kx251 hM hr hL ht hw ?_; simp only [ky_aft, ky_vl, Nat.reduceAdd]) | (refine kx175 hM hr (show p < 60 by omega) ?_; simp only [ky_aft, ky_vl, Nat.reduceAdd]) | (refine kx253 (b := 1) ha hM hr hB h0 hn (show p < kEnd z p by omega) p2 (by decide) ?_) | (refine ky_ok_stp rfl ?_; simp (disch := first | omega | assumption) only [ky_stp, ky_inv, ky_ldi, ky_ldl, ky_ldd, ky_lda, ky_cl2, ky_st1, ky_st2, ky_s1i, ky_s2i, ky_s1l, ky_s2l, ky_sli, ky_s1f, ky_s2f, ky_s1d, ky_s2d, ky_sr, ky_sai, ky_sasi, ky_sasl, ky_sasr, ky_svr, ky_sv, ky_sv2, ky_s1, ky_cs, ky_pop, ky_nth, ky_snt, ky_obj, ky_ari, ky_arl, ky_arr, ky_arn, ky_fv, ky_rcv, List.map_cons, List.map_nil, List.drop_succ_cons, List.drop_zero, Value.category, Nat.reduceAdd, Nat.reduceSub, true_and, and_true, true_or, or_true, reduceCtorEq, ite_true, ite_false, eq_self, Nat.reduceEqDiff, Nat.reduceLeDiff, nI_add, nI_1, nI_leI, nI_ltI, nI_eq, nI_clamp, kz_m1, kz_mn, kz_mn2, kz_n0, kz_0n, kz_0, kz_le0, kz_0lt, false_implies, true_implies, not_false_eq_true, not_true_eq_false, Nat.zero_le, kb_0, kz_10, kz_of, ky_sw, kz_mx, kz_mi, mh, hE, es, ep, hlp]) | (refine ⟨vp_in_nI (by omega) (by omega), ?_⟩) | (refine ⟨fun zc => ?_, fun zc => ?_⟩ <;> try (exfalso; omega)) | fail)
  intro f1 T1 B1 h171 h184 q0 qx qy qb hF1
  have qb := qb rfl
  simp only [ky_aft, ky_vl, Nat.reduceAdd]
  have hM1 := kMo_fq hM hF1 (by unfold kTF; omega)
  have hL1 : kRlv T1 (z.n - (kEnd z p - p)) (fun i => kL z.R (if i < p then i else i + (kEnd z p - p))) := ⟨by omega, q0, fun i hi => by
    have := qy i 0 (by omega) hi
    rw [Nat.add_zero, Nat.add_zero] at this
    rw [this]
    exact hl _ (by split <;> omega)⟩
  have mh1 := hM1
  unfold kMo at mh1
  have hts : p < t → nI t - nI (kEnd z p - p) = nI (t - (kEnd z p - p)) := fun h => nI_sub (by omega)
  have tail : ∀ t', t' = (if p < t then t - (kEnd z p - p) else t) → ky_ok adK 256 47 [some (.ref (a 170)), some (.int (nI p)), some (.int (nI t)), some (.int (nI w)), some (.int (nI (kEnd z p - p))), some (.int (kLB (kL z.R) (t + 1) w - kL z.R p)), none] [.int (nI t'), .ref (a 170)] f1 0 0 Q := by
    intro t' ht'
    have hPB := kPB_out (w := w) hp ht hd (fun i hi => rfl) ht'
    rw [hto2] at hPB
    have ht'n : t' < z.n - (kEnd z p - p) := by split at ht' <;> omega
    generalize hto1 : (if T2 ≤ p then T2 else T2 - (kEnd z p - p)) = T3 at hPB hQ
    have hT3 : T3 ≤ z.n - (kEnd z p - p) := by split at hto1 <;> omega
    repeat' (first | (refine kx255 hM1 h171 hL1 ht'n hw ?_; simp only [ky_aft, ky_vl, Nat.reduceAdd]) | (refine kx254 ha hM1 h171 h184 q0 (by omega) hT3 (by omega) ?_) | (refine ky_ok_stp rfl ?_; simp (disch := first | omega | assumption) only [ky_stp, ky_inv, ky_ldi, ky_ldl, ky_ldd, ky_lda, ky_cl2, ky_st1, ky_st2, ky_s1i, ky_s2i, ky_s1l, ky_s2l, ky_sli, ky_s1f, ky_s2f, ky_s1d, ky_s2d, ky_sr, ky_sai, ky_sasi, ky_sasl, ky_sasr, ky_svr, ky_sv, ky_sv2, ky_s1, ky_cs, ky_pop, ky_nth, ky_snt, ky_obj, ky_ari, ky_arl, ky_arr, ky_arn, ky_fv, ky_rcv, List.map_cons, List.map_nil, List.drop_succ_cons, List.drop_zero, Value.category, Nat.reduceAdd, Nat.reduceSub, true_and, and_true, true_or, or_true, reduceCtorEq, ite_true, ite_false, eq_self, Nat.reduceEqDiff, Nat.reduceLeDiff, nI_add, nI_1, nI_leI, nI_ltI, nI_eq, nI_clamp, kz_m1, kz_mn, kz_mn2, kz_n0, kz_0n, kz_0, kz_le0, kz_0lt, false_implies, true_implies, not_false_eq_true, not_true_eq_false, Nat.zero_le, kb_0, kz_10, kz_of, ky_sw, kz_mx, kz_mi, mh1, hPB]) | (refine ⟨vp_in_nI (by omega) (by omega), ?_⟩) | (refine ⟨fun zc => ?_, fun zc => ?_⟩ <;> try (exfalso; omega)) | fail)
    intro f2 T4 h171' r0 rx ry hF2
    simp only [ky_aft, ky_vl, Nat.reduceAdd]
    repeat' (first | (refine ky_ok_stp rfl ?_; simp (disch := first | omega | assumption) only [ky_stp, ky_inv, ky_ldi, ky_ldl, ky_ldd, ky_lda, ky_cl2, ky_st1, ky_st2, ky_s1i, ky_s2i, ky_s1l, ky_s2l, ky_sli, ky_s1f, ky_s2f, ky_s1d, ky_s2d, ky_sr, ky_sai, ky_sasi, ky_sasl, ky_sasr, ky_svr, ky_sv, ky_sv2, ky_s1, ky_cs, ky_pop, ky_nth, ky_snt, ky_obj, ky_ari, ky_arl, ky_arr, ky_arn, ky_fv, ky_rcv, List.map_cons, List.map_nil, List.drop_succ_cons, List.drop_zero, Value.category, Nat.reduceAdd, Nat.reduceSub, true_and, and_true, true_or, or_true, reduceCtorEq, ite_true, ite_false, eq_self, Nat.reduceEqDiff, Nat.reduceLeDiff, nI_add, nI_1, nI_leI, nI_ltI, nI_eq, nI_clamp, kz_m1, kz_mn, kz_mn2, kz_n0, kz_0n, kz_0, kz_le0, kz_0lt, false_implies, true_implies, not_false_eq_true, not_true_eq_false, Nat.zero_le, kb_0, kz_10, kz_of, ky_sw, kz_mx, kz_mi]) | (refine ⟨vp_in_nI (by omega) (by omega), ?_⟩) | (refine ⟨fun zc => ?_, fun zc => ?_⟩ <;> try (exfalso; omega)) | fail)
    refine hQ f2 T4 B1 h171' ((hF2 184 (by omega)).trans h184) (by rw [r0]; congr 1; omega) (fun t ht => ?_) (fun j u hu hj => ?_) (kfr_tr hF1 hF2 fun j hj => ⟨hj, fun w => hj (Or.inl w)⟩)
    · by_cases e : t = 0
      · rw [e, r0, h0]; congr 1; omega
      · rw [rx t ht e, qx t ht e]
    · rw [ry j u hu (by omega)]
      unfold kMi
      by_cases c0 : T2 ≤ p
      · rw [if_pos c0] at hto1
        rw [if_pos c0]
        by_cases c1 : j < T3
        · rw [if_pos c1, if_pos (show j < T2 by omega), if_neg (by omega), qy j u hu (by omega), if_pos (by omega)]
        · rw [if_neg c1, if_neg (show ¬ j < T2 by omega)]
          by_cases c2 : j < T3 + (kEnd z p - p)
          · rw [if_pos c2, if_pos (show j + p < T2 + kEnd z p by omega)]
            by_cases cu : u = 0
            · rw [if_pos cu, if_pos ⟨by omega, by omega, cu⟩]
              have := qb (j - T3) 0 (by omega) (by omega)
              rw [Nat.add_zero, Nat.add_zero] at this
              rw [this, show p + (j - T3) = j + p - T2 by omega]
            · rw [if_neg cu, if_neg (fun w => cu w.2.2), qb (j - T3) u hu (by omega), show p + (j - T3) = j + p - T2 by omega]
          · rw [if_neg c2, if_neg (show ¬ j + p < T2 + kEnd z p by omega), qy _ u hu (by omega)]
            by_cases c3 : j < kEnd z p
            · rw [if_pos c3, if_pos (show j - (kEnd z p - p) < p by omega), if_neg (by omega), show j - (kEnd z p - p) = j + p - kEnd z p by omega]
            · rw [if_neg c3, if_neg (by omega), if_neg (by omega), Nat.sub_add_cancel (by omega)]
      · rw [if_neg c0] at hto1
        rw [if_neg c0]
        by_cases c1 : j < T3
        · rw [if_pos c1, qy j u hu (by omega)]
          by_cases c2 : j < p
          · rw [if_pos c2, if_pos c2, if_neg (by omega)]
          · rw [if_neg c2, if_neg c2, if_pos (show j + kEnd z p < p + T2 by omega), if_neg (by omega), show j + (kEnd z p - p) = j + kEnd z p - p by omega]
        · rw [if_neg c1, if_neg (show ¬ j < p by omega), if_neg (show ¬ j + kEnd z p < p + T2 by omega)]
          by_cases c2 : j < T3 + (kEnd z p - p)
          · rw [if_pos c2, if_pos (show j < T2 by omega)]
            by_cases cu : u = 0
            · rw [if_pos cu, if_pos ⟨by omega, by omega, cu⟩]
              have := qb (j - T3) 0 (by omega) (by omega)
              rw [Nat.add_zero, Nat.add_zero] at this
              rw [this, show p + (j - T3) = j + kEnd z p - T2 by omega]
            · rw [if_neg cu, if_neg (fun w => cu w.2.2), qb (j - T3) u hu (by omega), show p + (j - T3) = j + kEnd z p - T2 by omega]
          · rw [if_neg c2, if_neg (show ¬ j < T2 by omega), qy _ u hu (by omega), if_neg (by omega), if_neg (by omega), Nat.sub_add_cancel (by omega)]
  by_cases hpt : p < t
  · have ht := tail _ rfl
    rw [if_pos hpt] at ht
    repeat' (first | (exact ht) | (refine ky_ok_stp rfl ?_; simp (disch := first | omega | assumption) only [ky_stp, ky_inv, ky_ldi, ky_ldl, ky_ldd, ky_lda, ky_cl2, ky_st1, ky_st2, ky_s1i, ky_s2i, ky_s1l, ky_s2l, ky_sli, ky_s1f, ky_s2f, ky_s1d, ky_s2d, ky_sr, ky_sai, ky_sasi, ky_sasl, ky_sasr, ky_svr, ky_sv, ky_sv2, ky_s1, ky_cs, ky_pop, ky_nth, ky_snt, ky_obj, ky_ari, ky_arl, ky_arr, ky_arn, ky_fv, ky_rcv, List.map_cons, List.map_nil, List.drop_succ_cons, List.drop_zero, Value.category, Nat.reduceAdd, Nat.reduceSub, true_and, and_true, true_or, or_true, reduceCtorEq, ite_true, ite_false, eq_self, Nat.reduceEqDiff, Nat.reduceLeDiff, nI_add, nI_1, nI_leI, nI_ltI, nI_eq, nI_clamp, kz_m1, kz_mn, kz_mn2, kz_n0, kz_0n, kz_0, kz_le0, kz_0lt, false_implies, true_implies, not_false_eq_true, not_true_eq_false, Nat.zero_le, kb_0, kz_10, kz_of, ky_sw, kz_mx, kz_mi, mh1, hts hpt]) | (refine ⟨vp_in_nI (by omega) (by omega), ?_⟩) | (refine ⟨fun zc => ?_, fun zc => ?_⟩ <;> try (exfalso; omega)) | fail)
  · have ht := tail _ rfl
    rw [if_neg hpt] at ht
    repeat' (first | (exact ht) | (refine ky_ok_stp rfl ?_; simp (disch := first | omega | assumption) only [ky_stp, ky_inv, ky_ldi, ky_ldl, ky_ldd, ky_lda, ky_cl2, ky_st1, ky_st2, ky_s1i, ky_s2i, ky_s1l, ky_s2l, ky_sli, ky_s1f, ky_s2f, ky_s1d, ky_s2d, ky_sr, ky_sai, ky_sasi, ky_sasl, ky_sasr, ky_svr, ky_sv, ky_sv2, ky_s1, ky_cs, ky_pop, ky_nth, ky_snt, ky_obj, ky_ari, ky_arl, ky_arr, ky_arn, ky_fv, ky_rcv, List.map_cons, List.map_nil, List.drop_succ_cons, List.drop_zero, Value.category, Nat.reduceAdd, Nat.reduceSub, true_and, and_true, true_or, or_true, reduceCtorEq, ite_true, ite_false, eq_self, Nat.reduceEqDiff, Nat.reduceLeDiff, nI_add, nI_1, nI_leI, nI_ltI, nI_eq, nI_clamp, kz_m1, kz_mn, kz_mn2, kz_n0, kz_0n, kz_0, kz_le0, kz_0lt, false_implies, true_implies, not_false_eq_true, not_true_eq_false, Nat.zero_le, kb_0, kz_10, kz_of, ky_sw, kz_mx, kz_mi, mh1]) | (refine ⟨vp_in_nI (by omega) (by omega), ?_⟩) | (refine ⟨fun zc => ?_, fun zc => ?_⟩ <;> try (exfalso; omega)) | fail)
end KXM
