/-! ## the reference: rows taken out and put in -/
theorem kz_ix {i w k u : Nat} (hw : w < 6) (hu : u < 6) : 28 + 6 * i + w = 28 + 6 * k + u ↔ i = k ∧ w = u := by omega
/-- rows read behind a hole -/
theorem kcp_rw {r : Nat → Int32} {p e n i w : Nat} (hpe : p < e) (hen : e ≤ n) (hi : i < n - (e - p)) (hw : w < 6) : kcp r r (28 + 6 * e) (28 + 6 * p) (6 * (n - e)) (28 + 6 * i + w) = r (28 + 6 * (if i < p then i else i + (e - p)) + w) := by
  unfold kcp
  by_cases h : i < p
  · rw [if_neg (by omega), if_pos h]
  · rw [if_pos (by omega), if_neg h]
    congr 1
    omega
section KXM
variable {adK a : Nat → Nat} {f : ky_H} {Q : ky_Q} {g r B : Nat → Int32} {p w n l i j t e m b : Nat} {x y v : Int32} {z : kZ}
theorem kMo_fq {f' : ky_H} {S : Nat → Prop} (h : kMo a f g) (hF : kfr a f f' S) (hS : ¬ S 170) : kMo a f' g := (hF 170 hS).trans h
def kTF (j : Nat) : Prop := j = 171 ∨ j = 184
theorem kx253 (ha : kI a) (hM : kMo a f g) (hr : f (a 171) = some (.inl (1, 388, .inl r))) (hB : f (a 184) = some (.inl (1, 360, .inl B))) (h0 : r 0 = nI n) (h60 : n ≤ 60) (hpe : p < e) (hen : e ≤ n) (hb : b < 2)
    (hQ : ∀ f' T B', f' (a 171) = some (.inl (1, 388, .inl T)) → f' (a 184) = some (.inl (1, 360, .inl B')) → T 0 = nI (n - (e - p)) → (∀ t, t < 28 → t ≠ 0 → T t = r t) → (∀ i w, w < 6 → i < n - (e - p) → T (28 + 6 * i + w) = r (28 + 6 * (if i < p then i else i + (e - p)) + w)) → (b = 1 → ∀ i w, w < 6 → i < e - p → B' (6 * i + w) = r (28 + 6 * (p + i) + w)) → kfr a f f' kTF → Q (.inl none) f') : ky_cl adK 253 [.ref (a 170), .int (nI p), .int (nI e), .int (nI b)] f Q := by
  -- the end
  have fin : ∀ f1 T B1 v1 v2, f1 (a 171) = some (.inl (1, 388, .inl T)) → f1 (a 184) = some (.inl (1, 360, .inl B1)) → (∀ t, T t = kcp r r (28 + 6 * e) (28 + 6 * p) (6 * (n - e)) t) → (b = 1 → ∀ i w, w < 6 → i < e - p → B1 (6 * i + w) = r (28 + 6 * (p + i) + w)) → kfr a f f1 kTF → v1 = some (.int (nI n)) → ky_ok adK 253 61 [some (.ref (a 170)), some (.int (nI p)), some (.int (nI e)), some (.int (nI b)), v1, v2] [] f1 0 0 Q := by
    intro f1 T B1 v1 v2 hT hB1 hx hy hF hv
    subst hv
    have hM1 := kMo_fq hM hF (by unfold kTF; omega)
    have hT0 : T 0 = nI n := by rw [hx, kcp, if_neg (by omega)]; exact h0
    have mh := hM1; unfold kMo at mh
    have hq := hQ (ky_up f1 (a 171) (.inl (1, 388, .inl (upd T 0 (nI (n - (e - p))))))) _ B1 kz_same (by simp (disch := first | omega | assumption) only [kz_up, kI_ne ha, hB1, ite_false]) (by rw [pk_us]) (fun t ht ht0 => by rw [pk_un ht0, hx, kcp, if_neg (by omega)]) (fun i w hw hi => by rw [pk_un (by omega), hx]; exact kcp_rw hpe hen hi hw) hy (kfr_up ha hF (by unfold kTF; omega))
    have es : nI e - nI p = nI (e - p) := nI_sub (by omega)
    have es2 : nI n - nI (e - p) = nI (n - (e - p)) := nI_sub (by omega)
    repeat' (first | (refine kx172 hM1 hT ?_; simp only [ky_aft, ky_vl, Nat.reduceAdd]) | (refine ⟨vp_in_nI (n := 0) (by omega) (by omega), ?_⟩) | (refine ky_ok_stp rfl ?_; simp (disch := first | omega | assumption) only [ky_stp, ky_inv, ky_ldi, ky_ldl, ky_ldd, ky_lda, ky_cl2, ky_st1, ky_st2, ky_s1i, ky_s2i, ky_s1l, ky_s2l, ky_sli, ky_s1f, ky_s2f, ky_s1d, ky_s2d, ky_sr, ky_sai, ky_sasi, ky_sasl, ky_sasr, ky_svr, ky_sv, ky_sv2, ky_s1, ky_cs, ky_pop, ky_nth, ky_snt, ky_obj, ky_ari, ky_arl, ky_arr, ky_arn, ky_fv, ky_rcv, List.map_cons, List.map_nil, List.drop_succ_cons, List.drop_zero, Value.category, Nat.reduceAdd, Nat.reduceSub, true_and, and_true, true_or, or_true, reduceCtorEq, ite_true, ite_false, eq_self, Nat.reduceEqDiff, Nat.reduceLeDiff, nI_add, nI_1, nI_leI, nI_ltI, nI_eq, nI_clamp, kz_m1, kz_mn, kz_mn2, kz_n0, kz_0n, kz_0, kz_le0, kz_0lt, false_implies, true_implies, not_false_eq_true, not_true_eq_false, Nat.zero_le, kb_0, kz_10, kz_of, ky_sw, kz_mx, kz_mi, mh, hT, hT0, es, es2, kz_c0]) | (refine ⟨vp_in_nI (by omega) (by omega), ?_⟩) | (refine ⟨fun zc => ?_, fun zc => ?_⟩ <;> try (exfalso; omega)) | fail)
    exact hq
  -- the rows behind
  have lp2 : ∀ m k u f1 T B1, 7 * (n - k) - u ≤ m → u ≤ 6 → e ≤ k → k < n → f1 (a 171) = some (.inl (1, 388, .inl T)) → f1 (a 184) = some (.inl (1, 360, .inl B1)) → (∀ t, T t = kcp r r (28 + 6 * e) (28 + 6 * p) (6 * (k - e) + u) t) → (b = 1 → ∀ i w, w < 6 → i < e - p → B1 (6 * i + w) = r (28 + 6 * (p + i) + w)) → kfr a f f1 kTF → ky_ok adK 253 73 [some (.ref (a 170)), some (.int (nI p)), some (.int (nI e)), some (.int (nI b)), some (.int (nI k)), some (.int (nI u))] [] f1 0 0 Q := by
    intro m
    induction m with
    | zero => intro k u f1 T B1 hm; omega
    | succ m ih =>
      intro k u f1 T B1 hm hu hk hkn hT hB1 hx hy hF
      have hM1 := kMo_fq hM hF (by unfold kTF; omega)
      have hT0 : T 0 = nI n := by rw [hx, kcp, if_neg (by omega)]; exact h0
      have mh := hM1; unfold kMo at mh
      by_cases hu6 : u < 6
      · have hv : T (28 + 6 * k + u) = r (28 + 6 * k + u) := by rw [hx, kcp, if_neg (by omega)]
        have hi := ih k (u + 1) (ky_up f1 (a 171) (.inl (1, 388, .inl (upd T (28 + 6 * (k - e + p) + u) (T (28 + 6 * k + u)))))) _ B1 (by omega) (by omega) hk hkn kz_same (by simp (disch := first | omega | assumption) only [kz_up, kI_ne ha, hB1, ite_false]) (fun t => by
          have hs := kcp_s r r (28 + 6 * e) (28 + 6 * p) (6 * (k - e) + u) t
          rw [show 28 + 6 * e + (6 * (k - e) + u) = 28 + 6 * k + u by omega, show 28 + 6 * p + (6 * (k - e) + u) = 28 + 6 * (k - e + p) + u by omega] at hs
          rw [show 6 * (k - e) + (u + 1) = 6 * (k - e) + u + 1 by omega, ← hs, hv]
          by_cases et : t = 28 + 6 * (k - e + p) + u
          · rw [et, pk_us, pk_us]
          · rw [pk_un et, pk_un et]; exact hx t) hy (kfr_up ha hF (by unfold kTF; omega))
        have es : nI k - nI e = nI (k - e) := nI_sub (by omega)
        repeat' (first | (refine kx173 hM1 hT (show k < 60 by omega) hu6 ?_; simp only [ky_aft, ky_vl, Nat.reduceAdd]) | ((refine kx174 hM1 hT (show k - e + p < 60 by omega) hu6 ?_; simp only [ky_aft, ky_vl, Nat.reduceAdd])) | (exact hi) | (refine ky_ok_stp rfl ?_; simp (disch := first | omega | assumption) only [ky_stp, ky_inv, ky_ldi, ky_ldl, ky_ldd, ky_lda, ky_cl2, ky_st1, ky_st2, ky_s1i, ky_s2i, ky_s1l, ky_s2l, ky_sli, ky_s1f, ky_s2f, ky_s1d, ky_s2d, ky_sr, ky_sai, ky_sasi, ky_sasl, ky_sasr, ky_svr, ky_sv, ky_sv2, ky_s1, ky_cs, ky_pop, ky_nth, ky_snt, ky_obj, ky_ari, ky_arl, ky_arr, ky_arn, ky_fv, ky_rcv, List.map_cons, List.map_nil, List.drop_succ_cons, List.drop_zero, Value.category, Nat.reduceAdd, Nat.reduceSub, true_and, and_true, true_or, or_true, reduceCtorEq, ite_true, ite_false, eq_self, Nat.reduceEqDiff, Nat.reduceLeDiff, nI_add, nI_1, nI_leI, nI_ltI, nI_eq, nI_clamp, kz_m1, kz_mn, kz_mn2, kz_n0, kz_0n, kz_0, kz_le0, kz_0lt, false_implies, true_implies, not_false_eq_true, not_true_eq_false, Nat.zero_le, kb_0, kz_10, kz_of, ky_sw, kz_mx, kz_mi, mh, es, kz_6]) | (refine ⟨vp_in_nI (by omega) (by omega), ?_⟩) | (refine ⟨fun zc => ?_, fun zc => ?_⟩ <;> try (exfalso; omega)) | fail)
      · obtain rfl : u = 6 := by omega
        by_cases hk1 : k + 1 < n
        · have hi := ih (k + 1) 0 f1 T B1 (by omega) (by omega) (by omega) hk1 hT hB1 (fun t => by rw [hx, show 6 * (k + 1 - e) + 0 = 6 * (k - e) + 6 by omega]) hy hF
          repeat' (first | (refine kx172 hM1 hT ?_; simp only [ky_aft, ky_vl, Nat.reduceAdd]) | (exact hi) | (refine ky_ok_stp rfl ?_; simp (disch := first | omega | assumption) only [ky_stp, ky_inv, ky_ldi, ky_ldl, ky_ldd, ky_lda, ky_cl2, ky_st1, ky_st2, ky_s1i, ky_s2i, ky_s1l, ky_s2l, ky_sli, ky_s1f, ky_s2f, ky_s1d, ky_s2d, ky_sr, ky_sai, ky_sasi, ky_sasl, ky_sasr, ky_svr, ky_sv, ky_sv2, ky_s1, ky_cs, ky_pop, ky_nth, ky_snt, ky_obj, ky_ari, ky_arl, ky_arr, ky_arn, ky_fv, ky_rcv, List.map_cons, List.map_nil, List.drop_succ_cons, List.drop_zero, Value.category, Nat.reduceAdd, Nat.reduceSub, true_and, and_true, true_or, or_true, reduceCtorEq, ite_true, ite_false, eq_self, Nat.reduceEqDiff, Nat.reduceLeDiff, nI_add, nI_1, nI_leI, nI_ltI, nI_eq, nI_clamp, kz_m1, kz_mn, kz_mn2, kz_n0, kz_0n, kz_0, kz_le0, kz_0lt, false_implies, true_implies, not_false_eq_true, not_true_eq_false, Nat.zero_le, kb_0, kz_10, kz_of, ky_sw, kz_mx, kz_mi, mh, hT0, kz_6]) | (refine ⟨vp_in_nI (by omega) (by omega), ?_⟩) | (refine ⟨fun zc => ?_, fun zc => ?_⟩ <;> try (exfalso; omega)) | fail)
        · have hf := fin f1 T B1 (some (.int (nI (k + 1)))) (some (.int (nI 6))) hT hB1 (fun t => by rw [hx, show 6 * (n - e) = 6 * (k - e) + 6 by omega]) hy hF (by rw [show k + 1 = n by omega])
          repeat' (first | (exact hf) | (refine ky_ok_stp rfl ?_; simp (disch := first | omega | assumption) only [ky_stp, ky_inv, ky_ldi, ky_ldl, ky_ldd, ky_lda, ky_cl2, ky_st1, ky_st2, ky_s1i, ky_s2i, ky_s1l, ky_s2l, ky_sli, ky_s1f, ky_s2f, ky_s1d, ky_s2d, ky_sr, ky_sai, ky_sasi, ky_sasl, ky_sasr, ky_svr, ky_sv, ky_sv2, ky_s1, ky_cs, ky_pop, ky_nth, ky_snt, ky_obj, ky_ari, ky_arl, ky_arr, ky_arn, ky_fv, ky_rcv, List.map_cons, List.map_nil, List.drop_succ_cons, List.drop_zero, Value.category, Nat.reduceAdd, Nat.reduceSub, true_and, and_true, true_or, or_true, reduceCtorEq, ite_true, ite_false, eq_self, Nat.reduceEqDiff, Nat.reduceLeDiff, nI_add, nI_1, nI_leI, nI_ltI, nI_eq, nI_clamp, kz_m1, kz_mn, kz_mn2, kz_n0, kz_0n, kz_0, kz_le0, kz_0lt, false_implies, true_implies, not_false_eq_true, not_true_eq_false, Nat.zero_le, kb_0, kz_10, kz_of, ky_sw, kz_mx, kz_mi, mh, kz_6]) | (refine ⟨vp_in_nI (by omega) (by omega), ?_⟩) | (refine ⟨fun zc => ?_, fun zc => ?_⟩ <;> try (exfalso; omega)) | fail)
  have st2 : ∀ f1 B1 v2, f1 (a 171) = some (.inl (1, 388, .inl r)) → f1 (a 184) = some (.inl (1, 360, .inl B1)) → (b = 1 → ∀ i w, w < 6 → i < e - p → B1 (6 * i + w) = r (28 + 6 * (p + i) + w)) → kfr a f f1 kTF → ky_ok adK 253 61 [some (.ref (a 170)), some (.int (nI p)), some (.int (nI e)), some (.int (nI b)), some (.int (nI e)), v2] [] f1 0 0 Q := by
    intro f1 B1 v2 hT hB1 hy hF
    by_cases hk1 : e < n
    · have hM1 := kMo_fq hM hF (by unfold kTF; omega)
      have mh := hM1; unfold kMo at mh
      have hi := lp2 _ e 0 f1 r B1 (Nat.le_refl _) (by omega) (Nat.le_refl _) hk1 hT hB1 (fun t => by rw [Nat.sub_self]; exact (kcp_0 r r _ _ t).symm) hy hF
      repeat' (first | (refine kx172 hM1 hT ?_; simp only [ky_aft, ky_vl, Nat.reduceAdd]) | (exact hi) | (refine ky_ok_stp rfl ?_; simp (disch := first | omega | assumption) only [ky_stp, ky_inv, ky_ldi, ky_ldl, ky_ldd, ky_lda, ky_cl2, ky_st1, ky_st2, ky_s1i, ky_s2i, ky_s1l, ky_s2l, ky_sli, ky_s1f, ky_s2f, ky_s1d, ky_s2d, ky_sr, ky_sai, ky_sasi, ky_sasl, ky_sasr, ky_svr, ky_sv, ky_sv2, ky_s1, ky_cs, ky_pop, ky_nth, ky_snt, ky_obj, ky_ari, ky_arl, ky_arr, ky_arn, ky_fv, ky_rcv, List.map_cons, List.map_nil, List.drop_succ_cons, List.drop_zero, Value.category, Nat.reduceAdd, Nat.reduceSub, true_and, and_true, true_or, or_true, reduceCtorEq, ite_true, ite_false, eq_self, Nat.reduceEqDiff, Nat.reduceLeDiff, nI_add, nI_1, nI_leI, nI_ltI, nI_eq, nI_clamp, kz_m1, kz_mn, kz_mn2, kz_n0, kz_0n, kz_0, kz_le0, kz_0lt, false_implies, true_implies, not_false_eq_true, not_true_eq_false, Nat.zero_le, kb_0, kz_10, kz_of, ky_sw, kz_mx, kz_mi, mh, h0]) | (refine ⟨vp_in_nI (by omega) (by omega), ?_⟩) | (refine ⟨fun zc => ?_, fun zc => ?_⟩ <;> try (exfalso; omega)) | fail)
    · exact fin f1 r B1 _ v2 hT hB1 (fun t => by rw [show n - e = 0 by omega]; exact (kcp_0 r r _ _ t).symm) hy hF (by rw [show e = n by omega])
  by_cases hb0 : b = 0
  · have hs := st2 f B none hr hB (fun w => by omega) kfr_rf
    refine ⟨Nat.le_of_ble_eq_true rfl, fun z => absurd z (by decide), ?_⟩; show ky_ok adK 253 0 [some (.ref (a 170)), some (.int (nI p)), some (.int (nI e)), some (.int (nI b)), none, none] [] f 0 0 _
    subst hb0
    repeat' (first | (exact hs) | (refine ky_ok_stp rfl ?_; simp (disch := first | omega | assumption) only [ky_stp, ky_inv, ky_ldi, ky_ldl, ky_ldd, ky_lda, ky_cl2, ky_st1, ky_st2, ky_s1i, ky_s2i, ky_s1l, ky_s2l, ky_sli, ky_s1f, ky_s2f, ky_s1d, ky_s2d, ky_sr, ky_sai, ky_sasi, ky_sasl, ky_sasr, ky_svr, ky_sv, ky_sv2, ky_s1, ky_cs, ky_pop, ky_nth, ky_snt, ky_obj, ky_ari, ky_arl, ky_arr, ky_arn, ky_fv, ky_rcv, List.map_cons, List.map_nil, List.drop_succ_cons, List.drop_zero, Value.category, Nat.reduceAdd, Nat.reduceSub, true_and, and_true, true_or, or_true, reduceCtorEq, ite_true, ite_false, eq_self, Nat.reduceEqDiff, Nat.reduceLeDiff, nI_add, nI_1, nI_leI, nI_ltI, nI_eq, nI_clamp, kz_m1, kz_mn, kz_mn2, kz_n0, kz_0n, kz_0, kz_le0, kz_0lt, false_implies, true_implies, not_false_eq_true, not_true_eq_false, Nat.zero_le, kb_0, kz_10, kz_of, ky_sw, kz_mx, kz_mi]) | (refine ⟨vp_in_nI (by omega) (by omega), ?_⟩) | (refine ⟨fun zc => ?_, fun zc => ?_⟩ <;> try (exfalso; omega)) | fail)
  obtain rfl : b = 1 := by omega
  have lp1 : ∀ m k u f1 B1, 7 * (e - k) - u ≤ m → u ≤ 6 → p ≤ k → k < e → f1 (a 171) = some (.inl (1, 388, .inl r)) → f1 (a 184) = some (.inl (1, 360, .inl B1)) → (∀ t, B1 t = kcp r B (28 + 6 * p) 0 (6 * (k - p) + u) t) → kfr a f f1 kTF → ky_ok adK 253 16 [some (.ref (a 170)), some (.int (nI p)), some (.int (nI e)), some (.int (nI 1)), some (.int (nI k)), some (.int (nI u))] [] f1 0 0 Q := by
    intro m
    induction m with
    | zero => intro k u f1 B1 hm; omega
    | succ m ih =>
      intro k u f1 B1 hm hu hk hkn hT hB1 hx hF
      have hM1 := kMo_fq hM hF (by unfold kTF; omega)
      have mh := hM1; unfold kMo at mh
      by_cases hu6 : u < 6
      · have hi := ih k (u + 1) (ky_up f1 (a 184) (.inl (1, 360, .inl (upd B1 (6 * (k - p) + u) (r (28 + 6 * k + u)))))) _ (by omega) (by omega) hk hkn (by simp (disch := first | omega | assumption) only [kz_up, kI_ne ha, hT, ite_false]) kz_same (fun t => by
          have hs := kcp_s r B (28 + 6 * p) 0 (6 * (k - p) + u) t
          rw [show 28 + 6 * p + (6 * (k - p) + u) = 28 + 6 * k + u by omega, Nat.zero_add] at hs
          rw [show 6 * (k - p) + (u + 1) = 6 * (k - p) + u + 1 by omega, ← hs]
          by_cases et : t = 6 * (k - p) + u
          · rw [et, pk_us, pk_us]
          · rw [pk_un et, pk_un et]; exact hx t) (kfr_up ha hF (by unfold kTF; omega))
        have es : nI k - nI p = nI (k - p) := nI_sub (by omega)
        repeat' (first | (refine kx173 hM1 hT (show k < 60 by omega) hu6 ?_; simp only [ky_aft, ky_vl, Nat.reduceAdd]) | (exact hi) | (refine ky_ok_stp rfl ?_; simp (disch := first | omega | assumption) only [ky_stp, ky_inv, ky_ldi, ky_ldl, ky_ldd, ky_lda, ky_cl2, ky_st1, ky_st2, ky_s1i, ky_s2i, ky_s1l, ky_s2l, ky_sli, ky_s1f, ky_s2f, ky_s1d, ky_s2d, ky_sr, ky_sai, ky_sasi, ky_sasl, ky_sasr, ky_svr, ky_sv, ky_sv2, ky_s1, ky_cs, ky_pop, ky_nth, ky_snt, ky_obj, ky_ari, ky_arl, ky_arr, ky_arn, ky_fv, ky_rcv, List.map_cons, List.map_nil, List.drop_succ_cons, List.drop_zero, Value.category, Nat.reduceAdd, Nat.reduceSub, true_and, and_true, true_or, or_true, reduceCtorEq, ite_true, ite_false, eq_self, Nat.reduceEqDiff, Nat.reduceLeDiff, nI_add, nI_1, nI_leI, nI_ltI, nI_eq, nI_clamp, kz_m1, kz_mn, kz_mn2, kz_n0, kz_0n, kz_0, kz_le0, kz_0lt, false_implies, true_implies, not_false_eq_true, not_true_eq_false, Nat.zero_le, kb_0, kz_10, kz_of, ky_sw, kz_mx, kz_mi, mh, es, hB1, kz_6, nI_mul]) | (refine ⟨vp_in_nI (by omega) (by omega), ?_⟩) | (refine ⟨fun zc => ?_, fun zc => ?_⟩ <;> try (exfalso; omega)) | fail)
      · obtain rfl : u = 6 := by omega
        by_cases hk1 : k + 1 < e
        · have hi := ih (k + 1) 0 f1 B1 (by omega) (by omega) (by omega) hk1 hT hB1 (fun t => by rw [hx, show 6 * (k + 1 - p) + 0 = 6 * (k - p) + 6 by omega]) hF
          repeat' (first | (exact hi) | (refine ky_ok_stp rfl ?_; simp (disch := first | omega | assumption) only [ky_stp, ky_inv, ky_ldi, ky_ldl, ky_ldd, ky_lda, ky_cl2, ky_st1, ky_st2, ky_s1i, ky_s2i, ky_s1l, ky_s2l, ky_sli, ky_s1f, ky_s2f, ky_s1d, ky_s2d, ky_sr, ky_sai, ky_sasi, ky_sasl, ky_sasr, ky_svr, ky_sv, ky_sv2, ky_s1, ky_cs, ky_pop, ky_nth, ky_snt, ky_obj, ky_ari, ky_arl, ky_arr, ky_arn, ky_fv, ky_rcv, List.map_cons, List.map_nil, List.drop_succ_cons, List.drop_zero, Value.category, Nat.reduceAdd, Nat.reduceSub, true_and, and_true, true_or, or_true, reduceCtorEq, ite_true, ite_false, eq_self, Nat.reduceEqDiff, Nat.reduceLeDiff, nI_add, nI_1, nI_leI, nI_ltI, nI_eq, nI_clamp, kz_m1, kz_mn, kz_mn2, kz_n0, kz_0n, kz_0, kz_le0, kz_0lt, false_implies, true_implies, not_false_eq_true, not_true_eq_false, Nat.zero_le, kb_0, kz_10, kz_of, ky_sw, kz_mx, kz_mi, mh, kz_6, kz_1]) | (refine ⟨vp_in_nI (by omega) (by omega), ?_⟩) | (refine ⟨fun zc => ?_, fun zc => ?_⟩ <;> try (exfalso; omega)) | fail)
        · have hf := st2 f1 B1 (some (.int (nI 6))) hT hB1 (fun _ i w hw hi => by
            rw [hx, kcp, if_pos (by omega)]
            congr 1
            omega) hF
          repeat' (first | (exact hf) | (refine ky_ok_stp rfl ?_; simp (disch := first | omega | assumption) only [ky_stp, ky_inv, ky_ldi, ky_ldl, ky_ldd, ky_lda, ky_cl2, ky_st1, ky_st2, ky_s1i, ky_s2i, ky_s1l, ky_s2l, ky_sli, ky_s1f, ky_s2f, ky_s1d, ky_s2d, ky_sr, ky_sai, ky_sasi, ky_sasl, ky_sasr, ky_svr, ky_sv, ky_sv2, ky_s1, ky_cs, ky_pop, ky_nth, ky_snt, ky_obj, ky_ari, ky_arl, ky_arr, ky_arn, ky_fv, ky_rcv, List.map_cons, List.map_nil, List.drop_succ_cons, List.drop_zero, Value.category, Nat.reduceAdd, Nat.reduceSub, true_and, and_true, true_or, or_true, reduceCtorEq, ite_true, ite_false, eq_self, Nat.reduceEqDiff, Nat.reduceLeDiff, nI_add, nI_1, nI_leI, nI_ltI, nI_eq, nI_clamp, kz_m1, kz_mn, kz_mn2, kz_n0, kz_0n, kz_0, kz_le0, kz_0lt, false_implies, true_implies, not_false_eq_true, not_true_eq_false, Nat.zero_le, kb_0, kz_10, kz_of, ky_sw, kz_mx, kz_mi, mh, kz_6]) | (refine ⟨vp_in_nI (by omega) (by omega), ?_⟩) | (refine ⟨fun zc => ?_, fun zc => ?_⟩ <;> try (exfalso; omega)) | fail)
  have hi := lp1 _ p 0 f B (Nat.le_refl _) (by omega) (Nat.le_refl _) hpe hr hB (fun t => by rw [Nat.sub_self]; exact (kcp_0 r B _ _ t).symm) kfr_rf
  refine ⟨Nat.le_of_ble_eq_true rfl, fun z => absurd z (by decide), ?_⟩; show ky_ok adK 253 0 [some (.ref (a 170)), some (.int (nI p)), some (.int (nI e)), some (.int (nI 1)), none, none] [] f 0 0 _
  repeat' (first | (exact hi) | (refine ky_ok_stp rfl ?_; simp (disch := first | omega | assumption) only [ky_stp, ky_inv, ky_ldi, ky_ldl, ky_ldd, ky_lda, ky_cl2, ky_st1, ky_st2, ky_s1i, ky_s2i, ky_s1l, ky_s2l, ky_sli, ky_s1f, ky_s2f, ky_s1d, ky_s2d, ky_sr, ky_sai, ky_sasi, ky_sasl, ky_sasr, ky_svr, ky_sv, ky_sv2, ky_s1, ky_cs, ky_pop, ky_nth, ky_snt, ky_obj, ky_ari, ky_arl, ky_arr, ky_arn, ky_fv, ky_rcv, List.map_cons, List.map_nil, List.drop_succ_cons, List.drop_zero, Value.category, Nat.reduceAdd, Nat.reduceSub, true_and, and_true, true_or, or_true, reduceCtorEq, ite_true, ite_false, eq_self, Nat.reduceEqDiff, Nat.reduceLeDiff, nI_add, nI_1, nI_leI, nI_ltI, nI_eq, nI_clamp, kz_m1, kz_mn, kz_mn2, kz_n0, kz_0n, kz_0, kz_le0, kz_0lt, false_implies, true_implies, not_false_eq_true, not_true_eq_false, Nat.zero_le, kb_0, kz_10, kz_of, ky_sw, kz_mx, kz_mi, kz_1]) | (refine ⟨vp_in_nI (by omega) (by omega), ?_⟩) | (refine ⟨fun zc => ?_, fun zc => ?_⟩ <;> try (exfalso; omega)) | fail)
theorem kx254 (ha : kI a) (hM : kMo a f g) (hr : f (a 171) = some (.inl (1, 388, .inl r))) (hB : f (a 184) = some (.inl (1, 360, .inl B))) (h0 : r 0 = nI n) (h60 : n + m ≤ 60) (htn : t ≤ n) (hm : 1 ≤ m)
    (hQ : ∀ f' T, f' (a 171) = some (.inl (1, 388, .inl T)) → T 0 = nI (n + m) → (∀ t, t < 28 → t ≠ 0 → T t = r t) → (∀ i w, w < 6 → i < n + m → T (28 + 6 * i + w) = if i < t then r (28 + 6 * i + w) else if i < t + m then (if w = 0 then B (6 * (i - t)) + v else B (6 * (i - t) + w)) else r (28 + 6 * (i - m) + w)) → kfr a f f' (fun j => j = 171) → Q (.inl none) f') : ky_cl adK 254 [.ref (a 170), .int (nI t), .int (nI m), .int v] f Q := by
  -- the rows come in
  have lp2 : ∀ d k u f1 T, 7 * (m - k) - u ≤ d → u ≤ 6 → k < m → f1 (a 171) = some (.inl (1, 388, .inl T)) → T 0 = nI (n + m) → (∀ t, t < 28 → t ≠ 0 → T t = r t) → (∀ i w, w < 6 → i < t → T (28 + 6 * i + w) = r (28 + 6 * i + w)) → (∀ i w, w < 6 → i < k → T (28 + 6 * (t + i) + w) = if w = 0 then B (6 * i) + v else B (6 * i + w)) → (∀ w, w < u → T (28 + 6 * (t + k) + w) = B (6 * k + w)) → (∀ i w, w < 6 → t + m ≤ i → i < n + m → T (28 + 6 * i + w) = r (28 + 6 * (i - m) + w)) → kfr a f f1 (fun j => j = 171) → ky_ok adK 254 78 [some (.ref (a 170)), some (.int (nI t)), some (.int (nI m)), some (.int v), some (.int (nI k)), some (.int (nI u))] [] f1 0 0 Q := by
    intro d
    induction d with
    | zero => intro k u f1 T hd; omega
    | succ d ih =>
      intro k u f1 T hd hu hk hT hT0 hx yA yB yC yD hF
      have hM1 := kMo_fq hM hF (by omega)
      have hB1 : f1 (a 184) = some (.inl (1, 360, .inl B)) := (hF 184 (by omega)).trans hB
      have mh := hM1; unfold kMo at mh
      by_cases hu6 : u < 6
      · have hi := ih k (u + 1) (ky_up f1 (a 171) (.inl (1, 388, .inl (upd T (28 + 6 * (t + k) + u) (B (6 * k + u)))))) _ (by omega) (by omega) hk kz_same (by rw [pk_un (by omega)]; exact hT0) (fun t ht h => by rw [pk_un (by omega)]; exact hx t ht h) (fun i w hw hi => by rw [pk_un (by omega)]; exact yA i w hw hi) (fun i w hw hi => by rw [pk_un (by omega)]; exact yB i w hw hi) (fun w hw => by
            by_cases e : w = u
            · subst e; rw [pk_us]
            · rw [pk_un (by omega)]; exact yC w (by omega)) (fun i w hw h1 h2 => by rw [pk_un (by omega)]; exact yD i w hw h1 h2) (kfr_up ha hF rfl)
        repeat' (first | ((refine kx174 hM1 hT (show t + k < 60 by omega) hu6 ?_; simp only [ky_aft, ky_vl, Nat.reduceAdd])) | (exact hi) | (refine ky_ok_stp rfl ?_; simp (disch := first | omega | assumption) only [ky_stp, ky_inv, ky_ldi, ky_ldl, ky_ldd, ky_lda, ky_cl2, ky_st1, ky_st2, ky_s1i, ky_s2i, ky_s1l, ky_s2l, ky_sli, ky_s1f, ky_s2f, ky_s1d, ky_s2d, ky_sr, ky_sai, ky_sasi, ky_sasl, ky_sasr, ky_svr, ky_sv, ky_sv2, ky_s1, ky_cs, ky_pop, ky_nth, ky_snt, ky_obj, ky_ari, ky_arl, ky_arr, ky_arn, ky_fv, ky_rcv, List.map_cons, List.map_nil, List.drop_succ_cons, List.drop_zero, Value.category, Nat.reduceAdd, Nat.reduceSub, true_and, and_true, true_or, or_true, reduceCtorEq, ite_true, ite_false, eq_self, Nat.reduceEqDiff, Nat.reduceLeDiff, nI_add, nI_1, nI_leI, nI_ltI, nI_eq, nI_clamp, kz_m1, kz_mn, kz_mn2, kz_n0, kz_0n, kz_0, kz_le0, kz_0lt, false_implies, true_implies, not_false_eq_true, not_true_eq_false, Nat.zero_le, kb_0, kz_10, kz_of, ky_sw, kz_mx, kz_mi, mh, hB1, kz_6, nI_mul]) | (refine ⟨vp_in_nI (by omega) (by omega), ?_⟩) | (refine ⟨fun zc => ?_, fun zc => ?_⟩ <;> try (exfalso; omega)) | fail)
      · obtain rfl : u = 6 := by omega
        have hTk : T (28 + 6 * (t + k)) = B (6 * k) := yC 0 (by omega)
        have hT2 : ky_up f1 (a 171) (.inl (1, 388, .inl (upd T (28 + 6 * (t + k) + 0) (B (6 * k) + v)))) (a 171) = some (.inl (1, 388, .inl (upd T (28 + 6 * (t + k) + 0) (B (6 * k) + v)))) := kz_same
        have hF2 : kfr a f (ky_up f1 (a 171) (.inl (1, 388, .inl (upd T (28 + 6 * (t + k) + 0) (B (6 * k) + v))))) (fun j => j = 171) := kfr_up ha hF rfl
        have zA : ∀ i w, w < 6 → i < t → upd T (28 + 6 * (t + k) + 0) (B (6 * k) + v) (28 + 6 * i + w) = r (28 + 6 * i + w) := fun i w hw hi => by rw [pk_un (by omega)]; exact yA i w hw hi
        have zB : ∀ i w, w < 6 → i < k + 1 → upd T (28 + 6 * (t + k) + 0) (B (6 * k) + v) (28 + 6 * (t + i) + w) = if w = 0 then B (6 * i) + v else B (6 * i + w) := fun i w hw hi => by
          by_cases e : i = k
          · subst e
            by_cases e2 : w = 0
            · subst e2; rw [pk_us, if_pos rfl]
            · rw [pk_un (by omega), if_neg e2]; exact yC w hw
          · rw [pk_un (by omega)]; exact yB i w hw (by omega)
        have zD : ∀ i w, w < 6 → t + m ≤ i → i < n + m → upd T (28 + 6 * (t + k) + 0) (B (6 * k) + v) (28 + 6 * i + w) = r (28 + 6 * (i - m) + w) := fun i w hw h1 h2 => by rw [pk_un (by omega)]; exact yD i w hw h1 h2
        by_cases hk1 : k + 1 < m
        · have hi := ih (k + 1) 0 _ _ (by omega) (by omega) hk1 hT2 (by rw [pk_un (by omega)]; exact hT0) (fun t ht h => by rw [pk_un (by omega)]; exact hx t ht h) zA zB (fun w hw => absurd hw (Nat.not_lt_zero w)) zD hF2
          repeat' (first | (refine kx175 hM1 hT (show t + k < 60 by omega) ?_; simp only [ky_aft, ky_vl, Nat.reduceAdd]) | ((refine kx174 (w := 0) hM1 hT (show t + k < 60 by omega) (by decide) ?_; simp only [ky_aft, ky_vl, Nat.reduceAdd])) | (exact hi) | (refine ky_ok_stp rfl ?_; simp (disch := first | omega | assumption) only [ky_stp, ky_inv, ky_ldi, ky_ldl, ky_ldd, ky_lda, ky_cl2, ky_st1, ky_st2, ky_s1i, ky_s2i, ky_s1l, ky_s2l, ky_sli, ky_s1f, ky_s2f, ky_s1d, ky_s2d, ky_sr, ky_sai, ky_sasi, ky_sasl, ky_sasr, ky_svr, ky_sv, ky_sv2, ky_s1, ky_cs, ky_pop, ky_nth, ky_snt, ky_obj, ky_ari, ky_arl, ky_arr, ky_arn, ky_fv, ky_rcv, List.map_cons, List.map_nil, List.drop_succ_cons, List.drop_zero, Value.category, Nat.reduceAdd, Nat.reduceSub, true_and, and_true, true_or, or_true, reduceCtorEq, ite_true, ite_false, eq_self, Nat.reduceEqDiff, Nat.reduceLeDiff, nI_add, nI_1, nI_leI, nI_ltI, nI_eq, nI_clamp, kz_m1, kz_mn, kz_mn2, kz_n0, kz_0n, kz_0, kz_le0, kz_0lt, false_implies, true_implies, not_false_eq_true, not_true_eq_false, Nat.zero_le, kb_0, kz_10, kz_of, ky_sw, kz_mx, kz_mi, mh, kz_6, hTk]) | (refine ⟨vp_in_nI (by omega) (by omega), ?_⟩) | (refine ⟨fun zc => ?_, fun zc => ?_⟩ <;> try (exfalso; omega)) | fail)
        · have hq := hQ _ _ hT2 (by rw [pk_un (by omega)]; exact hT0) (fun t ht h => by rw [pk_un (by omega)]; exact hx t ht h) (fun i w hw hi => by
            by_cases c1 : i < t
            · rw [if_pos c1]; exact zA i w hw c1
            · rw [if_neg c1]
              by_cases c2 : i < t + m
              · rw [if_pos c2]
                have := zB (i - t) w hw (by omega)
                rw [show t + (i - t) = i by omega] at this
                exact this
              · rw [if_neg c2]; exact zD i w hw (by omega) hi) hF2
          repeat' (first | (refine kx175 hM1 hT (show t + k < 60 by omega) ?_; simp only [ky_aft, ky_vl, Nat.reduceAdd]) | ((refine kx174 (w := 0) hM1 hT (show t + k < 60 by omega) (by decide) ?_; simp only [ky_aft, ky_vl, Nat.reduceAdd])) | (refine ky_ok_stp rfl ?_; simp (disch := first | omega | assumption) only [ky_stp, ky_inv, ky_ldi, ky_ldl, ky_ldd, ky_lda, ky_cl2, ky_st1, ky_st2, ky_s1i, ky_s2i, ky_s1l, ky_s2l, ky_sli, ky_s1f, ky_s2f, ky_s1d, ky_s2d, ky_sr, ky_sai, ky_sasi, ky_sasl, ky_sasr, ky_svr, ky_sv, ky_sv2, ky_s1, ky_cs, ky_pop, ky_nth, ky_snt, ky_obj, ky_ari, ky_arl, ky_arr, ky_arn, ky_fv, ky_rcv, List.map_cons, List.map_nil, List.drop_succ_cons, List.drop_zero, Value.category, Nat.reduceAdd, Nat.reduceSub, true_and, and_true, true_or, or_true, reduceCtorEq, ite_true, ite_false, eq_self, Nat.reduceEqDiff, Nat.reduceLeDiff, nI_add, nI_1, nI_leI, nI_ltI, nI_eq, nI_clamp, kz_m1, kz_mn, kz_mn2, kz_n0, kz_0n, kz_0, kz_le0, kz_0lt, false_implies, true_implies, not_false_eq_true, not_true_eq_false, Nat.zero_le, kb_0, kz_10, kz_of, ky_sw, kz_mx, kz_mi, mh, kz_6, hTk]) | (refine ⟨vp_in_nI (by omega) (by omega), ?_⟩) | (refine ⟨fun zc => ?_, fun zc => ?_⟩ <;> try (exfalso; omega)) | fail)
          exact hq
  have st2 : ∀ f1 T v1 v2, f1 (a 171) = some (.inl (1, 388, .inl T)) → T 0 = nI (n + m) → (∀ t, t < 28 → t ≠ 0 → T t = r t) → (∀ i w, w < 6 → i < t → T (28 + 6 * i + w) = r (28 + 6 * i + w)) → (∀ i w, w < 6 → t + m ≤ i → i < n + m → T (28 + 6 * i + w) = r (28 + 6 * (i - m) + w)) → kfr a f f1 (fun j => j = 171) → ky_ok adK 254 66 [some (.ref (a 170)), some (.int (nI t)), some (.int (nI m)), some (.int v), v1, v2] [] f1 0 0 Q := by
    intro f1 T v1 v2 hT hT0 hx yA yD hF
    have hi := lp2 _ 0 0 f1 T (Nat.le_refl _) (by omega) (by omega) hT hT0 hx yA (fun i w _ hi => absurd hi (Nat.not_lt_zero i)) (fun w hw => absurd hw (Nat.not_lt_zero w)) yD hF
    repeat' (first | (exact hi) | (refine ky_ok_stp rfl ?_; simp (disch := first | omega | assumption) only [ky_stp, ky_inv, ky_ldi, ky_ldl, ky_ldd, ky_lda, ky_cl2, ky_st1, ky_st2, ky_s1i, ky_s2i, ky_s1l, ky_s2l, ky_sli, ky_s1f, ky_s2f, ky_s1d, ky_s2d, ky_sr, ky_sai, ky_sasi, ky_sasl, ky_sasr, ky_svr, ky_sv, ky_sv2, ky_s1, ky_cs, ky_pop, ky_nth, ky_snt, ky_obj, ky_ari, ky_arl, ky_arr, ky_arn, ky_fv, ky_rcv, List.map_cons, List.map_nil, List.drop_succ_cons, List.drop_zero, Value.category, Nat.reduceAdd, Nat.reduceSub, true_and, and_true, true_or, or_true, reduceCtorEq, ite_true, ite_false, eq_self, Nat.reduceEqDiff, Nat.reduceLeDiff, nI_add, nI_1, nI_leI, nI_ltI, nI_eq, nI_clamp, kz_m1, kz_mn, kz_mn2, kz_n0, kz_0n, kz_0, kz_le0, kz_0lt, false_implies, true_implies, not_false_eq_true, not_true_eq_false, Nat.zero_le, kb_0, kz_10, kz_of, ky_sw, kz_mx, kz_mi, kz_0, show ¬ m ≤ 0 by omega]) | (refine ⟨vp_in_nI (by omega) (by omega), ?_⟩) | (refine ⟨fun zc => ?_, fun zc => ?_⟩ <;> try (exfalso; omega)) | fail)
  -- the rows behind go down
  have lp1 : ∀ d k u f1 T, 7 * (k + 1 - (t + m)) - u ≤ d → u ≤ 6 → t + m ≤ k → k < n + m → f1 (a 171) = some (.inl (1, 388, .inl T)) → T 0 = nI (n + m) → (∀ t, t < 28 → t ≠ 0 → T t = r t) → (∀ i w, w < 6 → k < i → i < n + m → T (28 + 6 * i + w) = r (28 + 6 * (i - m) + w)) → (∀ w, w < u → T (28 + 6 * k + w) = r (28 + 6 * (k - m) + w)) → (∀ i w, w < 6 → i < n → i < k → T (28 + 6 * i + w) = r (28 + 6 * i + w)) → kfr a f f1 (fun j => j = 171) → ky_ok adK 254 29 [some (.ref (a 170)), some (.int (nI t)), some (.int (nI m)), some (.int v), some (.int (nI k)), some (.int (nI u))] [] f1 0 0 Q := by
    intro d
    induction d with
    | zero => intro k u f1 T hd; omega
    | succ d ih =>
      intro k u f1 T hd hu hk hkn hT hT0 hx yA yB yC hF
      have hM1 := kMo_fq hM hF (by omega)
      have mh := hM1; unfold kMo at mh
      by_cases hu6 : u < 6
      · have hv : T (28 + 6 * (k - m) + u) = r (28 + 6 * (k - m) + u) := yC (k - m) u hu6 (by omega) (by omega)
        have hi := ih k (u + 1) (ky_up f1 (a 171) (.inl (1, 388, .inl (upd T (28 + 6 * k + u) (r (28 + 6 * (k - m) + u)))))) _ (by omega) (by omega) hk hkn kz_same (by rw [pk_un (by omega)]; exact hT0) (fun t ht h => by rw [pk_un (by omega)]; exact hx t ht h) (fun i w hw h1 h2 => by rw [pk_un (by omega)]; exact yA i w hw h1 h2) (fun w hw => by
            by_cases e : w = u
            · subst e; rw [pk_us]
            · rw [pk_un (by omega)]; exact yB w (by omega)) (fun i w hw h1 h2 => by rw [pk_un (by omega)]; exact yC i w hw h1 h2) (kfr_up ha hF rfl)
        have es : nI k - nI m = nI (k - m) := nI_sub (by omega)
        repeat' (first | (refine kx173 hM1 hT (show k - m < 60 by omega) hu6 ?_; simp only [ky_aft, ky_vl, Nat.reduceAdd]) | ((refine kx174 hM1 hT (show k < 60 by omega) hu6 ?_; simp only [ky_aft, ky_vl, Nat.reduceAdd])) | (exact hi) | (refine ky_ok_stp rfl ?_; simp (disch := first | omega | assumption) only [ky_stp, ky_inv, ky_ldi, ky_ldl, ky_ldd, ky_lda, ky_cl2, ky_st1, ky_st2, ky_s1i, ky_s2i, ky_s1l, ky_s2l, ky_sli, ky_s1f, ky_s2f, ky_s1d, ky_s2d, ky_sr, ky_sai, ky_sasi, ky_sasl, ky_sasr, ky_svr, ky_sv, ky_sv2, ky_s1, ky_cs, ky_pop, ky_nth, ky_snt, ky_obj, ky_ari, ky_arl, ky_arr, ky_arn, ky_fv, ky_rcv, List.map_cons, List.map_nil, List.drop_succ_cons, List.drop_zero, Value.category, Nat.reduceAdd, Nat.reduceSub, true_and, and_true, true_or, or_true, reduceCtorEq, ite_true, ite_false, eq_self, Nat.reduceEqDiff, Nat.reduceLeDiff, nI_add, nI_1, nI_leI, nI_ltI, nI_eq, nI_clamp, kz_m1, kz_mn, kz_mn2, kz_n0, kz_0n, kz_0, kz_le0, kz_0lt, false_implies, true_implies, not_false_eq_true, not_true_eq_false, Nat.zero_le, kb_0, kz_10, kz_of, ky_sw, kz_mx, kz_mi, mh, es, hv, kz_6]) | (refine ⟨vp_in_nI (by omega) (by omega), ?_⟩) | (refine ⟨fun zc => ?_, fun zc => ?_⟩ <;> try (exfalso; omega)) | fail)
      · obtain rfl : u = 6 := by omega
        have e1 : nI k + -1 = nI (k - 1) := nI_m1 (by omega)
        have zA : ∀ i w, w < 6 → k - 1 < i → i < n + m → T (28 + 6 * i + w) = r (28 + 6 * (i - m) + w) := fun i w hw h1 h2 => by
          by_cases e : i = k
          · subst e; exact yB w hw
          · exact yA i w hw (by omega) h2
        by_cases hk1 : t + m ≤ k - 1
        · have hi := ih (k - 1) 0 f1 T (by omega) (by omega) hk1 (by omega) hT hT0 hx zA (fun w hw => absurd hw (Nat.not_lt_zero w)) (fun i w hw h1 h2 => yC i w hw h1 (by omega)) hF
          repeat' (first | (exact hi) | (refine ky_ok_stp rfl ?_; simp (disch := first | omega | assumption) only [ky_stp, ky_inv, ky_ldi, ky_ldl, ky_ldd, ky_lda, ky_cl2, ky_st1, ky_st2, ky_s1i, ky_s2i, ky_s1l, ky_s2l, ky_sli, ky_s1f, ky_s2f, ky_s1d, ky_s2d, ky_sr, ky_sai, ky_sasi, ky_sasl, ky_sasr, ky_svr, ky_sv, ky_sv2, ky_s1, ky_cs, ky_pop, ky_nth, ky_snt, ky_obj, ky_ari, ky_arl, ky_arr, ky_arn, ky_fv, ky_rcv, List.map_cons, List.map_nil, List.drop_succ_cons, List.drop_zero, Value.category, Nat.reduceAdd, Nat.reduceSub, true_and, and_true, true_or, or_true, reduceCtorEq, ite_true, ite_false, eq_self, Nat.reduceEqDiff, Nat.reduceLeDiff, nI_add, nI_1, nI_leI, nI_ltI, nI_eq, nI_clamp, kz_m1, kz_mn, kz_mn2, kz_n0, kz_0n, kz_0, kz_le0, kz_0lt, false_implies, true_implies, not_false_eq_true, not_true_eq_false, Nat.zero_le, kb_0, kz_10, kz_of, ky_sw, kz_mx, kz_mi, mh, kz_6, e1]) | (refine ⟨vp_in_nI (by omega) (by omega), ?_⟩) | (refine ⟨fun zc => ?_, fun zc => ?_⟩ <;> try (exfalso; omega)) | fail)
        · have hf := st2 f1 T (some (.int (nI (k - 1)))) (some (.int (nI 6))) hT hT0 hx (fun i w hw hi => yC i w hw (by omega) (by omega)) (fun i w hw h1 h2 => zA i w hw (by omega) h2) hF
          repeat' (first | (exact hf) | (refine ky_ok_stp rfl ?_; simp (disch := first | omega | assumption) only [ky_stp, ky_inv, ky_ldi, ky_ldl, ky_ldd, ky_lda, ky_cl2, ky_st1, ky_st2, ky_s1i, ky_s2i, ky_s1l, ky_s2l, ky_sli, ky_s1f, ky_s2f, ky_s1d, ky_s2d, ky_sr, ky_sai, ky_sasi, ky_sasl, ky_sasr, ky_svr, ky_sv, ky_sv2, ky_s1, ky_cs, ky_pop, ky_nth, ky_snt, ky_obj, ky_ari, ky_arl, ky_arr, ky_arn, ky_fv, ky_rcv, List.map_cons, List.map_nil, List.drop_succ_cons, List.drop_zero, Value.category, Nat.reduceAdd, Nat.reduceSub, true_and, and_true, true_or, or_true, reduceCtorEq, ite_true, ite_false, eq_self, Nat.reduceEqDiff, Nat.reduceLeDiff, nI_add, nI_1, nI_leI, nI_ltI, nI_eq, nI_clamp, kz_m1, kz_mn, kz_mn2, kz_n0, kz_0n, kz_0, kz_le0, kz_0lt, false_implies, true_implies, not_false_eq_true, not_true_eq_false, Nat.zero_le, kb_0, kz_10, kz_of, ky_sw, kz_mx, kz_mi, mh, kz_6, e1]) | (refine ⟨vp_in_nI (by omega) (by omega), ?_⟩) | (refine ⟨fun zc => ?_, fun zc => ?_⟩ <;> try (exfalso; omega)) | fail)
  have mh := hM; unfold kMo at mh
  have e1 : nI (n + m) - 1 = nI (n + m - 1) := by rw [show (1 : Int32) = nI 1 from rfl]; exact nI_sub (by omega)
  have hT2 : ky_up f (a 171) (.inl (1, 388, .inl (upd r 0 (nI (n + m))))) (a 171) = some (.inl (1, 388, .inl (upd r 0 (nI (n + m))))) := kz_same
  have hF2 : kfr a f (ky_up f (a 171) (.inl (1, 388, .inl (upd r 0 (nI (n + m)))))) (fun j => j = 171) := kfr_up ha kfr_rf rfl
  have hM2 := kMo_fq hM hF2 (by omega)
  have hx2 : ∀ t, t < 28 → t ≠ 0 → upd r 0 (nI (n + m)) t = r t := fun t _ h => pk_un h
  have hus : upd r 0 (nI (n + m)) 0 = nI (n + m) := pk_us
  have hun : ∀ i w, upd r 0 (nI (n + m)) (28 + 6 * i + w) = r (28 + 6 * i + w) := fun i w => pk_un (by omega)
  have mh2 := hM2
  unfold kMo at mh2
  by_cases htn2 : t < n
  · have hi := lp1 _ (n + m - 1) 0 _ _ (Nat.le_refl _) (by omega) (by omega) (by omega) hT2 pk_us hx2 (fun i w hw h1 h2 => by omega) (fun w hw => absurd hw (Nat.not_lt_zero w)) (fun i w hw h1 h2 => hun i w) hF2
    refine ⟨Nat.le_of_ble_eq_true rfl, fun z => absurd z (by decide), ?_⟩; show ky_ok adK 254 0 [some (.ref (a 170)), some (.int (nI t)), some (.int (nI m)), some (.int v), none, none] [] f 0 0 _
    repeat' (first | (refine kx172 hM2 hT2 ?_; simp only [ky_aft, ky_vl, Nat.reduceAdd]) | (refine ⟨vp_in_nI (n := 0) (by omega) (by omega), ?_⟩) | (exact hi) | (refine ky_ok_stp rfl ?_; simp (disch := first | omega | assumption) only [ky_stp, ky_inv, ky_ldi, ky_ldl, ky_ldd, ky_lda, ky_cl2, ky_st1, ky_st2, ky_s1i, ky_s2i, ky_s1l, ky_s2l, ky_sli, ky_s1f, ky_s2f, ky_s1d, ky_s2d, ky_sr, ky_sai, ky_sasi, ky_sasl, ky_sasr, ky_svr, ky_sv, ky_sv2, ky_s1, ky_cs, ky_pop, ky_nth, ky_snt, ky_obj, ky_ari, ky_arl, ky_arr, ky_arn, ky_fv, ky_rcv, List.map_cons, List.map_nil, List.drop_succ_cons, List.drop_zero, Value.category, Nat.reduceAdd, Nat.reduceSub, true_and, and_true, true_or, or_true, reduceCtorEq, ite_true, ite_false, eq_self, Nat.reduceEqDiff, Nat.reduceLeDiff, nI_add, nI_1, nI_leI, nI_ltI, nI_eq, nI_clamp, kz_m1, kz_mn, kz_mn2, kz_n0, kz_0n, kz_0, kz_le0, kz_0lt, false_implies, true_implies, not_false_eq_true, not_true_eq_false, Nat.zero_le, kb_0, kz_10, kz_of, ky_sw, kz_mx, kz_mi, mh, kz_up, kI_ne ha, hr, h0, kz_c0, hus, e1]) | (refine ⟨vp_in_nI (by omega) (by omega), ?_⟩) | (refine ⟨fun zc => ?_, fun zc => ?_⟩ <;> try (exfalso; omega)) | fail)
  · have hi := st2 _ _ (some (.int (nI (n + m - 1)))) none hT2 pk_us hx2 (fun i w hw h1 => hun i w) (fun i w hw h1 h2 => by omega) hF2
    refine ⟨Nat.le_of_ble_eq_true rfl, fun z => absurd z (by decide), ?_⟩; show ky_ok adK 254 0 [some (.ref (a 170)), some (.int (nI t)), some (.int (nI m)), some (.int v), none, none] [] f 0 0 _
    repeat' (first | (refine kx172 hM2 hT2 ?_; simp only [ky_aft, ky_vl, Nat.reduceAdd]) | (refine ⟨vp_in_nI (n := 0) (by omega) (by omega), ?_⟩) | (exact hi) | (refine ky_ok_stp rfl ?_; simp (disch := first | omega | assumption) only [ky_stp, ky_inv, ky_ldi, ky_ldl, ky_ldd, ky_lda, ky_cl2, ky_st1, ky_st2, ky_s1i, ky_s2i, ky_s1l, ky_s2l, ky_sli, ky_s1f, ky_s2f, ky_s1d, ky_s2d, ky_sr, ky_sai, ky_sasi, ky_sasl, ky_sasr, ky_svr, ky_sv, ky_sv2, ky_s1, ky_cs, ky_pop, ky_nth, ky_snt, ky_obj, ky_ari, ky_arl, ky_arr, ky_arn, ky_fv, ky_rcv, List.map_cons, List.map_nil, List.drop_succ_cons, List.drop_zero, Value.category, Nat.reduceAdd, Nat.reduceSub, true_and, and_true, true_or, or_true, reduceCtorEq, ite_true, ite_false, eq_self, Nat.reduceEqDiff, Nat.reduceLeDiff, nI_add, nI_1, nI_leI, nI_ltI, nI_eq, nI_clamp, kz_m1, kz_mn, kz_mn2, kz_n0, kz_0n, kz_0, kz_le0, kz_0lt, false_implies, true_implies, not_false_eq_true, not_true_eq_false, Nat.zero_le, kb_0, kz_10, kz_of, ky_sw, kz_mx, kz_mi, mh, kz_up, kI_ne ha, hr, h0, kz_c0, hus, e1]) | (refine ⟨vp_in_nI (by omega) (by omega), ?_⟩) | (refine ⟨fun zc => ?_, fun zc => ?_⟩ <;> try (exfalso; omega)) | fail)
end KXM
