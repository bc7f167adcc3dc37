/-! ## the law's cases -/
def kLI (a : Nat → Nat) (f : ky_H) (g : Nat → Int32) (s : kSt) (sc : Nat → Int32) (n : Nat) : Prop := kK a f s ∧ kM a f g s ∧ (∃ o, f (a 187) = some (.inl (2, 1, .inr (.inl o)))) ∧ f (a 188) = some (.inl (5, n, .inl sc))
def kLnx (adK : Nat → Nat) (sc : Nat → Int32) (n i cn sn : Nat) (Q : ky_Q) : Prop := ∀ (a : Nat → Nat) (f : ky_H) (g : Nat → Int32) (s : kSt) (e5 e6 e7 e8 : Option Value) (cn' sn' : Nat), kLI a f g s sc n → cn' ≤ cn + 440 → sn' ≤ sn + 13560 → ky_ok adK 327 2428 [some (.ref (a 188)), some (.ref (a 0)), some (.ref (a 170)), some (.ref (a 187)), some (.int (nI i)), e5, e6, e7, e8] [] f cn' sn' Q
def kLc (cn sn : Nat) : Prop := cn + 440 ≤ ky_ce 327 ∧ sn + 13560 ≤ ky_so 327
section KXL
variable {adK a a' : Nat → Nat} {f f' : ky_H} {Q : ky_Q} {g : Nat → Int32} {s : kSt} {X : Nat → Prop} {sc : Nat → Int32} {n i cn sn : Nat} {e5 e6 e7 e8 : Option Value}
theorem kl_le {x a b c : Nat} (h : a ≤ b) (h2 : x + b ≤ c) : x + a ≤ c := Nat.le_trans (Nat.add_le_add_left h x) h2
theorem kl_l0 {x b c : Nat} (h2 : x + b ≤ c) : x ≤ c := Nat.le_trans (Nat.le_add_right x b) h2
theorem kM_al (h : kM a f g s) (hA : kAl a f a' f' X) (hX : ∀ j, X j → j < 170 ∨ 187 ≤ j) : kM a' f' g s := by
  obtain ⟨ha, h0, ⟨⟨r, h1, h2⟩, ⟨U, h3, h4⟩, ⟨V, B, h5, h6, h7⟩, ⟨C, h8, h9⟩, ⟨T, h10, h11⟩, ⟨W, h12, h13⟩⟩, ⟨⟨r1, q1⟩, ⟨r2, q2⟩, ⟨r3, q3⟩, ⟨r4, q4⟩, ⟨r5, q5⟩, ⟨r6, q6⟩, ⟨r7, q7⟩, ⟨r8, q8⟩, ⟨r9, q9⟩⟩, h3', h4'⟩ := h
  have w170 := kAl_at hA (show ¬ X 170 from fun w => by have := hX _ w; omega) h0
  have w171 := kAl_at hA (show ¬ X 171 from fun w => by have := hX _ w; omega) h1
  have w172 := kAl_at hA (show ¬ X 172 from fun w => by have := hX _ w; omega) q1
  have w173 := kAl_at hA (show ¬ X 173 from fun w => by have := hX _ w; omega) q2
  have w174 := kAl_at hA (show ¬ X 174 from fun w => by have := hX _ w; omega) h3
  have w175 := kAl_at hA (show ¬ X 175 from fun w => by have := hX _ w; omega) h5
  have w176 := kAl_at hA (show ¬ X 176 from fun w => by have := hX _ w; omega) h6
  have w177 := kAl_at hA (show ¬ X 177 from fun w => by have := hX _ w; omega) h8
  have w178 := kAl_at hA (show ¬ X 178 from fun w => by have := hX _ w; omega) q3
  have w179 := kAl_at hA (show ¬ X 179 from fun w => by have := hX _ w; omega) q4
  have w180 := kAl_at hA (show ¬ X 180 from fun w => by have := hX _ w; omega) q5
  have w181 := kAl_at hA (show ¬ X 181 from fun w => by have := hX _ w; omega) q6
  have w182 := kAl_at hA (show ¬ X 182 from fun w => by have := hX _ w; omega) h10
  have w183 := kAl_at hA (show ¬ X 183 from fun w => by have := hX _ w; omega) q7
  have w184 := kAl_at hA (show ¬ X 184 from fun w => by have := hX _ w; omega) q8
  have w185 := kAl_at hA (show ¬ X 185 from fun w => by have := hX _ w; omega) q9
  have w186 := kAl_at hA (show ¬ X 186 from fun w => by have := hX _ w; omega) h12
  exact ⟨hA.1, by unfold kMo; rw [w170.2, w171.1, w172.1, w173.1, w174.1, w175.1, w176.1, w177.1, w178.1, w179.1, w180.1, w181.1, w182.1, w183.1, w184.1, w185.1, w186.1], ⟨⟨r, w171.2, h2⟩, ⟨U, w174.2, h4⟩, ⟨V, B, w175.2, w176.2, h7⟩, ⟨C, w177.2, h9⟩, ⟨T, w182.2, h11⟩, ⟨W, w186.2, h13⟩⟩, ⟨⟨r1, w172.2⟩, ⟨r2, w173.2⟩, ⟨r3, w178.2⟩, ⟨r4, w179.2⟩, ⟨r5, w180.2⟩, ⟨r6, w181.2⟩, ⟨r7, w183.2⟩, ⟨r8, w184.2⟩, ⟨r9, w185.2⟩⟩, h3', h4'⟩
theorem kj105 (a : Nat → Nat) (f : ky_H) (s : kSt) (Q : ky_Q) (h : kK a f s) (hq : ∀ f' v, (∀ d e g Q, kM d e g s → (∀ f1 g1, kM d f1 g1 s → g1 0 = 0 → kfr d e f1 kMF → Q (.inl (some (.float v))) f1) → ky_cl adK 249 [.ref (d 170)] e Q) → vf_n64 (FP.f2d v) → kK a f' s → kfr a f f' kL8 → Q (.inl (some (.float v))) f') : ky_cl adK 105 [.ref (a 0)] f Q := by
  refine kx105 h (fun h0 => hq f _ (fun d e g R hM hQ => kx249 hM h.2.2.2.1 (fun _ => hQ) (fun z => by omega)) (by unfold vf_n64; decide +kernel) h kfr_rf) (fun f' h1 p0 p1 => hq f' _ (fun d e g R hM hQ => kx249 hM h.2.2.2.1 (fun z => by omega) (fun _ => hQ)) (kz_flt s.o.n (by have := h.2.2.2.1.n60; omega) h1 (kVl s.o).length (by have := h.2.2.2.1.n60; have := kVl_le s.o; omega)).2 p0 (kj_f8 p1))
theorem kj106 (a : Nat → Nat) (f : ky_H) (s : kSt) (Q : ky_Q) (h : kK a f s) (hq : ∀ f' v, (∀ d e g Q, kM d e g s → (∀ f1 g1, kM d f1 g1 s → g1 0 = 0 → kfr d e f1 kMF → Q (.inl (some (.double v))) f1) → ky_cl adK 250 [.ref (d 170)] e Q) → kK a f' s → kfr a f f' kL8 → Q (.inl (some (.double v))) f') : ky_cl adK 106 [.ref (a 0)] f Q := by
  exact kx106 h (hq f _ (fun d e g R hM hQ => kx250 hM h.2.2.2.1 hQ) h kfr_rf)
set_option maxRecDepth 20000 in
theorem kc16 (hI : kLI a f g s sc n) (hi : i + 6 ≤ n) (hn : n < 100000) (hc : kLc cn sn) (ih : kLnx adK sc n i cn sn Q) : ky_ok adK 327 967 [some (.ref (a 188)), some (.ref (a 0)), some (.ref (a 170)), some (.ref (a 187)), some (.int (nI i)), e5, e6, e7, e8] [] f cn sn Q := by
  obtain ⟨hK, hM, ⟨o, ho⟩, hS⟩ := hI
  obtain ⟨kh0, kh1, kh2, kh23, kh30, kh40, kh42, ⟨_, kh37⟩, ⟨_, kh44⟩, ⟨_, kh46⟩, kh47, ⟨_, kh48⟩, ⟨_, kh12⟩, kh53⟩ := kK_hd hK
  have mh := hM.2.1
  unfold kMo at mh
  repeat' (first | (refine ⟨kl_l0 hc.1, kl_l0 hc.2, kj105 a f s _ hK ?_⟩) | (refine ky_ok_stp rfl ?_; simp (disch := first | omega | assumption) only [ky_stp, ky_inv, ky_ldi, ky_ldl, ky_ldd, ky_lda, ky_cl2, ky_st1, ky_st2, ky_s1i, ky_s2i, ky_s1l, ky_s2l, ky_sli, ky_s1f, ky_s2f, ky_s1d, ky_s2d, ky_sr, ky_sai, ky_sasi, ky_sasl, ky_sasr, ky_svr, ky_sv, ky_sv2, ky_s1, ky_cs, ky_pop, ky_nth, ky_snt, ky_obj, ky_ari, ky_arl, ky_arr, ky_arn, ky_fv, ky_rcv, List.map_cons, List.map_nil, List.drop_succ_cons, List.drop_zero, Value.category, Nat.reduceAdd, Nat.reduceSub, true_and, and_true, true_or, or_true, reduceCtorEq, ite_true, ite_false, eq_self, Nat.reduceEqDiff, Nat.reduceLeDiff, nI_add, nI_1, nI_leI, nI_ltI, nI_eq, nI_clamp, kz_m1, kz_mn, kz_mn2, kz_n0, kz_0n, kz_0, kz_le0, kz_0lt, false_implies, true_implies, not_false_eq_true, not_true_eq_false, Nat.zero_le, kb_0, kz_10, kz_of, ky_sw, kz_mx, kz_mi, hS, kh0, mh, Nat.add_zero]) | (refine ⟨vp_in_nI (by omega) (by omega), ?_⟩) | (refine ⟨fun zc => ?_, fun zc => ?_⟩ <;> try (exfalso; omega)) | fail)
  intro f' v hR h64 hK' hF
  have hA : kAl a f a f' kL8 := kAl_fr hK.1 hF
  have hM' := kM_al hM hA fun j w => by unfold kL8 at w; omega
  have hS' := (hF 188 (by unfold kL8; omega)).trans hS
  have ho' := (hF 187 (by unfold kL8; omega)).trans ho
  have mh' := hM'.2.1
  unfold kMo at mh'
  (try simp only [ky_aft, ky_vl, Nat.reduceAdd])
  repeat' (first | (refine ⟨h64, ?_⟩) | (refine ⟨kl_l0 hc.1, kl_l0 hc.2, hR a f' g _ hM' ?_⟩) | (refine ky_ok_stp rfl ?_; simp (disch := first | omega | assumption) only [ky_stp, ky_inv, ky_ldi, ky_ldl, ky_ldd, ky_lda, ky_cl2, ky_st1, ky_st2, ky_s1i, ky_s2i, ky_s1l, ky_s2l, ky_sli, ky_s1f, ky_s2f, ky_s1d, ky_s2d, ky_sr, ky_sai, ky_sasi, ky_sasl, ky_sasr, ky_svr, ky_sv, ky_sv2, ky_s1, ky_cs, ky_pop, ky_nth, ky_snt, ky_obj, ky_ari, ky_arl, ky_arr, ky_arn, ky_fv, ky_rcv, List.map_cons, List.map_nil, List.drop_succ_cons, List.drop_zero, Value.category, Nat.reduceAdd, Nat.reduceSub, true_and, and_true, true_or, or_true, reduceCtorEq, ite_true, ite_false, eq_self, Nat.reduceEqDiff, Nat.reduceLeDiff, nI_add, nI_1, nI_leI, nI_ltI, nI_eq, nI_clamp, kz_m1, kz_mn, kz_mn2, kz_n0, kz_0n, kz_0, kz_le0, kz_0lt, false_implies, true_implies, not_false_eq_true, not_true_eq_false, Nat.zero_le, kb_0, kz_10, kz_of, ky_sw, kz_mx, kz_mi, hS', mh', Nat.add_zero]) | (refine ⟨vp_in_nI (by omega) (by omega), ?_⟩) | (refine ⟨fun zc => ?_, fun zc => ?_⟩ <;> try (exfalso; omega)) | fail)
  intro f2 g2 hM2 hg2 hF2
  (try simp only [ky_aft, ky_vl, Nat.reduceAdd])
  have hS2 := (hF2 188 (by unfold kMF; omega)).trans hS'
  have ho2 := (hF2 187 (by unfold kMF; omega)).trans ho'
  have hI2 : kLI a f2 g2 s sc n := ⟨kK_hi hK' (kAl_fr hM'.1 hF2) (fun j w => by unfold kMF at w; omega), hM2, ⟨_, ho2⟩, hS2⟩
  repeat' (first | (refine ⟨h64, ?_⟩) | (exact ih a f2 g2 s _ _ _ _ _ _ hI2 (by omega) (by omega)) | (contradiction) | (refine ky_ok_stp rfl ?_; simp (disch := first | omega | assumption) only [ky_stp, ky_inv, ky_ldi, ky_ldl, ky_ldd, ky_lda, ky_cl2, ky_st1, ky_st2, ky_s1i, ky_s2i, ky_s1l, ky_s2l, ky_sli, ky_s1f, ky_s2f, ky_s1d, ky_s2d, ky_sr, ky_sai, ky_sasi, ky_sasl, ky_sasr, ky_svr, ky_sv, ky_sv2, ky_s1, ky_cs, ky_pop, ky_nth, ky_snt, ky_obj, ky_ari, ky_arl, ky_arr, ky_arn, ky_fv, ky_rcv, List.map_cons, List.map_nil, List.drop_succ_cons, List.drop_zero, Value.category, Nat.reduceAdd, Nat.reduceSub, true_and, and_true, true_or, or_true, reduceCtorEq, ite_true, ite_false, eq_self, Nat.reduceEqDiff, Nat.reduceLeDiff, nI_add, nI_1, nI_leI, nI_ltI, nI_eq, nI_clamp, kz_m1, kz_mn, kz_mn2, kz_n0, kz_0n, kz_0, kz_le0, kz_0lt, false_implies, true_implies, not_false_eq_true, not_true_eq_false, Nat.zero_le, kb_0, kz_10, kz_of, ky_sw, kz_mx, kz_mi, Nat.add_zero]) | (refine ⟨vp_in_nI (by omega) (by omega), ?_⟩) | (refine ⟨fun zc => ?_, fun zc => ?_⟩ <;> try (exfalso; omega)) | fail)
set_option maxRecDepth 20000 in
theorem kc17 (hI : kLI a f g s sc n) (hi : i + 6 ≤ n) (hn : n < 100000) (hc : kLc cn sn) (ih : kLnx adK sc n i cn sn Q) : ky_ok adK 327 1010 [some (.ref (a 188)), some (.ref (a 0)), some (.ref (a 170)), some (.ref (a 187)), some (.int (nI i)), e5, e6, e7, e8] [] f cn sn Q := by
  obtain ⟨hK, hM, ⟨o, ho⟩, hS⟩ := hI
  obtain ⟨kh0, kh1, kh2, kh23, kh30, kh40, kh42, ⟨_, kh37⟩, ⟨_, kh44⟩, ⟨_, kh46⟩, kh47, ⟨_, kh48⟩, ⟨_, kh12⟩, kh53⟩ := kK_hd hK
  have mh := hM.2.1
  unfold kMo at mh
  repeat' (first | (refine ⟨kl_l0 hc.1, kl_l0 hc.2, kj106 a f s _ hK ?_⟩) | (refine ky_ok_stp rfl ?_; simp (disch := first | omega | assumption) only [ky_stp, ky_inv, ky_ldi, ky_ldl, ky_ldd, ky_lda, ky_cl2, ky_st1, ky_st2, ky_s1i, ky_s2i, ky_s1l, ky_s2l, ky_sli, ky_s1f, ky_s2f, ky_s1d, ky_s2d, ky_sr, ky_sai, ky_sasi, ky_sasl, ky_sasr, ky_svr, ky_sv, ky_sv2, ky_s1, ky_cs, ky_pop, ky_nth, ky_snt, ky_obj, ky_ari, ky_arl, ky_arr, ky_arn, ky_fv, ky_rcv, List.map_cons, List.map_nil, List.drop_succ_cons, List.drop_zero, Value.category, Nat.reduceAdd, Nat.reduceSub, true_and, and_true, true_or, or_true, reduceCtorEq, ite_true, ite_false, eq_self, Nat.reduceEqDiff, Nat.reduceLeDiff, nI_add, nI_1, nI_leI, nI_ltI, nI_eq, nI_clamp, kz_m1, kz_mn, kz_mn2, kz_n0, kz_0n, kz_0, kz_le0, kz_0lt, false_implies, true_implies, not_false_eq_true, not_true_eq_false, Nat.zero_le, kb_0, kz_10, kz_of, ky_sw, kz_mx, kz_mi, hS, kh0, mh, Nat.add_zero]) | (refine ⟨vp_in_nI (by omega) (by omega), ?_⟩) | (refine ⟨fun zc => ?_, fun zc => ?_⟩ <;> try (exfalso; omega)) | fail)
  intro f' v hR hK' hF
  have hA : kAl a f a f' kL8 := kAl_fr hK.1 hF
  have hM' := kM_al hM hA fun j w => by unfold kL8 at w; omega
  have hS' := (hF 188 (by unfold kL8; omega)).trans hS
  have ho' := (hF 187 (by unfold kL8; omega)).trans ho
  have mh' := hM'.2.1
  unfold kMo at mh'
  (try simp only [ky_aft, ky_vl, Nat.reduceAdd])
  repeat' (first | (refine ⟨kl_l0 hc.1, kl_l0 hc.2, hR a f' g _ hM' ?_⟩) | (refine ky_ok_stp rfl ?_; simp (disch := first | omega | assumption) only [ky_stp, ky_inv, ky_ldi, ky_ldl, ky_ldd, ky_lda, ky_cl2, ky_st1, ky_st2, ky_s1i, ky_s2i, ky_s1l, ky_s2l, ky_sli, ky_s1f, ky_s2f, ky_s1d, ky_s2d, ky_sr, ky_sai, ky_sasi, ky_sasl, ky_sasr, ky_svr, ky_sv, ky_sv2, ky_s1, ky_cs, ky_pop, ky_nth, ky_snt, ky_obj, ky_ari, ky_arl, ky_arr, ky_arn, ky_fv, ky_rcv, List.map_cons, List.map_nil, List.drop_succ_cons, List.drop_zero, Value.category, Nat.reduceAdd, Nat.reduceSub, true_and, and_true, true_or, or_true, reduceCtorEq, ite_true, ite_false, eq_self, Nat.reduceEqDiff, Nat.reduceLeDiff, nI_add, nI_1, nI_leI, nI_ltI, nI_eq, nI_clamp, kz_m1, kz_mn, kz_mn2, kz_n0, kz_0n, kz_0, kz_le0, kz_0lt, false_implies, true_implies, not_false_eq_true, not_true_eq_false, Nat.zero_le, kb_0, kz_10, kz_of, ky_sw, kz_mx, kz_mi, hS', mh', Nat.add_zero]) | (refine ⟨vp_in_nI (by omega) (by omega), ?_⟩) | (refine ⟨fun zc => ?_, fun zc => ?_⟩ <;> try (exfalso; omega)) | fail)
  intro f2 g2 hM2 hg2 hF2
  (try simp only [ky_aft, ky_vl, Nat.reduceAdd])
  have hS2 := (hF2 188 (by unfold kMF; omega)).trans hS'
  have ho2 := (hF2 187 (by unfold kMF; omega)).trans ho'
  have hI2 : kLI a f2 g2 s sc n := ⟨kK_hi hK' (kAl_fr hM'.1 hF2) (fun j w => by unfold kMF at w; omega), hM2, ⟨_, ho2⟩, hS2⟩
  repeat' (first | (exact ih a f2 g2 s _ _ _ _ _ _ hI2 (by omega) (by omega)) | (contradiction) | (refine ky_ok_stp rfl ?_; simp (disch := first | omega | assumption) only [ky_stp, ky_inv, ky_ldi, ky_ldl, ky_ldd, ky_lda, ky_cl2, ky_st1, ky_st2, ky_s1i, ky_s2i, ky_s1l, ky_s2l, ky_sli, ky_s1f, ky_s2f, ky_s1d, ky_s2d, ky_sr, ky_sai, ky_sasi, ky_sasl, ky_sasr, ky_svr, ky_sv, ky_sv2, ky_s1, ky_cs, ky_pop, ky_nth, ky_snt, ky_obj, ky_ari, ky_arl, ky_arr, ky_arn, ky_fv, ky_rcv, List.map_cons, List.map_nil, List.drop_succ_cons, List.drop_zero, Value.category, Nat.reduceAdd, Nat.reduceSub, true_and, and_true, true_or, or_true, reduceCtorEq, ite_true, ite_false, eq_self, Nat.reduceEqDiff, Nat.reduceLeDiff, nI_add, nI_1, nI_leI, nI_ltI, nI_eq, nI_clamp, kz_m1, kz_mn, kz_mn2, kz_n0, kz_0n, kz_0, kz_le0, kz_0lt, false_implies, true_implies, not_false_eq_true, not_true_eq_false, Nat.zero_le, kb_0, kz_10, kz_of, ky_sw, kz_mx, kz_mi, Nat.add_zero]) | (refine ⟨vp_in_nI (by omega) (by omega), ?_⟩) | (refine ⟨fun zc => ?_, fun zc => ?_⟩ <;> try (exfalso; omega)) | fail)
set_option maxRecDepth 20000 in
theorem kc1 (hI : kLI a f g s sc n) (hi : i + 6 ≤ n) (hn : n < 100000) (hc : kLc cn sn) (ih : kLnx adK sc n i cn sn Q) : ky_ok adK 327 316 [some (.ref (a 188)), some (.ref (a 0)), some (.ref (a 170)), some (.ref (a 187)), some (.int (nI i)), e5, e6, e7, e8] [] f cn sn Q := by
  obtain ⟨hK, hM, ⟨o, ho⟩, hS⟩ := hI
  obtain ⟨kh0, kh1, kh2, kh23, kh30, kh40, kh42, ⟨_, kh37⟩, ⟨_, kh44⟩, ⟨_, kh46⟩, kh47, ⟨_, kh48⟩, ⟨_, kh12⟩, kh53⟩ := kK_hd hK
  have mh := hM.2.1
  unfold kMo at mh
  repeat' (first | (refine ⟨kl_l0 hc.1, kl_l0 hc.2, kj90 a f s _ hK ?_ (fun k t f' hkt => absurd hkt List.not_mem_nil)⟩) | (refine ky_ok_stp rfl ?_; simp (disch := first | omega | assumption) only [ky_stp, ky_inv, ky_ldi, ky_ldl, ky_ldd, ky_lda, ky_cl2, ky_st1, ky_st2, ky_s1i, ky_s2i, ky_s1l, ky_s2l, ky_sli, ky_s1f, ky_s2f, ky_s1d, ky_s2d, ky_sr, ky_sai, ky_sasi, ky_sasl, ky_sasr, ky_svr, ky_sv, ky_sv2, ky_s1, ky_cs, ky_pop, ky_nth, ky_snt, ky_obj, ky_ari, ky_arl, ky_arr, ky_arn, ky_fv, ky_rcv, List.map_cons, List.map_nil, List.drop_succ_cons, List.drop_zero, Value.category, Nat.reduceAdd, Nat.reduceSub, true_and, and_true, true_or, or_true, reduceCtorEq, ite_true, ite_false, eq_self, Nat.reduceEqDiff, Nat.reduceLeDiff, nI_add, nI_1, nI_leI, nI_ltI, nI_eq, nI_clamp, kz_m1, kz_mn, kz_mn2, kz_n0, kz_0n, kz_0, kz_le0, kz_0lt, false_implies, true_implies, not_false_eq_true, not_true_eq_false, Nat.zero_le, kb_0, kz_10, kz_of, ky_sw, kz_mx, kz_mi, hS, kh0, mh, Nat.add_zero, kz_c0, kz_1, kz_2, kz_3, kz_4, kz_5, nI_add]) | (refine ⟨vp_in_nI (by omega) (by omega), ?_⟩) | (refine ⟨fun zc => ?_, fun zc => ?_⟩ <;> try (exfalso; omega)) | fail)
  intro a' f' s' v hR hK' hA
  have hM' := kM_al hM hA fun j w => by unfold kL8 at w; omega
  have wS := kAl_at hA (show ¬ kL8 188 by unfold kL8; omega) hS
  have wM := kAl_at hA (show ¬ kL8 170 by unfold kL8; omega) mh
  have wO := kAl_at hA (show ¬ kL8 187 by unfold kL8; omega) ho
  have e0 := hA.2.2
  simp only [← wS.1, ← wM.1, ← e0, ← wO.1]
  have hS' := wS.2
  have mh' := hM'.2.1
  unfold kMo at mh'
  (try simp only [ky_aft, ky_vl, Nat.reduceAdd])
  repeat' (first | (refine ⟨kl_l0 hc.1, kl_l0 hc.2, hR a' f' g _ hM' ?_⟩) | (refine ky_ok_stp rfl ?_; simp (disch := first | omega | assumption) only [ky_stp, ky_inv, ky_ldi, ky_ldl, ky_ldd, ky_lda, ky_cl2, ky_st1, ky_st2, ky_s1i, ky_s2i, ky_s1l, ky_s2l, ky_sli, ky_s1f, ky_s2f, ky_s1d, ky_s2d, ky_sr, ky_sai, ky_sasi, ky_sasl, ky_sasr, ky_svr, ky_sv, ky_sv2, ky_s1, ky_cs, ky_pop, ky_nth, ky_snt, ky_obj, ky_ari, ky_arl, ky_arr, ky_arn, ky_fv, ky_rcv, List.map_cons, List.map_nil, List.drop_succ_cons, List.drop_zero, Value.category, Nat.reduceAdd, Nat.reduceSub, true_and, and_true, true_or, or_true, reduceCtorEq, ite_true, ite_false, eq_self, Nat.reduceEqDiff, Nat.reduceLeDiff, nI_add, nI_1, nI_leI, nI_ltI, nI_eq, nI_clamp, kz_m1, kz_mn, kz_mn2, kz_n0, kz_0n, kz_0, kz_le0, kz_0lt, false_implies, true_implies, not_false_eq_true, not_true_eq_false, Nat.zero_le, kb_0, kz_10, kz_of, ky_sw, kz_mx, kz_mi, hS', mh', Nat.add_zero, kz_c0, kz_1, kz_2, kz_3, kz_4, kz_5, nI_add]) | (refine ⟨vp_in_nI (by omega) (by omega), ?_⟩) | (refine ⟨fun zc => ?_, fun zc => ?_⟩ <;> try (exfalso; omega)) | fail)
  intro f2 g2 hM2 hg2 hF2
  (try simp only [ky_aft, ky_vl, Nat.reduceAdd])
  have hS2 := (hF2 188 (by unfold kMF; omega)).trans hS'
  have ho2 := (hF2 187 (by unfold kMF; omega)).trans wO.2
  have hI2 : kLI a' f2 g2 s' sc n := ⟨kK_hi hK' (kAl_fr hM'.1 hF2) (fun j w => by unfold kMF at w; omega), hM2, ⟨_, ho2⟩, hS2⟩
  repeat' (first | (exact ih a' f2 g2 s' _ _ _ _ _ _ hI2 (by omega) (by omega)) | (exact absurd rfl zc) | (refine ky_ok_stp rfl ?_; simp (disch := first | omega | assumption) only [ky_stp, ky_inv, ky_ldi, ky_ldl, ky_ldd, ky_lda, ky_cl2, ky_st1, ky_st2, ky_s1i, ky_s2i, ky_s1l, ky_s2l, ky_sli, ky_s1f, ky_s2f, ky_s1d, ky_s2d, ky_sr, ky_sai, ky_sasi, ky_sasl, ky_sasr, ky_svr, ky_sv, ky_sv2, ky_s1, ky_cs, ky_pop, ky_nth, ky_snt, ky_obj, ky_ari, ky_arl, ky_arr, ky_arn, ky_fv, ky_rcv, List.map_cons, List.map_nil, List.drop_succ_cons, List.drop_zero, Value.category, Nat.reduceAdd, Nat.reduceSub, true_and, and_true, true_or, or_true, reduceCtorEq, ite_true, ite_false, eq_self, Nat.reduceEqDiff, Nat.reduceLeDiff, nI_add, nI_1, nI_leI, nI_ltI, nI_eq, nI_clamp, kz_m1, kz_mn, kz_mn2, kz_n0, kz_0n, kz_0, kz_le0, kz_0lt, false_implies, true_implies, not_false_eq_true, not_true_eq_false, Nat.zero_le, kb_0, kz_10, kz_of, ky_sw, kz_mx, kz_mi, Nat.add_zero]) | (refine ⟨vp_in_nI (by omega) (by omega), ?_⟩) | (refine ⟨fun zc => ?_, fun zc => ?_⟩ <;> try (exfalso; omega)) | fail)
end KXL
