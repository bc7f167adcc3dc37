/-! ## saving, the mean -/
section KXV
variable {adK a : Nat → Nat} {f : ky_H} {s : kSt} {Q : ky_Q} {x y v : Int32} {p t w i e l j k b : Nat}
theorem kKo_al {a' : Nat → Nat} {f' : ky_H} {X : Nat → Prop} (h : kK a f s) (hA : kAl a f a' f' X) (hX : ∀ j, X j → j = 39 ∨ 60 ≤ j) (h39 : a' 39 = a 39) : kKo a' f' s.er s.ep := by
  obtain ⟨kh0, kh1, kh2, kh23, kh30, kh40, kh42, ⟨_, kh37⟩, ⟨_, kh44⟩, ⟨_, kh46⟩, kh47, ⟨_, kh48⟩, ⟨_, kh12⟩, kh53⟩ := kK_hd h
  have hX' : ∀ j, j < 60 → j ≠ 39 → ¬ X j := fun j h1 h2 w => by have := hX j w; omega
  obtain ⟨b1, b2, b3, b4⟩ := h
  show f' (a' 0) = _
  have w1 := (kAl_at hA (hX' 1 (by omega) (by omega)) kh1).1
  have w12 := (kAl_at hA (hX' 12 (by omega) (by omega)) kh12).1
  have w23 := (kAl_at hA (hX' 23 (by omega) (by omega)) kh23).1
  have w30 := (kAl_at hA (hX' 30 (by omega) (by omega)) kh30).1
  have w37 := (kAl_at hA (hX' 37 (by omega) (by omega)) kh37).1
  have w40 := (kAl_at hA (hX' 40 (by omega) (by omega)) kh40).1
  have w42 := (kAl_at hA (hX' 42 (by omega) (by omega)) kh42).1
  have w44 := (kAl_at hA (hX' 44 (by omega) (by omega)) kh44).1
  have w46 := (kAl_at hA (hX' 46 (by omega) (by omega)) kh46).1
  have w47 := (kAl_at hA (hX' 47 (by omega) (by omega)) kh47).1
  have w48 := (kAl_at hA (hX' 48 (by omega) (by omega)) kh48).1
  have w53 := (kAl_at hA (hX' 53 (by omega) (by omega)) kh53).1
  have w54 := (kAl_at hA (hX' 54 (by omega) (by omega)) b3.pl.choose_spec).1
  have w55 := (kAl_at hA (hX' 55 (by omega) (by omega)) b3.so.choose_spec).1
  have w56 := (kAl_at hA (hX' 56 (by omega) (by omega)) b3.tr.choose_spec).1
  rw [(kAl_at hA (hX' 0 (by omega) (by omega)) kh0).2, w1, w12, w23, w30, w37, h39, w40, w42, w44, w46, w47, w48, w53, w54, w55, w56]
theorem kK_al {a' : Nat → Nat} {f' : ky_H} {X : Nat → Prop} {v' : Nat → Option kZ} (h : kK a f s) (hA : kAl a f a' f' X) (hX : ∀ j, X j → j = 39 ∨ 148 ≤ j) (h39 : a' 39 = a 39) (hv : kSv a' f' v') (hz : ∀ i z, i < 2 → v' i = some z → kZo z) : kK a' f' (s.setV v') := by
  have hko := kKo_al h hA (fun j w => by have := hX j w; omega) h39
  obtain ⟨kh0, kh1, kh2, kh23, kh30, kh40, kh42, ⟨_, kh37⟩, ⟨_, kh44⟩, ⟨_, kh46⟩, kh47, ⟨_, kh48⟩, ⟨_, kh12⟩, kh53⟩ := kK_hd h
  have hX' : ∀ j, j < 148 → j ≠ 39 → ¬ X j := fun j h1 h2 w => by have := hX j w; omega
  obtain ⟨b1, b2, b3, b4⟩ := h
  refine ⟨hA.1, ⟨hko, kZb_al b2.z hA fun j z1 z2 => hX' j (by omega) (by omega), kHi_al b2.h hA (hX' 37 (by omega) (by omega)) (hX' 38 (by omega) (by omega)) fun j z1 z2 => hX' j (by omega) (by omega), hv, kB_al b2.bu hA (hX' 40 (by omega) (by omega)) (hX' 41 (by omega) (by omega)), kB_al b2.wr hA (hX' 42 (by omega) (by omega)) (hX' 43 (by omega) (by omega)), ?_, (kAl_at hA (hX' 53 (by omega) (by omega)) b2.ac).2⟩, ?_, ⟨b4.o, b4.u, hz⟩⟩
  · rw [(kAl_at hA (hX' 47 (by omega) (by omega)) kh47).2, (kAl_at hA (hX' 46 (by omega) (by omega)) kh46).1]
  · exact kK2_al b3 ⟨_, _, b2.bu⟩ hA fun j z1 z2 z3 z4 => hX' j (by omega) z4
theorem kx126 (h : kK a f s) (hy : ∀ i a' f' s', i < 2 → x = nI i → kSe (kSvs s i) s' → kK a' f' s' → kAl a f a' f' kL7 → Q (.inl (some (.int (nI s.o.n)))) f') (h2 : ¬ kRg 0 1 x → Q (.inr 2) f) : ky_cl adK 126 [.ref (a 0), .int x] f Q := by
  obtain ⟨kh0, kh1, kh2, kh23, kh30, kh40, kh42, ⟨_, kh37⟩, ⟨_, kh44⟩, ⟨_, kh46⟩, kh47, ⟨_, kh48⟩, ⟨_, kh12⟩, kh53⟩ := kK_hd h
  have ho := h.2.2.2.o
  have hd3 : (ky_GG adK).2.2.getD 3 [] = [.int 0, .null, .null, .null, .null, .null, .null] := rfl
  refine ⟨Nat.le_of_ble_eq_true rfl, fun z => absurd z (by decide), ?_⟩; show ky_ok adK 126 0 [some (.ref (a 0)), some (.int x), none] [] f 0 0 _
  by_cases hx : kRg 0 1 x
  case neg =>
    have hq := h2 hx
    repeat' (first | ((refine kx131 (fun z => absurd z hx) (fun _ => ?_); exact hq)) | (refine ky_ok_stp rfl ?_; simp (disch := first | omega | assumption) only [ky_stp, ky_inv, ky_ldi, ky_ldl, ky_ldd, ky_lda, ky_cl2, ky_st1, ky_st2, ky_s1i, ky_s2i, ky_s1l, ky_s2l, ky_sli, ky_s1f, ky_s2f, ky_s1d, ky_s2d, ky_sr, ky_sai, ky_sasi, ky_sasl, ky_sasr, ky_svr, ky_sv, ky_sv2, ky_s1, ky_cs, ky_pop, ky_nth, ky_snt, ky_obj, ky_ari, ky_arl, ky_arr, ky_arn, ky_fv, ky_rcv, List.map_cons, List.map_nil, List.drop_succ_cons, List.drop_zero, Value.category, Nat.reduceAdd, Nat.reduceSub, true_and, and_true, true_or, or_true, reduceCtorEq, ite_true, ite_false, eq_self, Nat.reduceEqDiff, Nat.reduceLeDiff, nI_add, nI_1, nI_leI, nI_ltI, nI_eq, nI_clamp, kz_m1, kz_mn, kz_mn2, kz_n0, kz_0n, kz_0, kz_le0, kz_0lt, false_implies, true_implies, not_false_eq_true, not_true_eq_false, Nat.zero_le, kb_0, kz_10, kz_of, ky_sw, kz_mx, kz_mi, kh0, kh1, kh2, kh23, kh30, kh40, kh42, kh37, kh44, kh46, kh47, kh48, kh12, kh53]) | (refine ⟨vp_in_nI (by omega) (by omega), ?_⟩) | (rw [if_neg (by decide)]; refine ⟨by decide, by decide, ?_⟩) | (refine ⟨by decide, by decide, ?_⟩) | (refine ⟨fun zc => ?_, fun zc => ?_⟩ <;> try (exfalso; omega)) | fail)
  obtain ⟨i, _, hi, rfl⟩ := id hx
  obtain ⟨g, e39, hg⟩ := h.2.1.v
  -- from the copy on
  have tail : ∀ b f1 g' zB cn sn, cn ≤ ky_ce 126 → sn ≤ ky_so 126 → kAl a f b f1 (fun j => j = 39 ∨ 148 + 11 * i ≤ j ∧ j ≤ 148 + 11 * i + 10) → b 39 = a 39 → f1 (b 39) = some (.inl (4, 2, .inr (.inr (.inr (.inr g'))))) → g' i = some (b (148 + 11 * i)) → kZb b (148 + 11 * i) f1 zB →
      (∀ j, j < 2 → j ≠ i → s.v j = none ∧ g' j = none ∨ ∃ z, s.v j = some z ∧ g' j = some (b (148 + 11 * j)) ∧ kZb b (148 + 11 * j) f1 z) →
      ky_ok adK 126 30 [some (.ref (b 0)), some (.int (nI i)), some (.ref (b (148 + 11 * i)))] [] f1 cn sn Q := by
    intro b f1 g' zB cn sn hcn hsn hA hb39 e39 hgn hzB hg'
    have hb := hA.1
    have hko : f1 (b 0) = _ := kKo_al h hA (fun j w => by omega) hb39
    obtain ⟨⟨G, hW⟩, hS⟩ := kZb_al h.2.1.z hA fun j z1 z2 => by omega
    obtain ⟨⟨G2, hW2⟩, hS2⟩ := hzB
    have y1 := kW_lv hW
    have y3 := kW_lv hW2
    repeat' (first | (refine ⟨hcn, hsn, ?_⟩) | (refine kx44 (k := 148 + 11 * i) (k2 := 1) hb (by omega) hW2 hS2 hW hS ho.n60 ?_) | (refine ky_ok_stp rfl ?_; simp (disch := first | omega | assumption) only [ky_stp, ky_inv, ky_ldi, ky_ldl, ky_ldd, ky_lda, ky_cl2, ky_st1, ky_st2, ky_s1i, ky_s2i, ky_s1l, ky_s2l, ky_sli, ky_s1f, ky_s2f, ky_s1d, ky_s2d, ky_sr, ky_sai, ky_sasi, ky_sasl, ky_sasr, ky_svr, ky_sv, ky_sv2, ky_s1, ky_cs, ky_pop, ky_nth, ky_snt, ky_obj, ky_ari, ky_arl, ky_arr, ky_arn, ky_fv, ky_rcv, List.map_cons, List.map_nil, List.drop_succ_cons, List.drop_zero, Value.category, Nat.reduceAdd, Nat.reduceSub, true_and, and_true, true_or, or_true, reduceCtorEq, ite_true, ite_false, eq_self, Nat.reduceEqDiff, Nat.reduceLeDiff, nI_add, nI_1, nI_leI, nI_ltI, nI_eq, nI_clamp, kz_m1, kz_mn, kz_mn2, kz_n0, kz_0n, kz_0, kz_le0, kz_0lt, false_implies, true_implies, not_false_eq_true, not_true_eq_false, Nat.zero_le, kb_0, kz_10, kz_of, ky_sw, kz_mx, kz_mi, hko, y1, y3]) | (refine ⟨vp_in_nI (by omega) (by omega), ?_⟩) | (rw [if_neg (by decide)]; refine ⟨by decide, by decide, ?_⟩) | (refine ⟨by decide, by decide, ?_⟩) | (refine ⟨fun zc => ?_, fun zc => ?_⟩ <;> try (exfalso; omega)) | fail)
    intro f2 R2 G3 S2 hW3 hS3 hF2 hR hSq
    simp only [ky_aft, ky_vl, Nat.reduceAdd]
    have hko2 : f2 (b 0) = _ := (hF2 0 (by unfold kBl; omega)).trans hko
    have y2 : f2 (b 1) = _ := (hF2 1 (by unfold kBl; omega)).trans y1
    have hA2 : kAl a f b f2 (fun j => j = 39 ∨ 148 + 11 * i ≤ j ∧ j ≤ 148 + 11 * i + 10) := kAl_tr hA (kAl_fr hb hF2) fun j hj => ⟨hj, fun w => hj (by unfold kBl at w; omega)⟩
    have he : kZe s.o ⟨s.o.n, R2, S2⟩ := ⟨rfl, hR, hSq⟩
    have hzb : kZb b (148 + 11 * i) f2 ⟨s.o.n, R2, S2⟩ := ⟨⟨_, hW3⟩, hS3⟩
    have hK : kK b f2 (s.setV fun j => if j = i then some ⟨s.o.n, R2, S2⟩ else s.v j) := by
      refine kK_al h hA2 (fun j w => by omega) hb39 ⟨g', (hF2 39 (by unfold kBl; omega)).trans e39, fun j hj => ?_⟩ fun j z hj hz => ?_
      · by_cases e : j = i
        · subst e
          exact Or.inr ⟨_, if_pos rfl, hgn, hzb⟩
        · rcases hg' j hj e with ⟨z1, z2⟩ | ⟨z, z1, z2, z3⟩
          · exact Or.inl ⟨(if_neg e).trans z1, z2⟩
          · exact Or.inr ⟨z, (if_neg e).trans z1, z2, kZb_fr z3 fun t t1 t2 => hF2 t (by unfold kBl; omega)⟩
      · by_cases e : j = i
        · rw [if_pos e] at hz
          injection hz with hz
          rw [← hz]
          exact kZo_e he ho
        · rw [if_neg e] at hz
          exact h.2.2.2.v j z hj hz
    repeat' (first | (refine ky_ok_stp rfl ?_; simp (disch := first | omega | assumption) only [ky_stp, ky_inv, ky_ldi, ky_ldl, ky_ldd, ky_lda, ky_cl2, ky_st1, ky_st2, ky_s1i, ky_s2i, ky_s1l, ky_s2l, ky_sli, ky_s1f, ky_s2f, ky_s1d, ky_s2d, ky_sr, ky_sai, ky_sasi, ky_sasl, ky_sasr, ky_svr, ky_sv, ky_sv2, ky_s1, ky_cs, ky_pop, ky_nth, ky_snt, ky_obj, ky_ari, ky_arl, ky_arr, ky_arn, ky_fv, ky_rcv, List.map_cons, List.map_nil, List.drop_succ_cons, List.drop_zero, Value.category, Nat.reduceAdd, Nat.reduceSub, true_and, and_true, true_or, or_true, reduceCtorEq, ite_true, ite_false, eq_self, Nat.reduceEqDiff, Nat.reduceLeDiff, nI_add, nI_1, nI_leI, nI_ltI, nI_eq, nI_clamp, kz_m1, kz_mn, kz_mn2, kz_n0, kz_0n, kz_0, kz_le0, kz_0lt, false_implies, true_implies, not_false_eq_true, not_true_eq_false, Nat.zero_le, kb_0, kz_10, kz_of, ky_sw, kz_mx, kz_mi, hko2, y2]) | (refine ⟨vp_in_nI (by omega) (by omega), ?_⟩) | (rw [if_neg (by decide)]; refine ⟨by decide, by decide, ?_⟩) | (refine ⟨by decide, by decide, ?_⟩) | (refine ⟨fun zc => ?_, fun zc => ?_⟩ <;> try (exfalso; omega)) | fail)
    refine hy i b f2 (s.setV fun j => if j = i then some ⟨s.o.n, R2, S2⟩ else s.v j) (by omega) rfl ⟨kZe_rf _, rfl, fun _ _ => kZe_rf _, fun j hj => ?_, rfl, rfl, fun _ _ => rfl, rfl, fun _ _ => rfl, rfl, rfl⟩ hK (kAl_tr hA2 (kAl_fr hb kfr_rf) fun j hj => ⟨fun w => hj (by unfold kL7; omega), hj⟩)
    by_cases e : j = i
    · exact Or.inr ⟨s.o, ⟨s.o.n, R2, S2⟩, if_pos e, if_pos e, he⟩
    · have h1 : (kSvs s i).v j = s.v j := if_neg e
      have h2 : (s.setV fun j => if j = i then some (⟨s.o.n, R2, S2⟩ : kZ) else s.v j).v j = s.v j := if_neg e
      rw [h1, h2]
      exact kSe_v s.v j
  rcases hg i (by omega) with ⟨g1, g2⟩ | ⟨z, g1, g2, hz⟩
  · repeat' (first | ((refine kx131 (fun _ => ?_) (fun z => absurd hx z); simp only [ky_aft, ky_vl, Nat.reduceAdd])) | (refine ⟨vp_in_nI (n := i) (by omega) (by omega), ?_⟩) | (refine ky_ok_stp rfl ?_; simp (disch := first | omega | assumption) only [ky_stp, ky_inv, ky_ldi, ky_ldl, ky_ldd, ky_lda, ky_cl2, ky_st1, ky_st2, ky_s1i, ky_s2i, ky_s1l, ky_s2l, ky_sli, ky_s1f, ky_s2f, ky_s1d, ky_s2d, ky_sr, ky_sai, ky_sasi, ky_sasl, ky_sasr, ky_svr, ky_sv, ky_sv2, ky_s1, ky_cs, ky_pop, ky_nth, ky_snt, ky_obj, ky_ari, ky_arl, ky_arr, ky_arn, ky_fv, ky_rcv, List.map_cons, List.map_nil, List.drop_succ_cons, List.drop_zero, Value.category, Nat.reduceAdd, Nat.reduceSub, true_and, and_true, true_or, or_true, reduceCtorEq, ite_true, ite_false, eq_self, Nat.reduceEqDiff, Nat.reduceLeDiff, nI_add, nI_1, nI_leI, nI_ltI, nI_eq, nI_clamp, kz_m1, kz_mn, kz_mn2, kz_n0, kz_0n, kz_0, kz_le0, kz_0lt, false_implies, true_implies, not_false_eq_true, not_true_eq_false, Nat.zero_le, kb_0, kz_10, kz_of, ky_sw, kz_mx, kz_mi, kh0, kh1, kh2, kh23, kh30, kh40, kh42, kh37, kh44, kh46, kh47, kh48, kh12, kh53, e39, g2, va_rf, hd3]) | (refine ⟨vp_in_nI (by omega) (by omega), ?_⟩) | (rw [if_neg (by decide)]; refine ⟨by decide, by decide, ?_⟩) | (refine ⟨by decide, by decide, ?_⟩) | (refine ⟨fun zc => ?_, fun zc => ?_⟩ <;> try (exfalso; omega)) | fail)
    intro q hq
    obtain ⟨b, hB, e⟩ := kI_sw (t := 148 + 11 * i) h.1 hq kh0 (by omega) (.inr (3, [.int 0, .null, .null, .null, .null, .null, .null]))
    subst e
    have t0 := kAl_at hB (show ¬ 0 = 148 + 11 * i by omega) kh0
    have t39 := kAl_at hB (show ¬ 39 = 148 + 11 * i by omega) e39
    have hb := hB.1
    have t0' := t0.2
    rw [← t39.1] at t0'
    simp only [← t0.1]
    repeat' (first | (refine kx24 (k := 148 + 11 * i) t0' (by omega) hb kz_same ?_) | (refine ky_ok_stp rfl ?_; simp (disch := first | omega | assumption) only [ky_stp, ky_inv, ky_ldi, ky_ldl, ky_ldd, ky_lda, ky_cl2, ky_st1, ky_st2, ky_s1i, ky_s2i, ky_s1l, ky_s2l, ky_sli, ky_s1f, ky_s2f, ky_s1d, ky_s2d, ky_sr, ky_sai, ky_sasi, ky_sasl, ky_sasr, ky_svr, ky_sv, ky_sv2, ky_s1, ky_cs, ky_pop, ky_nth, ky_snt, ky_obj, ky_ari, ky_arl, ky_arr, ky_arn, ky_fv, ky_rcv, List.map_cons, List.map_nil, List.drop_succ_cons, List.drop_zero, Value.category, Nat.reduceAdd, Nat.reduceSub, true_and, and_true, true_or, or_true, reduceCtorEq, ite_true, ite_false, eq_self, Nat.reduceEqDiff, Nat.reduceLeDiff, nI_add, nI_1, nI_leI, nI_ltI, nI_eq, nI_clamp, kz_m1, kz_mn, kz_mn2, kz_n0, kz_0n, kz_0, kz_le0, kz_0lt, false_implies, true_implies, not_false_eq_true, not_true_eq_false, Nat.zero_le, kb_0, kz_10, kz_of, ky_sw, kz_mx, kz_mi, t0', kz_same]) | (refine ⟨vp_in_nI (by omega) (by omega), ?_⟩) | (rw [if_neg (by decide)]; refine ⟨by decide, by decide, ?_⟩) | (refine ⟨by decide, by decide, ?_⟩) | (refine ⟨fun zc => ?_, fun zc => ?_⟩ <;> try (exfalso; omega)) | fail)
    intro c g1' hC hCk hZ
    obtain ⟨z0, -, hz0⟩ := hZ
    simp only [ky_aft, ky_vl, Nat.reduceAdd]
    have hc := hC.1
    have u0 := kAl_at hC (show ¬ (148 + 11 * i ≤ 0 ∧ 0 ≤ 148 + 11 * i + 10) by omega) t0'
    have u39 := kAl_at hC (show ¬ (148 + 11 * i ≤ 39 ∧ 39 ≤ 148 + 11 * i + 10) by omega) t39.2
    have u0' := u0.2
    rw [← u39.1] at u0'
    have y0 := hz0.1.choose_spec.1.1
    simp only [← u0.1, ← hCk]
    have hA1 : kAl a f c g1' (fun j => 148 + 11 * i ≤ j ∧ j ≤ 148 + 11 * i + 10) := kAl_tr hB hC fun j hj => ⟨by omega, hj⟩
    have hne : ∀ j, ¬ j = 39 → ∀ e, ky_up g1' (c 39) e (c j) = g1' (c j) := fun j hj e => kz_ne fun z => hj (hc _ _ z)
    have hA2 : kAl a f c (ky_up g1' (c 39) (.inl (4, 2, .inr (.inr (.inr (.inr (va_up g i (some (c (148 + 11 * i)))))))))) (fun j => j = 39 ∨ 148 + 11 * i ≤ j ∧ j ≤ 148 + 11 * i + 10) := kAl_tr hA1 (kAl_fr hc (kfr_up (S := fun j => j = 39) hc kfr_rf rfl)) fun j hj => ⟨fun w => hj (Or.inr w), fun w => hj (Or.inl w)⟩
    repeat' (first | (refine ⟨vp_in_nI (n := i) (by omega) (by omega), ?_⟩) | (refine tail c _ _ z0 _ _ (by decide) (by decide) hA2 (u39.1.trans t39.1) kz_same ?_ (kZb_fr hz0 fun j z1 z2 => hne j (by omega) _) (fun j hj hji => ?_)) | (refine ky_ok_stp rfl ?_; simp (disch := first | omega | assumption) only [ky_stp, ky_inv, ky_ldi, ky_ldl, ky_ldd, ky_lda, ky_cl2, ky_st1, ky_st2, ky_s1i, ky_s2i, ky_s1l, ky_s2l, ky_sli, ky_s1f, ky_s2f, ky_s1d, ky_s2d, ky_sr, ky_sai, ky_sasi, ky_sasl, ky_sasr, ky_svr, ky_sv, ky_sv2, ky_s1, ky_cs, ky_pop, ky_nth, ky_snt, ky_obj, ky_ari, ky_arl, ky_arr, ky_arn, ky_fv, ky_rcv, List.map_cons, List.map_nil, List.drop_succ_cons, List.drop_zero, Value.category, Nat.reduceAdd, Nat.reduceSub, true_and, and_true, true_or, or_true, reduceCtorEq, ite_true, ite_false, eq_self, Nat.reduceEqDiff, Nat.reduceLeDiff, nI_add, nI_1, nI_leI, nI_ltI, nI_eq, nI_clamp, kz_m1, kz_mn, kz_mn2, kz_n0, kz_0n, kz_0, kz_le0, kz_0lt, false_implies, true_implies, not_false_eq_true, not_true_eq_false, Nat.zero_le, kb_0, kz_10, kz_of, ky_sw, kz_mx, kz_mi, u0', u39.2, y0]) | (refine ⟨vp_in_nI (by omega) (by omega), ?_⟩) | (rw [if_neg (by decide)]; refine ⟨by decide, by decide, ?_⟩) | (refine ⟨by decide, by decide, ?_⟩) | (refine ⟨fun zc => ?_, fun zc => ?_⟩ <;> try (exfalso; omega)) | fail)
    · exact va_up_self _ _ _
    · rw [va_up_ne _ _ hji]
      rcases hg j hj with w | ⟨w, w1, w2, hw⟩
      · exact Or.inl w
      · have ew := kAl_at hA1 (show ¬ (148 + 11 * i ≤ 148 + 11 * j ∧ 148 + 11 * j ≤ 148 + 11 * i + 10) by omega) hw.1.choose_spec.1.1
        exact Or.inr ⟨w, w1, by rw [w2, ew.1], kZb_fr (kZb_al hw hA1 fun t z1 z2 => by omega) fun t z1 z2 => hne t (by omega) _⟩
  · repeat' (first | ((refine kx131 (fun _ => ?_) (fun z => absurd hx z); simp only [ky_aft, ky_vl, Nat.reduceAdd])) | (refine ⟨vp_in_nI (n := i) (by omega) (by omega), ?_⟩) | (refine tail a f g z _ _ (by decide) (by decide) (kAl_fr h.1 kfr_rf) rfl e39 g2 hz (fun j hj _ => hg j hj)) | (refine ky_ok_stp rfl ?_; simp (disch := first | omega | assumption) only [ky_stp, ky_inv, ky_ldi, ky_ldl, ky_ldd, ky_lda, ky_cl2, ky_st1, ky_st2, ky_s1i, ky_s2i, ky_s1l, ky_s2l, ky_sli, ky_s1f, ky_s2f, ky_s1d, ky_s2d, ky_sr, ky_sai, ky_sasi, ky_sasl, ky_sasr, ky_svr, ky_sv, ky_sv2, ky_s1, ky_cs, ky_pop, ky_nth, ky_snt, ky_obj, ky_ari, ky_arl, ky_arr, ky_arn, ky_fv, ky_rcv, List.map_cons, List.map_nil, List.drop_succ_cons, List.drop_zero, Value.category, Nat.reduceAdd, Nat.reduceSub, true_and, and_true, true_or, or_true, reduceCtorEq, ite_true, ite_false, eq_self, Nat.reduceEqDiff, Nat.reduceLeDiff, nI_add, nI_1, nI_leI, nI_ltI, nI_eq, nI_clamp, kz_m1, kz_mn, kz_mn2, kz_n0, kz_0n, kz_0, kz_le0, kz_0lt, false_implies, true_implies, not_false_eq_true, not_true_eq_false, Nat.zero_le, kb_0, kz_10, kz_of, ky_sw, kz_mx, kz_mi, kh0, kh1, kh2, kh23, kh30, kh40, kh42, kh37, kh44, kh46, kh47, kh48, kh12, kh53, e39, g2, va_rf]) | (refine ⟨vp_in_nI (by omega) (by omega), ?_⟩) | (rw [if_neg (by decide)]; refine ⟨by decide, by decide, ?_⟩) | (refine ⟨by decide, by decide, ?_⟩) | (refine ⟨fun zc => ?_, fun zc => ?_⟩ <;> try (exfalso; omega)) | fail)
end KXV
