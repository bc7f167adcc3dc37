/-! ## the reference: play, all of it -/
section KXM
variable {adK a : Nat → Nat} {f : ky_H} {Q : ky_Q} {g r C : Nat → Int32} {s : kSt} {p w n l i j t L m : Nat} {x y v : Int32} {z : kZ} {c : Nat → Nat} {X : Nat → kX}
theorem kM_ldp {f' : ky_H} {g' : Nat → Int32} {e st : Int32} (h : kM a f g s) (h0 : kMo a f' g') (hg : ∀ j, j = 1 ∨ j = 12 → g' j = g j) (h3 : g' 3 = 0) (h8 : g' 8 = e) (h9 : g' 9 = st) (h183 : ∃ T : Nat → Int32, f' (a 183) = some (.inl (1, 160, .inl T))) (hF : kfr a f f' (fun j => j = 170 ∨ j = 183)) : kM a f' g' ((s.setE e st).setB 0 s.bc) := by
  obtain ⟨ha, _, ⟨⟨r, h1, h2⟩, ⟨U, h3', h4⟩, ⟨V, B, h5, h6, h7⟩, ⟨C, h8', h9'⟩, ⟨T', h10, h11⟩, ⟨W, h12, h13⟩⟩, ⟨q1, q2, q3, q4, q5, q6, q7, q8, q9⟩, k3, k4⟩ := h
  exact ⟨ha, h0, ⟨⟨r, (hF 171 (by omega)).trans h1, h2⟩, ⟨U, (hF 174 (by omega)).trans h3', h4⟩, ⟨V, B, (hF 175 (by omega)).trans h5, (hF 176 (by omega)).trans h6, h7⟩, ⟨C, (hF 177 (by omega)).trans h8', h9'⟩, ⟨T', (hF 182 (by omega)).trans h10, fun i hi => absurd hi (Nat.not_lt_zero i)⟩, ⟨W, (hF 186 (by omega)).trans h12, h13⟩⟩, ⟨kar_fr q1 (hF 172 (by omega)), kar_fr q2 (hF 173 (by omega)), kar_fr q3 (hF 178 (by omega)), kar_fr q4 (hF 179 (by omega)), kar_fr q5 (hF 180 (by omega)), kar_fr q6 (hF 181 (by omega)), h183, kar_fr q8 (hF 184 (by omega)), kar_fr q9 (hF 185 (by omega))⟩, ⟨(hg 1 (by omega)).trans k3.1, h3, h8, h9, (hg 12 (by omega)).trans k3.2.2.2.2⟩, ⟨k4.1, Nat.zero_le _, fun i hi => absurd hi (Nat.not_lt_zero i), k4.2.2.2⟩⟩
theorem kx224 (hM : kM a f g s) (hz : kKz s) (hE : ∀ e st, kRcs s.bc s.bl 700 0 (fun _ => (0, 0, 0, 0)) (kTs s.bc s.bl 0) = .inl (e, st) → e ≠ 0 → kMQ a f (kLde s e st) 0 Q (-1)) (hO : ∀ n X, kRcs s.bc s.bl 700 0 (fun _ => (0, 0, 0, 0)) (kTs s.bc s.bl 0) = .inr (n, X) → ∃ d s', kPlc X n 0 (kPs s) d s' ∧ kMQ a f s' 0 Q (nI d)) : ky_cl adK 224 [.ref (a 170)] f Q := by
  have ho := hz.o
  have e4 : (4 : Int32) = nI 4 := rfl
  have rest : ∀ f1 g1, kM a f1 g1 s → g1 0 = 0 → kfr a f f1 kMF → ky_ok adK 224 5 [some (.ref (a 170)), none, none] [] f1 0 0 Q := by
    intro f1 g1 hM1 h10 hF1
    obtain ⟨ha, hMo, ⟨⟨r, hr, hR⟩, hU, hV, hC, hT, hW⟩, h2, h3, h4⟩ := id hM1
    have mh := hMo
    unfold kMo at mh
    have h60 := ho.n60
    have hL := kRw_l ho hR
    have hMt := kM_mt hM1
    have hL7 := hMt.2.2.1
    have hz0 : kKz (kPs s) := ⟨hz.o, hz.u, hz.v⟩
    -- the commands are done
    have lp2 : ∀ (n : Nat) (X : Nat → kX) (C : Nat → Int32), n ≤ 40 → kCd C n X → (∀ i, i < n → kXok (X i) ∧ ((X i).1 ≠ 0 → (X i).2.2.1 = (X i).2.1)) → ∀ m i si f3 g3 d s' (l1 : Int32), i + m = n → kPlc X m i si d s' → kM a f3 g3 si → kKz si → g3 0 = 0 → g3 11 = nI n → f3 (a 183) = some (.inl (1, 160, .inl C)) → kfr a f f3 kMF → kMQ a f s' 0 Q (nI (i + d)) → ky_ok adK 224 63 [some (.ref (a 170)), some (.int l1), some (.int (nI i))] [] f3 0 0 Q := by
      intro n X C hn40 hX hok m
      induction m with
      | zero =>
        intro i si f3 g3 d s' l1 hi hP hM3 hz3 h30 h311 h183 hF3 hQ
        obtain ⟨rfl, rfl⟩ := hP
        have mh3 := hM3.2.1
        unfold kMo at mh3
        repeat' (first | (refine ky_ok_stp rfl ?_; simp (disch := first | omega | assumption) only [ky_stp, ky_inv, ky_ldi, ky_ldl, ky_ldd, ky_lda, ky_cl2, ky_st1, ky_st2, ky_s1i, ky_s2i, ky_s1l, ky_s2l, ky_sli, ky_s1f, ky_s2f, ky_s1d, ky_s2d, ky_sr, ky_sai, ky_sasi, ky_sasl, ky_sasr, ky_svr, ky_sv, ky_sv2, ky_s1, ky_cs, ky_pop, ky_nth, ky_snt, ky_obj, ky_ari, ky_arl, ky_arr, ky_arn, ky_fv, ky_rcv, List.map_cons, List.map_nil, List.drop_succ_cons, List.drop_zero, Value.category, Nat.reduceAdd, Nat.reduceSub, true_and, and_true, true_or, or_true, reduceCtorEq, ite_true, ite_false, eq_self, Nat.reduceEqDiff, Nat.reduceLeDiff, nI_add, nI_1, nI_leI, nI_ltI, nI_eq, nI_clamp, kz_m1, kz_mn, kz_mn2, kz_n0, kz_0n, kz_0, kz_le0, kz_0lt, false_implies, true_implies, not_false_eq_true, not_true_eq_false, Nat.zero_le, kb_0, kz_10, kz_of, ky_sw, kz_mx, kz_mi, mh3, h311]) | (refine ⟨vp_in_nI (by omega) (by omega), ?_⟩) | (refine ⟨fun zc => ?_, fun zc => ?_⟩ <;> try (exfalso; omega)) | fail)
        exact hQ f3 g3 hM3 h30 hF3
      | succ m ih =>
        intro i si f3 g3 d s' l1 hi hP hM3 hz3 h30 h311 h183 hF3 hQ
        obtain ⟨s1, hse, hd⟩ := hP
        have mh3 := hM3.2.1
        unfold kMo at mh3
        have hin : i < n := by omega
        have hz1 : kKz s1 := kKz_e hse (kDo_ok hz3 (hok i hin).1)
        repeat' (first | (refine kx223 hM3 hz3 h183 hX hin hn40 (hok i hin).1 (hok i hin).2 ?_) | (refine ky_ok_stp rfl ?_; simp (disch := first | omega | assumption) only [ky_stp, ky_inv, ky_ldi, ky_ldl, ky_ldd, ky_lda, ky_cl2, ky_st1, ky_st2, ky_s1i, ky_s2i, ky_s1l, ky_s2l, ky_sli, ky_s1f, ky_s2f, ky_s1d, ky_s2d, ky_sr, ky_sai, ky_sasi, ky_sasl, ky_sasr, ky_svr, ky_sv, ky_sv2, ky_s1, ky_cs, ky_pop, ky_nth, ky_snt, ky_obj, ky_ari, ky_arl, ky_arr, ky_arn, ky_fv, ky_rcv, List.map_cons, List.map_nil, List.drop_succ_cons, List.drop_zero, Value.category, Nat.reduceAdd, Nat.reduceSub, true_and, and_true, true_or, or_true, reduceCtorEq, ite_true, ite_false, eq_self, Nat.reduceEqDiff, Nat.reduceLeDiff, nI_add, nI_1, nI_leI, nI_ltI, nI_eq, nI_clamp, kz_m1, kz_mn, kz_mn2, kz_n0, kz_0n, kz_0, kz_le0, kz_0lt, false_implies, true_implies, not_false_eq_true, not_true_eq_false, Nat.zero_le, kb_0, kz_10, kz_of, ky_sw, kz_mx, kz_mi, mh3, h311, e4, nI_mul]) | (refine ⟨vp_in_nI (by omega) (by omega), ?_⟩) | (refine ⟨fun zc => ?_, fun zc => ?_⟩ <;> try (exfalso; omega)) | fail)
        intro f4 g4 w1 w2 w3
        have w1 : kM a f4 g4 s1 := kM_e w1 hse
        have hF4 : kfr a f f4 kMF := kfr_tr hF3 w3 fun j hj => ⟨hj, fun w => hj w.1⟩
        (try simp only [ky_aft, ky_vl, Nat.reduceAdd])
        rcases hd with ⟨d1, d2, d3⟩ | ⟨d1, d', d2, d3⟩
        · subst d2 d3
          repeat' (first | (refine ky_ok_stp rfl ?_; simp (disch := first | omega | assumption) only [ky_stp, ky_inv, ky_ldi, ky_ldl, ky_ldd, ky_lda, ky_cl2, ky_st1, ky_st2, ky_s1i, ky_s2i, ky_s1l, ky_s2l, ky_sli, ky_s1f, ky_s2f, ky_s1d, ky_s2d, ky_sr, ky_sai, ky_sasi, ky_sasl, ky_sasr, ky_svr, ky_sv, ky_sv2, ky_s1, ky_cs, ky_pop, ky_nth, ky_snt, ky_obj, ky_ari, ky_arl, ky_arr, ky_arn, ky_fv, ky_rcv, List.map_cons, List.map_nil, List.drop_succ_cons, List.drop_zero, Value.category, Nat.reduceAdd, Nat.reduceSub, true_and, and_true, true_or, or_true, reduceCtorEq, ite_true, ite_false, eq_self, Nat.reduceEqDiff, Nat.reduceLeDiff, nI_add, nI_1, nI_leI, nI_ltI, nI_eq, nI_clamp, kz_m1, kz_mn, kz_mn2, kz_n0, kz_0n, kz_0, kz_le0, kz_0lt, false_implies, true_implies, not_false_eq_true, not_true_eq_false, Nat.zero_le, kb_0, kz_10, kz_of, ky_sw, kz_mx, kz_mi, eq_true d1, eq_false (Int32.not_le.mpr d1)]) | (refine ⟨vp_in_nI (by omega) (by omega), ?_⟩) | (refine ⟨fun zc => ?_, fun zc => ?_⟩ <;> try (exfalso; omega)) | fail)
          exact hQ f4 g4 w1 (w2.1.trans h30) hF4
        · subst d3
          have hi' := ih (i + 1) s1 f4 g4 d' s' l1 (by omega) d2 w1 hz1 (w2.1.trans h30) (w2.2.trans h311) ((w3 183 (fun w => w.2 rfl)).trans h183) hF4 (by rw [show i + 1 + d' = i + (d' + 1) by omega]; exact hQ)
          repeat' (first | (exact hi') | (refine ky_ok_stp rfl ?_; simp (disch := first | omega | assumption) only [ky_stp, ky_inv, ky_ldi, ky_ldl, ky_ldd, ky_lda, ky_cl2, ky_st1, ky_st2, ky_s1i, ky_s2i, ky_s1l, ky_s2l, ky_sli, ky_s1f, ky_s2f, ky_s1d, ky_s2d, ky_sr, ky_sai, ky_sasi, ky_sasl, ky_sasr, ky_svr, ky_sv, ky_sv2, ky_s1, ky_cs, ky_pop, ky_nth, ky_snt, ky_obj, ky_ari, ky_arl, ky_arr, ky_arn, ky_fv, ky_rcv, List.map_cons, List.map_nil, List.drop_succ_cons, List.drop_zero, Value.category, Nat.reduceAdd, Nat.reduceSub, true_and, and_true, true_or, or_true, reduceCtorEq, ite_true, ite_false, eq_self, Nat.reduceEqDiff, Nat.reduceLeDiff, nI_add, nI_1, nI_leI, nI_ltI, nI_eq, nI_clamp, kz_m1, kz_mn, kz_mn2, kz_n0, kz_0n, kz_0, kz_le0, kz_0lt, false_implies, true_implies, not_false_eq_true, not_true_eq_false, Nat.zero_le, kb_0, kz_10, kz_of, ky_sw, kz_mx, kz_mi, eq_false d1, eq_true (Int32.not_lt.mp d1)]) | (refine ⟨vp_in_nI (by omega) (by omega), ?_⟩) | (refine ⟨fun zc => ?_, fun zc => ?_⟩ <;> try (exfalso; omega)) | fail)
    generalize hc : s.bc = c at hMt hE hO
    generalize hLL : s.bl = L at hMt hE hO hL7
    have h183 := h2.2.2.2.2.2.2.1
    obtain ⟨C0, h183⟩ := h183
    -- not good
    have finE : ∀ f2 g2 e st, kMt a f2 g2 L c → kEr e st g2 → (∃ C', f2 (a 183) = some (.inl (1, 160, .inl C'))) → (∀ j, j < 4 ∨ 11 < j → g2 j = g1 j) → kfr a f1 f2 (fun j => j = 170 ∨ j = 183) → kRcs c L 700 0 (fun _ => (0, 0, 0, 0)) (kTs c L 0) = .inl (e, st) → e ≠ 0 → ky_ok adK 224 16 [some (.ref (a 170)), some (.int 0), none] [] f2 0 0 Q := by
      intro f2 g2 e st hMt2 hEr h183' hg hF hrd he
      have mh2 := hMt2.1
      unfold kMo at mh2
      have hh := fun f3 (h0 : kMo a f3 (upd g2 3 0)) (hF3 : kfr a f2 f3 (fun j => j = 170)) => hE e st hrd he f3 (upd g2 3 0) (by
        have := kM_ldp (e := nI e) (st := nI st) hM1 h0 (fun j hj => (pk_un (by omega)).trans (hg j (by omega))) rfl hEr.1 hEr.2 (kar_fr h183' (hF3 183 (by omega))) (kfr_tr hF hF3 fun j hj => ⟨hj, fun w => hj (Or.inl w)⟩)
        exact this) ((hg 0 (by omega)).trans h10) (kfr_tr hF1 (kfr_tr (T := kMF) hF hF3 fun j hj => ⟨fun w => hj (by unfold kMF; omega), fun w => hj (by unfold kMF; omega)⟩) fun j hj => ⟨hj, hj⟩)
      repeat' (first | (refine ky_ok_stp rfl ?_; simp (disch := first | omega | assumption) only [ky_stp, ky_inv, ky_ldi, ky_ldl, ky_ldd, ky_lda, ky_cl2, ky_st1, ky_st2, ky_s1i, ky_s2i, ky_s1l, ky_s2l, ky_sli, ky_s1f, ky_s2f, ky_s1d, ky_s2d, ky_sr, ky_sai, ky_sasi, ky_sasl, ky_sasr, ky_svr, ky_sv, ky_sv2, ky_s1, ky_cs, ky_pop, ky_nth, ky_snt, ky_obj, ky_ari, ky_arl, ky_arr, ky_arn, ky_fv, ky_rcv, List.map_cons, List.map_nil, List.drop_succ_cons, List.drop_zero, Value.category, Nat.reduceAdd, Nat.reduceSub, true_and, and_true, true_or, or_true, reduceCtorEq, ite_true, ite_false, eq_self, Nat.reduceEqDiff, Nat.reduceLeDiff, nI_add, nI_1, nI_leI, nI_ltI, nI_eq, nI_clamp, kz_m1, kz_mn, kz_mn2, kz_n0, kz_0n, kz_0, kz_le0, kz_0lt, false_implies, true_implies, not_false_eq_true, not_true_eq_false, Nat.zero_le, kb_0, kz_10, kz_of, ky_sw, kz_mx, kz_mi, mh2]) | (refine ⟨vp_in_nI (by omega) (by omega), ?_⟩) | (refine ⟨fun zc => ?_, fun zc => ?_⟩ <;> try (exfalso; omega)) | fail)
      exact hh _ (by unfold kMo; rw [kz_same]; rfl) (kfr_up ha kfr_rf rfl)
    have finO : ∀ f2 g2 st n X C, kMt a f2 g2 L c → kTq g2 c L st → kTk c L st = 0 → g2 11 = nI n → n ≤ 40 → f2 (a 183) = some (.inl (1, 160, .inl C)) → kCd C n X → (∀ i, i < n → kXok (X i) ∧ ((X i).1 ≠ 0 → (X i).2.2.1 = (X i).2.1)) → (∀ j, j < 4 ∨ 11 < j → g2 j = g1 j) → kfr a f1 f2 (fun j => j = 170 ∨ j = 183) → kRcs c L 700 0 (fun _ => (0, 0, 0, 0)) (kTs c L 0) = .inr (n, X) → ky_ok adK 224 16 [some (.ref (a 170)), some (.int 1), none] [] f2 0 0 Q := by
      intro f2 g2 st n X C hMt2 hT2 hk h11 hn40 h183' hX hok hg hF hrd
      have mh2 := hMt2.1
      unfold kMo at mh2
      have q6 := hT2.1.2.2.1
      have hq6 : (nI 0 = (0 : Int32)) = True := eq_true rfl
      obtain ⟨d, s', hP, hQ⟩ := hO n X hrd
      have hh := fun f3 (h0 : kMo a f3 (upd g2 3 0)) (hF3 : kfr a f2 f3 (fun j => j = 170)) l1 => lp2 n X C hn40 hX hok n 0 (kPs s) f3 (upd g2 3 0) d s' l1 (by omega) hP (by
        have := kM_ldp (e := 0) (st := -1) hM1 h0 (fun j hj => (pk_un (by omega)).trans (hg j (by omega))) rfl hT2.2.1 hT2.2.2 ⟨C, (hF3 183 (by omega)).trans h183'⟩ (kfr_tr hF hF3 fun j hj => ⟨hj, fun w => hj (Or.inl w)⟩)
        exact this) hz0 ((hg 0 (by omega)).trans h10) ((pk_un (by omega)).trans h11) ((hF3 183 (by omega)).trans h183') (kfr_tr hF1 (kfr_tr (T := kMF) hF hF3 fun j hj => ⟨fun w => hj (by unfold kMF; omega), fun w => hj (by unfold kMF; omega)⟩) fun j hj => ⟨hj, hj⟩) (by rw [Nat.zero_add]; exact hQ)
      repeat' (first | (exact hh _ (kMo_mk kz_same (by first | rfl | simp [upd, q6, hk]) (by first | rfl | simp [upd, q6, hk]) (by first | rfl | simp [upd, q6, hk]) (by first | rfl | simp [upd, q6, hk]) (by first | rfl | simp [upd, q6, hk]) (by first | rfl | simp [upd, q6, hk]) (by first | rfl | simp [upd, q6, hk]) (by first | rfl | simp [upd, q6, hk]) (by first | rfl | simp [upd, q6, hk]) (by first | rfl | simp [upd, q6, hk]) (by first | rfl | simp [upd, q6, hk]) (by first | rfl | simp [upd, q6, hk]) (by first | rfl | simp [upd, q6, hk])) (kfr_up ha kfr_rf rfl) _) | (refine ky_ok_stp rfl ?_; simp (disch := first | omega | assumption) only [ky_stp, ky_inv, ky_ldi, ky_ldl, ky_ldd, ky_lda, ky_cl2, ky_st1, ky_st2, ky_s1i, ky_s2i, ky_s1l, ky_s2l, ky_sli, ky_s1f, ky_s2f, ky_s1d, ky_s2d, ky_sr, ky_sai, ky_sasi, ky_sasl, ky_sasr, ky_svr, ky_sv, ky_sv2, ky_s1, ky_cs, ky_pop, ky_nth, ky_snt, ky_obj, ky_ari, ky_arl, ky_arr, ky_arn, ky_fv, ky_rcv, List.map_cons, List.map_nil, List.drop_succ_cons, List.drop_zero, Value.category, Nat.reduceAdd, Nat.reduceSub, true_and, and_true, true_or, or_true, reduceCtorEq, ite_true, ite_false, eq_self, Nat.reduceEqDiff, Nat.reduceLeDiff, nI_add, nI_1, nI_leI, nI_ltI, nI_eq, nI_clamp, kz_m1, kz_mn, kz_mn2, kz_n0, kz_0n, kz_0, kz_le0, kz_0lt, false_implies, true_implies, not_false_eq_true, not_true_eq_false, Nat.zero_le, kb_0, kz_10, kz_of, ky_sw, kz_mx, kz_mi, mh2, q6, hk, hq6, kz_up]) | (refine ⟨vp_in_nI (by omega) (by omega), ?_⟩) | (refine ⟨fun zc => ?_, fun zc => ?_⟩ <;> try (exfalso; omega)) | fail)
    have lp : ∀ m f2 g2 st n X C, 700 ≤ st + m → kRcs c L 700 0 (fun _ => (0, 0, 0, 0)) (kTs c L 0) = kRcs c L m n X st → n ≤ 40 → st ≤ L → kMt a f2 g2 L c → kTq g2 c L st → g2 11 = nI n → f2 (a 183) = some (.inl (1, 160, .inl C)) → kCd C n X → (∀ i, i < n → kXok (X i) ∧ ((X i).1 ≠ 0 → (X i).2.2.1 = (X i).2.1)) → (∀ j, j < 4 ∨ 11 < j → g2 j = g1 j) → kfr a f1 f2 (fun j => j = 170 ∨ j = 183) → ky_ok adK 224 16 [some (.ref (a 170)), some (.int 1), none] [] f2 0 0 Q := by
      intro m
      induction m with
      | zero =>
        intro f2 g2 st n X C hm hrd hn hst hMt2 hT2 h11 h183' hX hok hg hF
        exact finO f2 g2 st n X C hMt2 hT2 (by rw [kTk, if_neg (by omega)]) h11 hn h183' hX hok hg hF hrd
      | succ m ih =>
        intro f2 g2 st n X C hm hrd hn hst hMt2 hT2 h11 h183' hX hok hg hF
        rw [show kRcs c L (m + 1) n X st = (if kTk c L st = 0 then .inr (n, X) else if (kRc c L n st).1 = 0 then kRcs c L m (n + 1) (kxu X n (kRc c L n st).2.2) (kRc c L n st).2.1 else .inl ((kRc c L n st).1, (kRc c L n st).2.1)) from rfl] at hrd
        by_cases hk : kTk c L st = 0
        · rw [if_pos hk] at hrd
          exact finO f2 g2 st n X C hMt2 hT2 hk h11 hn h183' hX hok hg hF hrd
        rw [if_neg hk] at hrd
        have mh2 := hMt2.1
        unfold kMo at mh2
        have q6 := hT2.1.2.2.1
        have hk5 := kTk_5 c L st
        have hlt : st < L := by
          by_cases e : st < L
          · exact e
          · exact absurd (by rw [kTk, if_neg e]) hk
        have hprog := kTn_lt (c := c) hlt
        have n0 : (nI (kTk c L st) = 0) = False := by rw [show (0 : Int32) = nI 0 from rfl, nI_eq (by omega) (by omega)]; exact eq_false hk
        repeat' (first | (refine kx221 ha hMt2 hst hT2 h11 hn h183' hX (fun w p hw hY => ?_) (fun x s' hs' hsp hY hn40 hxo hxx => ?_)) | (refine ky_ok_stp rfl ?_; simp (disch := first | omega | assumption) only [ky_stp, ky_inv, ky_ldi, ky_ldl, ky_ldd, ky_lda, ky_cl2, ky_st1, ky_st2, ky_s1i, ky_s2i, ky_s1l, ky_s2l, ky_sli, ky_s1f, ky_s2f, ky_s1d, ky_s2d, ky_sr, ky_sai, ky_sasi, ky_sasl, ky_sasr, ky_svr, ky_sv, ky_sv2, ky_s1, ky_cs, ky_pop, ky_nth, ky_snt, ky_obj, ky_ari, ky_arl, ky_arr, ky_arn, ky_fv, ky_rcv, List.map_cons, List.map_nil, List.drop_succ_cons, List.drop_zero, Value.category, Nat.reduceAdd, Nat.reduceSub, true_and, and_true, true_or, or_true, reduceCtorEq, ite_true, ite_false, eq_self, Nat.reduceEqDiff, Nat.reduceLeDiff, nI_add, nI_1, nI_leI, nI_ltI, nI_eq, nI_clamp, kz_m1, kz_mn, kz_mn2, kz_n0, kz_0n, kz_0, kz_le0, kz_0lt, false_implies, true_implies, not_false_eq_true, not_true_eq_false, Nat.zero_le, kb_0, kz_10, kz_of, ky_sw, kz_mx, kz_mi, mh2, q6, n0, eq_false hk]) | (refine ⟨vp_in_nI (by omega) (by omega), ?_⟩) | (refine ⟨fun zc => ?_, fun zc => ?_⟩ <;> try (exfalso; omega)) | fail)
        · rw [hY] at hrd
          have hrd := hrd.trans (if_neg hw)
          intro f3 g3 w1 w2 w3 w4 w5
          (try simp only [ky_aft, ky_vl, Nat.reduceAdd])
          have hf := finE f3 g3 w p w1 w2 w3 (fun j hj => (w4 j hj).trans (hg j hj)) (kfr_tr hF w5 fun j hj => ⟨hj, hj⟩) hrd hw
          repeat' (first | (exact hf) | (refine ky_ok_stp rfl ?_; simp (disch := first | omega | assumption) only [ky_stp, ky_inv, ky_ldi, ky_ldl, ky_ldd, ky_lda, ky_cl2, ky_st1, ky_st2, ky_s1i, ky_s2i, ky_s1l, ky_s2l, ky_sli, ky_s1f, ky_s2f, ky_s1d, ky_s2d, ky_sr, ky_sai, ky_sasi, ky_sasl, ky_sasr, ky_svr, ky_sv, ky_sv2, ky_s1, ky_cs, ky_pop, ky_nth, ky_snt, ky_obj, ky_ari, ky_arl, ky_arr, ky_arn, ky_fv, ky_rcv, List.map_cons, List.map_nil, List.drop_succ_cons, List.drop_zero, Value.category, Nat.reduceAdd, Nat.reduceSub, true_and, and_true, true_or, or_true, reduceCtorEq, ite_true, ite_false, eq_self, Nat.reduceEqDiff, Nat.reduceLeDiff, nI_add, nI_1, nI_leI, nI_ltI, nI_eq, nI_clamp, kz_m1, kz_mn, kz_mn2, kz_n0, kz_0n, kz_0, kz_le0, kz_0lt, false_implies, true_implies, not_false_eq_true, not_true_eq_false, Nat.zero_le, kb_0, kz_10, kz_of, ky_sw, kz_mx, kz_mi]) | (refine ⟨vp_in_nI (by omega) (by omega), ?_⟩) | (refine ⟨fun zc => ?_, fun zc => ?_⟩ <;> try (exfalso; omega)) | fail)
        · have eF1 : (kRk c L x s').1 = if kTk c L s' = 4 then 0 else 1 := rfl
          have eF2 : (kRk c L x s').2.1 = if kTk c L s' = 4 then kTn c L s' else s' := rfl
          have eF3 : (kRk c L x s').2.2 = x := rfl
          rw [hY, eF3] at hrd
          intro f3 g3 C3 w1 w2 w3 w4 w5 w6 w7
          (try simp only [ky_aft, ky_vl, Nat.reduceAdd])
          have mh3 := w1.1
          unfold kMo at mh3
          have hg3 : ∀ j, j < 4 ∨ 11 < j → g3 j = g1 j := fun j hj => (w6 j hj).trans (hg j hj)
          have hF3 : kfr a f1 f3 (fun j => j = 170 ∨ j = 183) := kfr_tr hF w7 fun j hj => ⟨hj, hj⟩
          have hok3 : ∀ i, i < n + 1 → kXok (kxu X n x i) ∧ ((kxu X n x i).1 ≠ 0 → (kxu X n x i).2.2.1 = (kxu X n x i).2.1) := fun i hi => by
            unfold kxu
            by_cases e : i = n
            · rw [if_pos e]; exact ⟨hxo, hxx⟩
            · rw [if_neg e]; exact hok i (by omega)
          repeat' (first | (refine kx208 ha w1 hs' w2 (fun k4 => ?_) (fun k4 => ?_)) | (refine ky_ok_stp rfl ?_; simp (disch := first | omega | assumption) only [ky_stp, ky_inv, ky_ldi, ky_ldl, ky_ldd, ky_lda, ky_cl2, ky_st1, ky_st2, ky_s1i, ky_s2i, ky_s1l, ky_s2l, ky_sli, ky_s1f, ky_s2f, ky_s1d, ky_s2d, ky_sr, ky_sai, ky_sasi, ky_sasl, ky_sasr, ky_svr, ky_sv, ky_sv2, ky_s1, ky_cs, ky_pop, ky_nth, ky_snt, ky_obj, ky_ari, ky_arl, ky_arr, ky_arn, ky_fv, ky_rcv, List.map_cons, List.map_nil, List.drop_succ_cons, List.drop_zero, Value.category, Nat.reduceAdd, Nat.reduceSub, true_and, and_true, true_or, or_true, reduceCtorEq, ite_true, ite_false, eq_self, Nat.reduceEqDiff, Nat.reduceLeDiff, nI_add, nI_1, nI_leI, nI_ltI, nI_eq, nI_clamp, kz_m1, kz_mn, kz_mn2, kz_n0, kz_0n, kz_0, kz_le0, kz_0lt, false_implies, true_implies, not_false_eq_true, not_true_eq_false, Nat.zero_le, kb_0, kz_10, kz_of, ky_sw, kz_mx, kz_mi, mh3]) | (refine ⟨vp_in_nI (by omega) (by omega), ?_⟩) | (refine ⟨fun zc => ?_, fun zc => ?_⟩ <;> try (exfalso; omega)) | fail)
          · rw [if_pos k4] at eF1 eF2
            rw [if_pos eF1, eF2] at hrd
            intro f4 g4 u1 u2 u3 u4
            (try simp only [ky_aft, ky_vl, Nat.reduceAdd])
            have t4 := kTn_le (c := c) hs'
            have hi := ih f4 g4 (kTn c L s') (n + 1) _ C3 (by omega) hrd (by omega) t4.2 u1 u2.1 ((u3 11 (by omega)).trans w3) ((u4 183 (by omega)).trans w4) w5 hok3 (fun j hj => (u3 j (by omega)).trans (hg3 j hj)) (kfr_tr hF3 u4 fun j hj => ⟨hj, fun w => hj (Or.inl w)⟩)
            repeat' (first | (exact hi) | (refine ky_ok_stp rfl ?_; simp (disch := first | omega | assumption) only [ky_stp, ky_inv, ky_ldi, ky_ldl, ky_ldd, ky_lda, ky_cl2, ky_st1, ky_st2, ky_s1i, ky_s2i, ky_s1l, ky_s2l, ky_sli, ky_s1f, ky_s2f, ky_s1d, ky_s2d, ky_sr, ky_sai, ky_sasi, ky_sasl, ky_sasr, ky_svr, ky_sv, ky_sv2, ky_s1, ky_cs, ky_pop, ky_nth, ky_snt, ky_obj, ky_ari, ky_arl, ky_arr, ky_arn, ky_fv, ky_rcv, List.map_cons, List.map_nil, List.drop_succ_cons, List.drop_zero, Value.category, Nat.reduceAdd, Nat.reduceSub, true_and, and_true, true_or, or_true, reduceCtorEq, ite_true, ite_false, eq_self, Nat.reduceEqDiff, Nat.reduceLeDiff, nI_add, nI_1, nI_leI, nI_ltI, nI_eq, nI_clamp, kz_m1, kz_mn, kz_mn2, kz_n0, kz_0n, kz_0, kz_le0, kz_0lt, false_implies, true_implies, not_false_eq_true, not_true_eq_false, Nat.zero_le, kb_0, kz_10, kz_of, ky_sw, kz_mx, kz_mi]) | (refine ⟨vp_in_nI (by omega) (by omega), ?_⟩) | (refine ⟨fun zc => ?_, fun zc => ?_⟩ <;> try (exfalso; omega)) | fail)
          · rw [if_neg k4] at eF1 eF2
            rw [if_neg (by rw [eF1]; decide), eF1, eF2] at hrd
            intro f4 g4 u1 u2 u3 u4
            (try simp only [ky_aft, ky_vl, Nat.reduceAdd])
            have hf := finE f4 g4 1 s' u1 u2 ⟨C3, (u4 183 (by omega)).trans w4⟩ (fun j hj => (u3 j (by omega)).trans (hg3 j hj)) (kfr_tr hF3 u4 fun j hj => ⟨hj, fun w => hj (Or.inl w)⟩) hrd (by decide)
            repeat' (first | (exact hf) | (refine ky_ok_stp rfl ?_; simp (disch := first | omega | assumption) only [ky_stp, ky_inv, ky_ldi, ky_ldl, ky_ldd, ky_lda, ky_cl2, ky_st1, ky_st2, ky_s1i, ky_s2i, ky_s1l, ky_s2l, ky_sli, ky_s1f, ky_s2f, ky_s1d, ky_s2d, ky_sr, ky_sai, ky_sasi, ky_sasl, ky_sasr, ky_svr, ky_sv, ky_sv2, ky_s1, ky_cs, ky_pop, ky_nth, ky_snt, ky_obj, ky_ari, ky_arl, ky_arr, ky_arn, ky_fv, ky_rcv, List.map_cons, List.map_nil, List.drop_succ_cons, List.drop_zero, Value.category, Nat.reduceAdd, Nat.reduceSub, true_and, and_true, true_or, or_true, reduceCtorEq, ite_true, ite_false, eq_self, Nat.reduceEqDiff, Nat.reduceLeDiff, nI_add, nI_1, nI_leI, nI_ltI, nI_eq, nI_clamp, kz_m1, kz_mn, kz_mn2, kz_n0, kz_0n, kz_0, kz_le0, kz_0lt, false_implies, true_implies, not_false_eq_true, not_true_eq_false, Nat.zero_le, kb_0, kz_10, kz_of, ky_sw, kz_mx, kz_mi]) | (refine ⟨vp_in_nI (by omega) (by omega), ?_⟩) | (refine ⟨fun zc => ?_, fun zc => ?_⟩ <;> try (exfalso; omega)) | fail)
    have mh1 := hMo
    unfold kMo at mh1
    repeat' (first | (refine kx209 ha hMt ?_) | (refine ky_ok_stp rfl ?_; simp (disch := first | omega | assumption) only [ky_stp, ky_inv, ky_ldi, ky_ldl, ky_ldd, ky_lda, ky_cl2, ky_st1, ky_st2, ky_s1i, ky_s2i, ky_s1l, ky_s2l, ky_sli, ky_s1f, ky_s2f, ky_s1d, ky_s2d, ky_sr, ky_sai, ky_sasi, ky_sasl, ky_sasr, ky_svr, ky_sv, ky_sv2, ky_s1, ky_cs, ky_pop, ky_nth, ky_snt, ky_obj, ky_ari, ky_arl, ky_arr, ky_arn, ky_fv, ky_rcv, List.map_cons, List.map_nil, List.drop_succ_cons, List.drop_zero, Value.category, Nat.reduceAdd, Nat.reduceSub, true_and, and_true, true_or, or_true, reduceCtorEq, ite_true, ite_false, eq_self, Nat.reduceEqDiff, Nat.reduceLeDiff, nI_add, nI_1, nI_leI, nI_ltI, nI_eq, nI_clamp, kz_m1, kz_mn, kz_mn2, kz_n0, kz_0n, kz_0, kz_le0, kz_0lt, false_implies, true_implies, not_false_eq_true, not_true_eq_false, Nat.zero_le, kb_0, kz_10, kz_of, ky_sw, kz_mx, kz_mi, mh1]) | (refine ⟨vp_in_nI (by omega) (by omega), ?_⟩) | (refine ⟨fun zc => ?_, fun zc => ?_⟩ <;> try (exfalso; omega)) | fail)
    intro f2 g2 w1 w2 w3 w4
    (try simp only [ky_aft, ky_vl, Nat.reduceAdd])
    have mh2 := w1.1
    unfold kMo at mh2
    have hl := fun f3 (h0 : kMo a f3 (upd g2 11 0)) (hF3 : kfr a f2 f3 (fun j => j = 170)) => lp 700 f3 (upd g2 11 0) (kTs c L 0) 0 (fun _ => (0, 0, 0, 0)) C0 (by omega) rfl (by omega) (kTs_le (Nat.zero_le L)).2 (kMt_up w1 h0 rfl hF3) w2 rfl ((hF3 183 (by omega)).trans ((w4 183 (by omega)).trans h183)) (fun i hi => absurd hi (Nat.not_lt_zero i)) (fun i hi => absurd hi (Nat.not_lt_zero i)) (fun j hj => (pk_un (by omega)).trans (w3 j (by omega))) (kfr_tr w4 hF3 fun j hj => ⟨fun w => hj (Or.inl w), fun w => hj (Or.inl w)⟩)
    repeat' (first | (exact hl _ (by unfold kMo; rw [kz_same]; rfl) (kfr_up ha kfr_rf rfl)) | (refine ky_ok_stp rfl ?_; simp (disch := first | omega | assumption) only [ky_stp, ky_inv, ky_ldi, ky_ldl, ky_ldd, ky_lda, ky_cl2, ky_st1, ky_st2, ky_s1i, ky_s2i, ky_s1l, ky_s2l, ky_sli, ky_s1f, ky_s2f, ky_s1d, ky_s2d, ky_sr, ky_sai, ky_sasi, ky_sasl, ky_sasr, ky_svr, ky_sv, ky_sv2, ky_s1, ky_cs, ky_pop, ky_nth, ky_snt, ky_obj, ky_ari, ky_arl, ky_arr, ky_arn, ky_fv, ky_rcv, List.map_cons, List.map_nil, List.drop_succ_cons, List.drop_zero, Value.category, Nat.reduceAdd, Nat.reduceSub, true_and, and_true, true_or, or_true, reduceCtorEq, ite_true, ite_false, eq_self, Nat.reduceEqDiff, Nat.reduceLeDiff, nI_add, nI_1, nI_leI, nI_ltI, nI_eq, nI_clamp, kz_m1, kz_mn, kz_mn2, kz_n0, kz_0n, kz_0, kz_le0, kz_0lt, false_implies, true_implies, not_false_eq_true, not_true_eq_false, Nat.zero_le, kb_0, kz_10, kz_of, ky_sw, kz_mx, kz_mi, mh2]) | (refine ⟨vp_in_nI (by omega) (by omega), ?_⟩) | (refine ⟨fun zc => ?_, fun zc => ?_⟩ <;> try (exfalso; omega)) | fail)
  have mh := hM.2.1
  unfold kMo at mh
  refine ⟨Nat.le_of_ble_eq_true rfl, fun z => absurd z (by decide), ?_⟩; show ky_ok adK 224 0 [some (.ref (a 170)), none, none] [] f 0 0 _
  repeat' (first | (exact rest _ _ (kM_t0 hM) rfl (kMF_170 (kfr_up hM.1 kfr_rf rfl))) | (refine ky_ok_stp rfl ?_; simp (disch := first | omega | assumption) only [ky_stp, ky_inv, ky_ldi, ky_ldl, ky_ldd, ky_lda, ky_cl2, ky_st1, ky_st2, ky_s1i, ky_s2i, ky_s1l, ky_s2l, ky_sli, ky_s1f, ky_s2f, ky_s1d, ky_s2d, ky_sr, ky_sai, ky_sasi, ky_sasl, ky_sasr, ky_svr, ky_sv, ky_sv2, ky_s1, ky_cs, ky_pop, ky_nth, ky_snt, ky_obj, ky_ari, ky_arl, ky_arr, ky_arn, ky_fv, ky_rcv, List.map_cons, List.map_nil, List.drop_succ_cons, List.drop_zero, Value.category, Nat.reduceAdd, Nat.reduceSub, true_and, and_true, true_or, or_true, reduceCtorEq, ite_true, ite_false, eq_self, Nat.reduceEqDiff, Nat.reduceLeDiff, nI_add, nI_1, nI_leI, nI_ltI, nI_eq, nI_clamp, kz_m1, kz_mn, kz_mn2, kz_n0, kz_0n, kz_0, kz_le0, kz_0lt, false_implies, true_implies, not_false_eq_true, not_true_eq_false, Nat.zero_le, kb_0, kz_10, kz_of, ky_sw, kz_mx, kz_mi, mh]) | (refine ⟨vp_in_nI (by omega) (by omega), ?_⟩) | (refine ⟨fun zc => ?_, fun zc => ?_⟩ <;> try (exfalso; omega)) | fail)
end KXM
