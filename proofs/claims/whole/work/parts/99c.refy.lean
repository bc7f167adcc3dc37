/-! ## the reference: play -/
theorem kKz_e {s s' : kSt} (h : kSe s s') (hz : kKz s) : kKz s' := by
  obtain ⟨e1, e2, e3, e4, -⟩ := h
  refine ⟨kZo_e e1 hz.o, fun j hj => ?_, fun i z hi hv => ?_⟩
  · rw [e2] at hj
    exact kZo_e (e3 j hj) (hz.u j hj)
  · rcases e4 i hi with ⟨q1, q2⟩ | ⟨z1, z2, q1, q2, q3⟩
    · rw [q2] at hv; cases hv
    · rw [q2] at hv
      injection hv with hv
      subst hv
      exact kZo_e q3 (hz.v i z1 hi q1)
theorem kKz_beg {s : kSt} {z : kZ} (hz : kKz s) (ho : kZo z) : kKz ((kBeg s).setO z) := by
  refine ⟨ho, fun j hj => ?_, hz.v⟩
  have hj : j < min (s.un + 1) 8 := hj
  show kZo (kCons s.o s.u j)
  unfold kCons
  by_cases e : j = 0
  · rw [if_pos e]; exact hz.o
  · rw [if_neg e]; exact hz.u _ (by omega)
theorem kKz_ref {s : kSt} {k : Nat} (hz : kKz s) : kKz (kRef s k) := ⟨hz.o, hz.u, hz.v⟩
theorem kDo_ok {s : kSt} {x : kX} (hz : kKz s) (hx : kXok x) : kKz (kDo s x).2 := by
  have ho := hz.o
  have h60 := ho.n60
  obtain ⟨x7, x60, y60, w3⟩ := hx
  unfold kDo
  by_cases c : x.2.1 < s.o.n ∧ x.2.2.1 < s.o.n
  case neg => rw [if_neg c]; exact hz
  rw [if_pos c]
  obtain ⟨hp, ht⟩ := c
  by_cases c0 : x.1 = 0
  · rw [if_pos c0]
    unfold kTv'
    by_cases h0 : kMR s.o x.2.1 x.2.2.1 x.2.2.2 = 0
    · rw [if_pos h0]; exact kKz_beg hz (kMz_ok ho hp ht h0)
    · rw [if_neg h0]; exact kKz_ref hz
  rw [if_neg c0]
  by_cases c1 : x.1 = 1
  · rw [if_pos c1]
    unfold kTp
    by_cases h0 : kV s.o.R x.2.1 = 1
    · rw [if_pos h0]; exact kKz_ref hz
    · rw [if_neg h0]; exact kKz_beg hz (kPro_ok ho hp h0)
  rw [if_neg c1]
  by_cases c2 : x.1 = 2
  · rw [if_pos c2]
    unfold kTe'
    by_cases h0 : kSb (kL s.o.R) (kL s.o.R x.2.1) x.2.1 0 = 0
    · rw [if_pos h0]; exact kKz_ref hz
    rw [if_neg h0]
    by_cases h6 : 6 ≤ kG (kL s.o.R) x.2.1 (kEnd s.o x.2.1 - x.2.1) 0
    · rw [if_pos h6]; exact kKz_ref hz
    rw [if_neg h6]
    have hE := kEnd_le hp
    obtain ⟨hp0, hlt⟩ := kSb_pos x.2.1 0 h0
    rw [kZ_lt ho (show x.2.1 - 1 < s.o.n by omega) hp] at hlt
    obtain ⟨X, x1, x2, x3, x4⟩ := kG_le (V := kV s.o.R) (L := kL s.o.R) (kEnd s.o x.2.1 - x.2.1) x.2.1 0 (fun j z1 z2 => ⟨(ho.lv j (by omega)).1, (ho.lv j (by omega)).2.2⟩) (by decide)
    have x1' : kG (kL s.o.R) x.2.1 (kEnd s.o x.2.1 - x.2.1) 0 = nI X := x1
    rw [x1', show (6 : Int32) = nI 6 from rfl, nI_leI (by omega) (by omega)] at h6
    exact kKz_beg hz (kDem_ok ho hp (by omega) (by omega) fun j z1 z2 => by have := x4 j z1 (by omega); omega)
  rw [if_neg c2]
  by_cases c3 : x.1 = 3
  · rw [if_pos c3]; exact kKz_beg hz (kRmz_ok ho hp)
  rw [if_neg c3]
  by_cases c4 : x.1 = 4
  · rw [if_pos c4]; exact kKz_beg hz (kDsz_ok ho hp)
  rw [if_neg c4]
  have fd : ∀ b : Int32, k01 b → kKz (kTf s x.2.1 b).2 := fun b hb => by
    unfold kTf
    by_cases h0 : kFo s.o.R x.2.1 = b
    · rw [if_pos h0]; exact kKz_ref hz
    rw [if_neg h0]
    by_cases h1 : ¬ b = 0 ∧ ¬ x.2.1 + 1 < kEnd s.o x.2.1
    · rw [if_pos h1]; exact kKz_ref hz
    · rw [if_neg h1]; exact kKz_beg hz (kFdz_ok ho hb)
  by_cases c5 : x.1 = 5
  · rw [if_pos c5]; exact fd 1 (Or.inr rfl)
  rw [if_neg c5]
  by_cases c6 : x.1 = 6
  · rw [if_pos c6]; exact fd 0 (Or.inl rfl)
  rw [if_neg c6]
  unfold kTs'
  by_cases h0 : kCl s.o (x.2.1 + 1) = []
  · rw [if_pos h0]; exact kKz_ref hz
  · rw [if_neg h0]; exact kKz_beg hz (kSoz_ok ho hp)
section KXM
variable {adK a : Nat → Nat} {f : ky_H} {Q : ky_Q} {g r C : Nat → Int32} {s : kSt} {p w n l i j t L m : Nat} {x y v : Int32} {z : kZ} {c : Nat → Nat} {X : Nat → kX}
theorem kx223 (hM : kM a f g s) (hz : kKz s) (hC : f (a 183) = some (.inl (1, 160, .inl C))) (hX : kCd C n X) (hi : i < n) (hn : n ≤ 40) (hok : kXok (X i)) (hxx : (X i).1 ≠ 0 → (X i).2.2.1 = (X i).2.1) (hQ : kAQ a f g (kDo s (X i)) Q) : ky_cl adK 223 [.ref (a 170), .int (nI (4 * i))] f Q := by
  have ho := hz.o
  have h60 := ho.n60
  obtain ⟨ha, hMo, ⟨⟨r, hr, hR⟩, -⟩, -⟩ := id hM
  have mh := hMo
  unfold kMo at mh
  obtain ⟨q0, q1, q2⟩ := hX i hi
  generalize hxi : X i = x at q0 q1 q2 hok hxx hQ
  obtain ⟨k, p, t, w⟩ := x
  obtain ⟨x7, x60, y60, w3⟩ := hok
  have x7 : k ≤ 7 := x7
  have x60 : p < 60 := x60
  have y60 : t < 60 := y60
  have w3 : w ≤ 3 := w3
  have q0 : C (4 * i) = nI k := q0
  have q1 : C (4 * i + 1) = nI p := q1
  have q2 : k = 0 → C (4 * i + 2) = nI t ∧ C (4 * i + 3) = nI w := q2
  have hxx : k ≠ 0 → t = p := hxx
  have e2 : (2 : Int32) = nI 2 := rfl
  have e3 : (3 : Int32) = nI 3 := rfl
  have e10 : ((1 : Int32) = 0) = False := eq_false (by decide)
  have hh : ∀ p, p < 60 → (kHas s.o.n (nI p) ↔ p < s.o.n) := fun p hp => ⟨fun ⟨i, hi, e⟩ => by
    rw [nI_eq (by omega) (by omega)] at e; omega, fun h => ⟨p, h, rfl⟩⟩
  refine ⟨Nat.le_of_ble_eq_true rfl, fun z => absurd z (by decide), ?_⟩; show ky_ok adK 223 0 [some (.ref (a 170)), some (.int (nI (4 * i))), none] [] f 0 0 _
  by_cases cp : p < s.o.n
  case neg =>
    have hq : kAQ a f g (-1, s) Q := by
      have : kDo s (k, p, t, w) = (-1, s) := if_neg fun h => cp h.1
      rwa [this] at hQ
    repeat' (first | ((refine kx222 hMo hr h60 hR.1 (fun w => absurd ((hh p x60).mp w) cp) (fun _ => ?_); simp only [ky_aft, ky_vl, Nat.reduceAdd])) | (refine ky_ok_stp rfl ?_; simp (disch := first | omega | assumption) only [ky_stp, ky_inv, ky_ldi, ky_ldl, ky_ldd, ky_lda, ky_cl2, ky_st1, ky_st2, ky_s1i, ky_s2i, ky_s1l, ky_s2l, ky_sli, ky_s1f, ky_s2f, ky_s1d, ky_s2d, ky_sr, ky_sai, ky_sasi, ky_sasl, ky_sasr, ky_svr, ky_sv, ky_sv2, ky_s1, ky_cs, ky_pop, ky_nth, ky_snt, ky_obj, ky_ari, ky_arl, ky_arr, ky_arn, ky_fv, ky_rcv, List.map_cons, List.map_nil, List.drop_succ_cons, List.drop_zero, Value.category, Nat.reduceAdd, Nat.reduceSub, true_and, and_true, true_or, or_true, reduceCtorEq, ite_true, ite_false, eq_self, Nat.reduceEqDiff, Nat.reduceLeDiff, nI_add, nI_1, nI_leI, nI_ltI, nI_eq, nI_clamp, kz_m1, kz_mn, kz_mn2, kz_n0, kz_0n, kz_0, kz_le0, kz_0lt, false_implies, true_implies, not_false_eq_true, not_true_eq_false, Nat.zero_le, kb_0, kz_10, kz_of, ky_sw, kz_mx, kz_mi, mh, hC, q1]) | (refine ⟨vp_in_nI (by omega) (by omega), ?_⟩) | (refine ⟨fun zc => ?_, fun zc => ?_⟩ <;> try (exfalso; omega)) | fail)
    exact hq f g hM ⟨rfl, rfl⟩ kfr_rf
  have hpp := (hh p x60).mpr cp
  by_cases ck : k = 0
  · obtain ⟨q2, q3⟩ := q2 ck
    subst ck
    by_cases ct : t < s.o.n
    · have hq : kAQ a f g (kTv' s p t w) Q := by
        have : kDo s (0, p, t, w) = kTv' s p t w := (if_pos ⟨cp, ct⟩).trans (if_pos rfl)
        rwa [this] at hQ
      have htt := (hh t y60).mpr ct
      repeat' (first | ((refine kx222 hMo hr h60 hR.1 (fun _ => ?_) (fun w => absurd (by first | exact hpp | exact htt) w); simp only [ky_aft, ky_vl, Nat.reduceAdd])) | (refine kx274 hM hz cp ct w3 ?_) | (refine ky_ok_stp rfl ?_; simp (disch := first | omega | assumption) only [ky_stp, ky_inv, ky_ldi, ky_ldl, ky_ldd, ky_lda, ky_cl2, ky_st1, ky_st2, ky_s1i, ky_s2i, ky_s1l, ky_s2l, ky_sli, ky_s1f, ky_s2f, ky_s1d, ky_s2d, ky_sr, ky_sai, ky_sasi, ky_sasl, ky_sasr, ky_svr, ky_sv, ky_sv2, ky_s1, ky_cs, ky_pop, ky_nth, ky_snt, ky_obj, ky_ari, ky_arl, ky_arr, ky_arn, ky_fv, ky_rcv, List.map_cons, List.map_nil, List.drop_succ_cons, List.drop_zero, Value.category, Nat.reduceAdd, Nat.reduceSub, true_and, and_true, true_or, or_true, reduceCtorEq, ite_true, ite_false, eq_self, Nat.reduceEqDiff, Nat.reduceLeDiff, nI_add, nI_1, nI_leI, nI_ltI, nI_eq, nI_clamp, kz_m1, kz_mn, kz_mn2, kz_n0, kz_0n, kz_0, kz_le0, kz_0lt, false_implies, true_implies, not_false_eq_true, not_true_eq_false, Nat.zero_le, kb_0, kz_10, kz_of, ky_sw, kz_mx, kz_mi, mh, hC, q0, q1, q2, q3, e2, e3, e10, show (nI 0 = (0 : Int32)) = True from eq_true (by decide), show (nI 0 = (1 : Int32)) = False from eq_false (by decide), show (nI 0 = (2 : Int32)) = False from eq_false (by decide), show (nI 0 = (3 : Int32)) = False from eq_false (by decide), show (nI 0 = (4 : Int32)) = False from eq_false (by decide), show (nI 0 = (5 : Int32)) = False from eq_false (by decide), show (nI 0 = (6 : Int32)) = False from eq_false (by decide)]) | (refine ⟨vp_in_nI (by omega) (by omega), ?_⟩) | (refine ⟨fun zc => ?_, fun zc => ?_⟩ <;> try (exfalso; omega)) | fail)
      intro f1 g1 w1 w2 w3
      (try simp only [ky_aft, ky_vl, Nat.reduceAdd])
      repeat' (first | (refine ky_ok_stp rfl ?_; simp (disch := first | omega | assumption) only [ky_stp, ky_inv, ky_ldi, ky_ldl, ky_ldd, ky_lda, ky_cl2, ky_st1, ky_st2, ky_s1i, ky_s2i, ky_s1l, ky_s2l, ky_sli, ky_s1f, ky_s2f, ky_s1d, ky_s2d, ky_sr, ky_sai, ky_sasi, ky_sasl, ky_sasr, ky_svr, ky_sv, ky_sv2, ky_s1, ky_cs, ky_pop, ky_nth, ky_snt, ky_obj, ky_ari, ky_arl, ky_arr, ky_arn, ky_fv, ky_rcv, List.map_cons, List.map_nil, List.drop_succ_cons, List.drop_zero, Value.category, Nat.reduceAdd, Nat.reduceSub, true_and, and_true, true_or, or_true, reduceCtorEq, ite_true, ite_false, eq_self, Nat.reduceEqDiff, Nat.reduceLeDiff, nI_add, nI_1, nI_leI, nI_ltI, nI_eq, nI_clamp, kz_m1, kz_mn, kz_mn2, kz_n0, kz_0n, kz_0, kz_le0, kz_0lt, false_implies, true_implies, not_false_eq_true, not_true_eq_false, Nat.zero_le, kb_0, kz_10, kz_of, ky_sw, kz_mx, kz_mi]) | (refine ⟨vp_in_nI (by omega) (by omega), ?_⟩) | (refine ⟨fun zc => ?_, fun zc => ?_⟩ <;> try (exfalso; omega)) | fail)
      (first | exact hq f1 g1 w1 w2 w3 | exact ⟨by decide, hq f1 g1 w1 w2 w3⟩)
    · have hq : kAQ a f g (-1, s) Q := by
        have : kDo s (0, p, t, w) = (-1, s) := if_neg fun h => ct h.2
        rwa [this] at hQ
      have htt : ¬ kHas s.o.n (nI t) := fun h => ct ((hh t y60).mp h)
      repeat' (first | ((refine kx222 hMo hr h60 hR.1 (x := nI p) (fun _ => ?_) (fun w => absurd hpp w); simp only [ky_aft, ky_vl, Nat.reduceAdd])) | ((refine kx222 hMo hr h60 hR.1 (x := nI t) (fun w => absurd w htt) (fun _ => ?_); simp only [ky_aft, ky_vl, Nat.reduceAdd])) | (refine ky_ok_stp rfl ?_; simp (disch := first | omega | assumption) only [ky_stp, ky_inv, ky_ldi, ky_ldl, ky_ldd, ky_lda, ky_cl2, ky_st1, ky_st2, ky_s1i, ky_s2i, ky_s1l, ky_s2l, ky_sli, ky_s1f, ky_s2f, ky_s1d, ky_s2d, ky_sr, ky_sai, ky_sasi, ky_sasl, ky_sasr, ky_svr, ky_sv, ky_sv2, ky_s1, ky_cs, ky_pop, ky_nth, ky_snt, ky_obj, ky_ari, ky_arl, ky_arr, ky_arn, ky_fv, ky_rcv, List.map_cons, List.map_nil, List.drop_succ_cons, List.drop_zero, Value.category, Nat.reduceAdd, Nat.reduceSub, true_and, and_true, true_or, or_true, reduceCtorEq, ite_true, ite_false, eq_self, Nat.reduceEqDiff, Nat.reduceLeDiff, nI_add, nI_1, nI_leI, nI_ltI, nI_eq, nI_clamp, kz_m1, kz_mn, kz_mn2, kz_n0, kz_0n, kz_0, kz_le0, kz_0lt, false_implies, true_implies, not_false_eq_true, not_true_eq_false, Nat.zero_le, kb_0, kz_10, kz_of, ky_sw, kz_mx, kz_mi, mh, hC, q0, q1, q2, e2, e10]) | (refine ⟨vp_in_nI (by omega) (by omega), ?_⟩) | (refine ⟨fun zc => ?_, fun zc => ?_⟩ <;> try (exfalso; omega)) | fail)
      exact hq f g hM ⟨rfl, rfl⟩ kfr_rf
  · obtain rfl : t = p := hxx ck
    match k, x7, ck with
    | 1, _, _ =>
      have hq : kAQ a f g (kTp s t) Q := by
        have : kDo s (1, t, t, w) = kTp s t := if_pos ⟨cp, cp⟩
        rwa [this] at hQ
      repeat' (first | ((refine kx222 hMo hr h60 hR.1 (fun _ => ?_) (fun w => absurd hpp w); simp only [ky_aft, ky_vl, Nat.reduceAdd])) | (refine kx276 hM hz cp ?_) | (refine ky_ok_stp rfl ?_; simp (disch := first | omega | assumption) only [ky_stp, ky_inv, ky_ldi, ky_ldl, ky_ldd, ky_lda, ky_cl2, ky_st1, ky_st2, ky_s1i, ky_s2i, ky_s1l, ky_s2l, ky_sli, ky_s1f, ky_s2f, ky_s1d, ky_s2d, ky_sr, ky_sai, ky_sasi, ky_sasl, ky_sasr, ky_svr, ky_sv, ky_sv2, ky_s1, ky_cs, ky_pop, ky_nth, ky_snt, ky_obj, ky_ari, ky_arl, ky_arr, ky_arn, ky_fv, ky_rcv, List.map_cons, List.map_nil, List.drop_succ_cons, List.drop_zero, Value.category, Nat.reduceAdd, Nat.reduceSub, true_and, and_true, true_or, or_true, reduceCtorEq, ite_true, ite_false, eq_self, Nat.reduceEqDiff, Nat.reduceLeDiff, nI_add, nI_1, nI_leI, nI_ltI, nI_eq, nI_clamp, kz_m1, kz_mn, kz_mn2, kz_n0, kz_0n, kz_0, kz_le0, kz_0lt, false_implies, true_implies, not_false_eq_true, not_true_eq_false, Nat.zero_le, kb_0, kz_10, kz_of, ky_sw, kz_mx, kz_mi, mh, hC, q0, q1, e10, show (nI 1 = (0 : Int32)) = False from eq_false (by decide), show (nI 1 = (1 : Int32)) = True from eq_true (by decide), show (nI 1 = (2 : Int32)) = False from eq_false (by decide), show (nI 1 = (3 : Int32)) = False from eq_false (by decide), show (nI 1 = (4 : Int32)) = False from eq_false (by decide), show (nI 1 = (5 : Int32)) = False from eq_false (by decide), show (nI 1 = (6 : Int32)) = False from eq_false (by decide)]) | (refine ⟨vp_in_nI (by omega) (by omega), ?_⟩) | (refine ⟨fun zc => ?_, fun zc => ?_⟩ <;> try (exfalso; omega)) | fail)
      intro f1 g1 w1 w2 w3
      (try simp only [ky_aft, ky_vl, Nat.reduceAdd])
      repeat' (first | (refine ky_ok_stp rfl ?_; simp (disch := first | omega | assumption) only [ky_stp, ky_inv, ky_ldi, ky_ldl, ky_ldd, ky_lda, ky_cl2, ky_st1, ky_st2, ky_s1i, ky_s2i, ky_s1l, ky_s2l, ky_sli, ky_s1f, ky_s2f, ky_s1d, ky_s2d, ky_sr, ky_sai, ky_sasi, ky_sasl, ky_sasr, ky_svr, ky_sv, ky_sv2, ky_s1, ky_cs, ky_pop, ky_nth, ky_snt, ky_obj, ky_ari, ky_arl, ky_arr, ky_arn, ky_fv, ky_rcv, List.map_cons, List.map_nil, List.drop_succ_cons, List.drop_zero, Value.category, Nat.reduceAdd, Nat.reduceSub, true_and, and_true, true_or, or_true, reduceCtorEq, ite_true, ite_false, eq_self, Nat.reduceEqDiff, Nat.reduceLeDiff, nI_add, nI_1, nI_leI, nI_ltI, nI_eq, nI_clamp, kz_m1, kz_mn, kz_mn2, kz_n0, kz_0n, kz_0, kz_le0, kz_0lt, false_implies, true_implies, not_false_eq_true, not_true_eq_false, Nat.zero_le, kb_0, kz_10, kz_of, ky_sw, kz_mx, kz_mi]) | (refine ⟨vp_in_nI (by omega) (by omega), ?_⟩) | (refine ⟨fun zc => ?_, fun zc => ?_⟩ <;> try (exfalso; omega)) | fail)
      (first | exact hq f1 g1 w1 w2 w3 | exact ⟨by decide, hq f1 g1 w1 w2 w3⟩)
    | 2, _, _ =>
      have hq : kAQ a f g (kTe' s t) Q := by
        have : kDo s (2, t, t, w) = kTe' s t := if_pos ⟨cp, cp⟩
        rwa [this] at hQ
      repeat' (first | ((refine kx222 hMo hr h60 hR.1 (fun _ => ?_) (fun w => absurd hpp w); simp only [ky_aft, ky_vl, Nat.reduceAdd])) | (refine kx278 hM hz cp ?_) | (refine ky_ok_stp rfl ?_; simp (disch := first | omega | assumption) only [ky_stp, ky_inv, ky_ldi, ky_ldl, ky_ldd, ky_lda, ky_cl2, ky_st1, ky_st2, ky_s1i, ky_s2i, ky_s1l, ky_s2l, ky_sli, ky_s1f, ky_s2f, ky_s1d, ky_s2d, ky_sr, ky_sai, ky_sasi, ky_sasl, ky_sasr, ky_svr, ky_sv, ky_sv2, ky_s1, ky_cs, ky_pop, ky_nth, ky_snt, ky_obj, ky_ari, ky_arl, ky_arr, ky_arn, ky_fv, ky_rcv, List.map_cons, List.map_nil, List.drop_succ_cons, List.drop_zero, Value.category, Nat.reduceAdd, Nat.reduceSub, true_and, and_true, true_or, or_true, reduceCtorEq, ite_true, ite_false, eq_self, Nat.reduceEqDiff, Nat.reduceLeDiff, nI_add, nI_1, nI_leI, nI_ltI, nI_eq, nI_clamp, kz_m1, kz_mn, kz_mn2, kz_n0, kz_0n, kz_0, kz_le0, kz_0lt, false_implies, true_implies, not_false_eq_true, not_true_eq_false, Nat.zero_le, kb_0, kz_10, kz_of, ky_sw, kz_mx, kz_mi, mh, hC, q0, q1, e10, show (nI 2 = (0 : Int32)) = False from eq_false (by decide), show (nI 2 = (1 : Int32)) = False from eq_false (by decide), show (nI 2 = (2 : Int32)) = True from eq_true (by decide), show (nI 2 = (3 : Int32)) = False from eq_false (by decide), show (nI 2 = (4 : Int32)) = False from eq_false (by decide), show (nI 2 = (5 : Int32)) = False from eq_false (by decide), show (nI 2 = (6 : Int32)) = False from eq_false (by decide)]) | (refine ⟨vp_in_nI (by omega) (by omega), ?_⟩) | (refine ⟨fun zc => ?_, fun zc => ?_⟩ <;> try (exfalso; omega)) | fail)
      intro f1 g1 w1 w2 w3
      (try simp only [ky_aft, ky_vl, Nat.reduceAdd])
      repeat' (first | (refine ky_ok_stp rfl ?_; simp (disch := first | omega | assumption) only [ky_stp, ky_inv, ky_ldi, ky_ldl, ky_ldd, ky_lda, ky_cl2, ky_st1, ky_st2, ky_s1i, ky_s2i, ky_s1l, ky_s2l, ky_sli, ky_s1f, ky_s2f, ky_s1d, ky_s2d, ky_sr, ky_sai, ky_sasi, ky_sasl, ky_sasr, ky_svr, ky_sv, ky_sv2, ky_s1, ky_cs, ky_pop, ky_nth, ky_snt, ky_obj, ky_ari, ky_arl, ky_arr, ky_arn, ky_fv, ky_rcv, List.map_cons, List.map_nil, List.drop_succ_cons, List.drop_zero, Value.category, Nat.reduceAdd, Nat.reduceSub, true_and, and_true, true_or, or_true, reduceCtorEq, ite_true, ite_false, eq_self, Nat.reduceEqDiff, Nat.reduceLeDiff, nI_add, nI_1, nI_leI, nI_ltI, nI_eq, nI_clamp, kz_m1, kz_mn, kz_mn2, kz_n0, kz_0n, kz_0, kz_le0, kz_0lt, false_implies, true_implies, not_false_eq_true, not_true_eq_false, Nat.zero_le, kb_0, kz_10, kz_of, ky_sw, kz_mx, kz_mi]) | (refine ⟨vp_in_nI (by omega) (by omega), ?_⟩) | (refine ⟨fun zc => ?_, fun zc => ?_⟩ <;> try (exfalso; omega)) | fail)
      (first | exact hq f1 g1 w1 w2 w3 | exact ⟨by decide, hq f1 g1 w1 w2 w3⟩)
    | 3, _, _ =>
      have hq : kAQ a f g (kTm s t) Q := by
        have : kDo s (3, t, t, w) = kTm s t := if_pos ⟨cp, cp⟩
        rwa [this] at hQ
      repeat' (first | ((refine kx222 hMo hr h60 hR.1 (fun _ => ?_) (fun w => absurd hpp w); simp only [ky_aft, ky_vl, Nat.reduceAdd])) | (refine kx269 hM hz cp ?_) | (refine ky_ok_stp rfl ?_; simp (disch := first | omega | assumption) only [ky_stp, ky_inv, ky_ldi, ky_ldl, ky_ldd, ky_lda, ky_cl2, ky_st1, ky_st2, ky_s1i, ky_s2i, ky_s1l, ky_s2l, ky_sli, ky_s1f, ky_s2f, ky_s1d, ky_s2d, ky_sr, ky_sai, ky_sasi, ky_sasl, ky_sasr, ky_svr, ky_sv, ky_sv2, ky_s1, ky_cs, ky_pop, ky_nth, ky_snt, ky_obj, ky_ari, ky_arl, ky_arr, ky_arn, ky_fv, ky_rcv, List.map_cons, List.map_nil, List.drop_succ_cons, List.drop_zero, Value.category, Nat.reduceAdd, Nat.reduceSub, true_and, and_true, true_or, or_true, reduceCtorEq, ite_true, ite_false, eq_self, Nat.reduceEqDiff, Nat.reduceLeDiff, nI_add, nI_1, nI_leI, nI_ltI, nI_eq, nI_clamp, kz_m1, kz_mn, kz_mn2, kz_n0, kz_0n, kz_0, kz_le0, kz_0lt, false_implies, true_implies, not_false_eq_true, not_true_eq_false, Nat.zero_le, kb_0, kz_10, kz_of, ky_sw, kz_mx, kz_mi, mh, hC, q0, q1, e10, show (nI 3 = (0 : Int32)) = False from eq_false (by decide), show (nI 3 = (1 : Int32)) = False from eq_false (by decide), show (nI 3 = (2 : Int32)) = False from eq_false (by decide), show (nI 3 = (3 : Int32)) = True from eq_true (by decide), show (nI 3 = (4 : Int32)) = False from eq_false (by decide), show (nI 3 = (5 : Int32)) = False from eq_false (by decide), show (nI 3 = (6 : Int32)) = False from eq_false (by decide)]) | (refine ⟨vp_in_nI (by omega) (by omega), ?_⟩) | (refine ⟨fun zc => ?_, fun zc => ?_⟩ <;> try (exfalso; omega)) | fail)
      intro f1 g1 w1 w2 w3
      (try simp only [ky_aft, ky_vl, Nat.reduceAdd])
      repeat' (first | (refine ky_ok_stp rfl ?_; simp (disch := first | omega | assumption) only [ky_stp, ky_inv, ky_ldi, ky_ldl, ky_ldd, ky_lda, ky_cl2, ky_st1, ky_st2, ky_s1i, ky_s2i, ky_s1l, ky_s2l, ky_sli, ky_s1f, ky_s2f, ky_s1d, ky_s2d, ky_sr, ky_sai, ky_sasi, ky_sasl, ky_sasr, ky_svr, ky_sv, ky_sv2, ky_s1, ky_cs, ky_pop, ky_nth, ky_snt, ky_obj, ky_ari, ky_arl, ky_arr, ky_arn, ky_fv, ky_rcv, List.map_cons, List.map_nil, List.drop_succ_cons, List.drop_zero, Value.category, Nat.reduceAdd, Nat.reduceSub, true_and, and_true, true_or, or_true, reduceCtorEq, ite_true, ite_false, eq_self, Nat.reduceEqDiff, Nat.reduceLeDiff, nI_add, nI_1, nI_leI, nI_ltI, nI_eq, nI_clamp, kz_m1, kz_mn, kz_mn2, kz_n0, kz_0n, kz_0, kz_le0, kz_0lt, false_implies, true_implies, not_false_eq_true, not_true_eq_false, Nat.zero_le, kb_0, kz_10, kz_of, ky_sw, kz_mx, kz_mi]) | (refine ⟨vp_in_nI (by omega) (by omega), ?_⟩) | (refine ⟨fun zc => ?_, fun zc => ?_⟩ <;> try (exfalso; omega)) | fail)
      (first | exact hq f1 g1 w1 w2 w3 | exact ⟨by decide, hq f1 g1 w1 w2 w3⟩)
    | 4, _, _ =>
      have hq : kAQ a f g (kTd s t) Q := by
        have : kDo s (4, t, t, w) = kTd s t := if_pos ⟨cp, cp⟩
        rwa [this] at hQ
      repeat' (first | ((refine kx222 hMo hr h60 hR.1 (fun _ => ?_) (fun w => absurd hpp w); simp only [ky_aft, ky_vl, Nat.reduceAdd])) | (refine kx272 hM hz cp ?_) | (refine ky_ok_stp rfl ?_; simp (disch := first | omega | assumption) only [ky_stp, ky_inv, ky_ldi, ky_ldl, ky_ldd, ky_lda, ky_cl2, ky_st1, ky_st2, ky_s1i, ky_s2i, ky_s1l, ky_s2l, ky_sli, ky_s1f, ky_s2f, ky_s1d, ky_s2d, ky_sr, ky_sai, ky_sasi, ky_sasl, ky_sasr, ky_svr, ky_sv, ky_sv2, ky_s1, ky_cs, ky_pop, ky_nth, ky_snt, ky_obj, ky_ari, ky_arl, ky_arr, ky_arn, ky_fv, ky_rcv, List.map_cons, List.map_nil, List.drop_succ_cons, List.drop_zero, Value.category, Nat.reduceAdd, Nat.reduceSub, true_and, and_true, true_or, or_true, reduceCtorEq, ite_true, ite_false, eq_self, Nat.reduceEqDiff, Nat.reduceLeDiff, nI_add, nI_1, nI_leI, nI_ltI, nI_eq, nI_clamp, kz_m1, kz_mn, kz_mn2, kz_n0, kz_0n, kz_0, kz_le0, kz_0lt, false_implies, true_implies, not_false_eq_true, not_true_eq_false, Nat.zero_le, kb_0, kz_10, kz_of, ky_sw, kz_mx, kz_mi, mh, hC, q0, q1, e10, show (nI 4 = (0 : Int32)) = False from eq_false (by decide), show (nI 4 = (1 : Int32)) = False from eq_false (by decide), show (nI 4 = (2 : Int32)) = False from eq_false (by decide), show (nI 4 = (3 : Int32)) = False from eq_false (by decide), show (nI 4 = (4 : Int32)) = True from eq_true (by decide), show (nI 4 = (5 : Int32)) = False from eq_false (by decide), show (nI 4 = (6 : Int32)) = False from eq_false (by decide)]) | (refine ⟨vp_in_nI (by omega) (by omega), ?_⟩) | (refine ⟨fun zc => ?_, fun zc => ?_⟩ <;> try (exfalso; omega)) | fail)
      intro f1 g1 w1 w2 w3
      (try simp only [ky_aft, ky_vl, Nat.reduceAdd])
      repeat' (first | (refine ky_ok_stp rfl ?_; simp (disch := first | omega | assumption) only [ky_stp, ky_inv, ky_ldi, ky_ldl, ky_ldd, ky_lda, ky_cl2, ky_st1, ky_st2, ky_s1i, ky_s2i, ky_s1l, ky_s2l, ky_sli, ky_s1f, ky_s2f, ky_s1d, ky_s2d, ky_sr, ky_sai, ky_sasi, ky_sasl, ky_sasr, ky_svr, ky_sv, ky_sv2, ky_s1, ky_cs, ky_pop, ky_nth, ky_snt, ky_obj, ky_ari, ky_arl, ky_arr, ky_arn, ky_fv, ky_rcv, List.map_cons, List.map_nil, List.drop_succ_cons, List.drop_zero, Value.category, Nat.reduceAdd, Nat.reduceSub, true_and, and_true, true_or, or_true, reduceCtorEq, ite_true, ite_false, eq_self, Nat.reduceEqDiff, Nat.reduceLeDiff, nI_add, nI_1, nI_leI, nI_ltI, nI_eq, nI_clamp, kz_m1, kz_mn, kz_mn2, kz_n0, kz_0n, kz_0, kz_le0, kz_0lt, false_implies, true_implies, not_false_eq_true, not_true_eq_false, Nat.zero_le, kb_0, kz_10, kz_of, ky_sw, kz_mx, kz_mi]) | (refine ⟨vp_in_nI (by omega) (by omega), ?_⟩) | (refine ⟨fun zc => ?_, fun zc => ?_⟩ <;> try (exfalso; omega)) | fail)
      (first | exact hq f1 g1 w1 w2 w3 | exact ⟨by decide, hq f1 g1 w1 w2 w3⟩)
    | 5, _, _ =>
      have hq : kAQ a f g (kTf s t 1) Q := by
        have : kDo s (5, t, t, w) = kTf s t 1 := if_pos ⟨cp, cp⟩
        rwa [this] at hQ
      repeat' (first | ((refine kx222 hMo hr h60 hR.1 (fun _ => ?_) (fun w => absurd hpp w); simp only [ky_aft, ky_vl, Nat.reduceAdd])) | (refine kx280 hM hz cp (Or.inr rfl) ?_) | (refine ky_ok_stp rfl ?_; simp (disch := first | omega | assumption) only [ky_stp, ky_inv, ky_ldi, ky_ldl, ky_ldd, ky_lda, ky_cl2, ky_st1, ky_st2, ky_s1i, ky_s2i, ky_s1l, ky_s2l, ky_sli, ky_s1f, ky_s2f, ky_s1d, ky_s2d, ky_sr, ky_sai, ky_sasi, ky_sasl, ky_sasr, ky_svr, ky_sv, ky_sv2, ky_s1, ky_cs, ky_pop, ky_nth, ky_snt, ky_obj, ky_ari, ky_arl, ky_arr, ky_arn, ky_fv, ky_rcv, List.map_cons, List.map_nil, List.drop_succ_cons, List.drop_zero, Value.category, Nat.reduceAdd, Nat.reduceSub, true_and, and_true, true_or, or_true, reduceCtorEq, ite_true, ite_false, eq_self, Nat.reduceEqDiff, Nat.reduceLeDiff, nI_add, nI_1, nI_leI, nI_ltI, nI_eq, nI_clamp, kz_m1, kz_mn, kz_mn2, kz_n0, kz_0n, kz_0, kz_le0, kz_0lt, false_implies, true_implies, not_false_eq_true, not_true_eq_false, Nat.zero_le, kb_0, kz_10, kz_of, ky_sw, kz_mx, kz_mi, mh, hC, q0, q1, e10, show (nI 5 = (0 : Int32)) = False from eq_false (by decide), show (nI 5 = (1 : Int32)) = False from eq_false (by decide), show (nI 5 = (2 : Int32)) = False from eq_false (by decide), show (nI 5 = (3 : Int32)) = False from eq_false (by decide), show (nI 5 = (4 : Int32)) = False from eq_false (by decide), show (nI 5 = (5 : Int32)) = True from eq_true (by decide), show (nI 5 = (6 : Int32)) = False from eq_false (by decide)]) | (refine ⟨vp_in_nI (by omega) (by omega), ?_⟩) | (refine ⟨fun zc => ?_, fun zc => ?_⟩ <;> try (exfalso; omega)) | fail)
      intro f1 g1 w1 w2 w3
      (try simp only [ky_aft, ky_vl, Nat.reduceAdd])
      repeat' (first | (refine ky_ok_stp rfl ?_; simp (disch := first | omega | assumption) only [ky_stp, ky_inv, ky_ldi, ky_ldl, ky_ldd, ky_lda, ky_cl2, ky_st1, ky_st2, ky_s1i, ky_s2i, ky_s1l, ky_s2l, ky_sli, ky_s1f, ky_s2f, ky_s1d, ky_s2d, ky_sr, ky_sai, ky_sasi, ky_sasl, ky_sasr, ky_svr, ky_sv, ky_sv2, ky_s1, ky_cs, ky_pop, ky_nth, ky_snt, ky_obj, ky_ari, ky_arl, ky_arr, ky_arn, ky_fv, ky_rcv, List.map_cons, List.map_nil, List.drop_succ_cons, List.drop_zero, Value.category, Nat.reduceAdd, Nat.reduceSub, true_and, and_true, true_or, or_true, reduceCtorEq, ite_true, ite_false, eq_self, Nat.reduceEqDiff, Nat.reduceLeDiff, nI_add, nI_1, nI_leI, nI_ltI, nI_eq, nI_clamp, kz_m1, kz_mn, kz_mn2, kz_n0, kz_0n, kz_0, kz_le0, kz_0lt, false_implies, true_implies, not_false_eq_true, not_true_eq_false, Nat.zero_le, kb_0, kz_10, kz_of, ky_sw, kz_mx, kz_mi]) | (refine ⟨vp_in_nI (by omega) (by omega), ?_⟩) | (refine ⟨fun zc => ?_, fun zc => ?_⟩ <;> try (exfalso; omega)) | fail)
      (first | exact hq f1 g1 w1 w2 w3 | exact ⟨by decide, hq f1 g1 w1 w2 w3⟩)
    | 6, _, _ =>
      have hq : kAQ a f g (kTf s t 0) Q := by
        have : kDo s (6, t, t, w) = kTf s t 0 := if_pos ⟨cp, cp⟩
        rwa [this] at hQ
      repeat' (first | ((refine kx222 hMo hr h60 hR.1 (fun _ => ?_) (fun w => absurd hpp w); simp only [ky_aft, ky_vl, Nat.reduceAdd])) | (refine kx280 hM hz cp (Or.inl rfl) ?_) | (refine ky_ok_stp rfl ?_; simp (disch := first | omega | assumption) only [ky_stp, ky_inv, ky_ldi, ky_ldl, ky_ldd, ky_lda, ky_cl2, ky_st1, ky_st2, ky_s1i, ky_s2i, ky_s1l, ky_s2l, ky_sli, ky_s1f, ky_s2f, ky_s1d, ky_s2d, ky_sr, ky_sai, ky_sasi, ky_sasl, ky_sasr, ky_svr, ky_sv, ky_sv2, ky_s1, ky_cs, ky_pop, ky_nth, ky_snt, ky_obj, ky_ari, ky_arl, ky_arr, ky_arn, ky_fv, ky_rcv, List.map_cons, List.map_nil, List.drop_succ_cons, List.drop_zero, Value.category, Nat.reduceAdd, Nat.reduceSub, true_and, and_true, true_or, or_true, reduceCtorEq, ite_true, ite_false, eq_self, Nat.reduceEqDiff, Nat.reduceLeDiff, nI_add, nI_1, nI_leI, nI_ltI, nI_eq, nI_clamp, kz_m1, kz_mn, kz_mn2, kz_n0, kz_0n, kz_0, kz_le0, kz_0lt, false_implies, true_implies, not_false_eq_true, not_true_eq_false, Nat.zero_le, kb_0, kz_10, kz_of, ky_sw, kz_mx, kz_mi, mh, hC, q0, q1, e10, show (nI 6 = (0 : Int32)) = False from eq_false (by decide), show (nI 6 = (1 : Int32)) = False from eq_false (by decide), show (nI 6 = (2 : Int32)) = False from eq_false (by decide), show (nI 6 = (3 : Int32)) = False from eq_false (by decide), show (nI 6 = (4 : Int32)) = False from eq_false (by decide), show (nI 6 = (5 : Int32)) = False from eq_false (by decide), show (nI 6 = (6 : Int32)) = True from eq_true (by decide)]) | (refine ⟨vp_in_nI (by omega) (by omega), ?_⟩) | (refine ⟨fun zc => ?_, fun zc => ?_⟩ <;> try (exfalso; omega)) | fail)
      intro f1 g1 w1 w2 w3
      (try simp only [ky_aft, ky_vl, Nat.reduceAdd])
      repeat' (first | (refine ky_ok_stp rfl ?_; simp (disch := first | omega | assumption) only [ky_stp, ky_inv, ky_ldi, ky_ldl, ky_ldd, ky_lda, ky_cl2, ky_st1, ky_st2, ky_s1i, ky_s2i, ky_s1l, ky_s2l, ky_sli, ky_s1f, ky_s2f, ky_s1d, ky_s2d, ky_sr, ky_sai, ky_sasi, ky_sasl, ky_sasr, ky_svr, ky_sv, ky_sv2, ky_s1, ky_cs, ky_pop, ky_nth, ky_snt, ky_obj, ky_ari, ky_arl, ky_arr, ky_arn, ky_fv, ky_rcv, List.map_cons, List.map_nil, List.drop_succ_cons, List.drop_zero, Value.category, Nat.reduceAdd, Nat.reduceSub, true_and, and_true, true_or, or_true, reduceCtorEq, ite_true, ite_false, eq_self, Nat.reduceEqDiff, Nat.reduceLeDiff, nI_add, nI_1, nI_leI, nI_ltI, nI_eq, nI_clamp, kz_m1, kz_mn, kz_mn2, kz_n0, kz_0n, kz_0, kz_le0, kz_0lt, false_implies, true_implies, not_false_eq_true, not_true_eq_false, Nat.zero_le, kb_0, kz_10, kz_of, ky_sw, kz_mx, kz_mi]) | (refine ⟨vp_in_nI (by omega) (by omega), ?_⟩) | (refine ⟨fun zc => ?_, fun zc => ?_⟩ <;> try (exfalso; omega)) | fail)
      (first | exact hq f1 g1 w1 w2 w3 | exact ⟨by decide, hq f1 g1 w1 w2 w3⟩)
    | 7, _, _ =>
      have hq : kAQ a f g (kTs' s (t + 1) 0) Q := by
        have : kDo s (7, t, t, w) = kTs' s (t + 1) 0 := if_pos ⟨cp, cp⟩
        rwa [this] at hQ
      repeat' (first | ((refine kx222 hMo hr h60 hR.1 (fun _ => ?_) (fun w => absurd hpp w); simp only [ky_aft, ky_vl, Nat.reduceAdd])) | (refine kx285 (b := 0) hM hz cp (nI_pred t).symm (by decide) ?_) | (refine ky_ok_stp rfl ?_; simp (disch := first | omega | assumption) only [ky_stp, ky_inv, ky_ldi, ky_ldl, ky_ldd, ky_lda, ky_cl2, ky_st1, ky_st2, ky_s1i, ky_s2i, ky_s1l, ky_s2l, ky_sli, ky_s1f, ky_s2f, ky_s1d, ky_s2d, ky_sr, ky_sai, ky_sasi, ky_sasl, ky_sasr, ky_svr, ky_sv, ky_sv2, ky_s1, ky_cs, ky_pop, ky_nth, ky_snt, ky_obj, ky_ari, ky_arl, ky_arr, ky_arn, ky_fv, ky_rcv, List.map_cons, List.map_nil, List.drop_succ_cons, List.drop_zero, Value.category, Nat.reduceAdd, Nat.reduceSub, true_and, and_true, true_or, or_true, reduceCtorEq, ite_true, ite_false, eq_self, Nat.reduceEqDiff, Nat.reduceLeDiff, nI_add, nI_1, nI_leI, nI_ltI, nI_eq, nI_clamp, kz_m1, kz_mn, kz_mn2, kz_n0, kz_0n, kz_0, kz_le0, kz_0lt, false_implies, true_implies, not_false_eq_true, not_true_eq_false, Nat.zero_le, kb_0, kz_10, kz_of, ky_sw, kz_mx, kz_mi, mh, hC, q0, q1, e10, show (nI 7 = (0 : Int32)) = False from eq_false (by decide), show (nI 7 = (1 : Int32)) = False from eq_false (by decide), show (nI 7 = (2 : Int32)) = False from eq_false (by decide), show (nI 7 = (3 : Int32)) = False from eq_false (by decide), show (nI 7 = (4 : Int32)) = False from eq_false (by decide), show (nI 7 = (5 : Int32)) = False from eq_false (by decide), show (nI 7 = (6 : Int32)) = False from eq_false (by decide)]) | (refine ⟨vp_in_nI (by omega) (by omega), ?_⟩) | (refine ⟨fun zc => ?_, fun zc => ?_⟩ <;> try (exfalso; omega)) | fail)
      intro f1 g1 w1 w2 w3
      (try simp only [ky_aft, ky_vl, Nat.reduceAdd])
      repeat' (first | (refine ky_ok_stp rfl ?_; simp (disch := first | omega | assumption) only [ky_stp, ky_inv, ky_ldi, ky_ldl, ky_ldd, ky_lda, ky_cl2, ky_st1, ky_st2, ky_s1i, ky_s2i, ky_s1l, ky_s2l, ky_sli, ky_s1f, ky_s2f, ky_s1d, ky_s2d, ky_sr, ky_sai, ky_sasi, ky_sasl, ky_sasr, ky_svr, ky_sv, ky_sv2, ky_s1, ky_cs, ky_pop, ky_nth, ky_snt, ky_obj, ky_ari, ky_arl, ky_arr, ky_arn, ky_fv, ky_rcv, List.map_cons, List.map_nil, List.drop_succ_cons, List.drop_zero, Value.category, Nat.reduceAdd, Nat.reduceSub, true_and, and_true, true_or, or_true, reduceCtorEq, ite_true, ite_false, eq_self, Nat.reduceEqDiff, Nat.reduceLeDiff, nI_add, nI_1, nI_leI, nI_ltI, nI_eq, nI_clamp, kz_m1, kz_mn, kz_mn2, kz_n0, kz_0n, kz_0, kz_le0, kz_0lt, false_implies, true_implies, not_false_eq_true, not_true_eq_false, Nat.zero_le, kb_0, kz_10, kz_of, ky_sw, kz_mx, kz_mi]) | (refine ⟨vp_in_nI (by omega) (by omega), ?_⟩) | (refine ⟨fun zc => ?_, fun zc => ?_⟩ <;> try (exfalso; omega)) | fail)
      (first | exact hq f1 g1 w1 w2 w3 | exact ⟨by decide, hq f1 g1 w1 w2 w3⟩)
end KXM
