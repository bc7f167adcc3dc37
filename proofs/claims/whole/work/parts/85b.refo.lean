/-! ## the reference: load -/
theorem kM_mt {a : Nat → Nat} {f : ky_H} {g : Nat → Int32} {s : kSt} (h : kM a f g s) : kMt a f g s.bl s.bc := by
  obtain ⟨ha, h0, ⟨-, -, -, -, ⟨T, h1, h2⟩, -⟩, -, h3, h4⟩ := h
  exact ⟨h0, h3.2.1, h4.2.1, T, h1, fun i hi => ⟨h2 i hi, h4.2.2.1 i hi⟩⟩
theorem kar_fr {a : Nat → Nat} {f f' : ky_H} {j c : Nat} (h : ∃ r : Nat → Int32, f (a j) = some (.inl (1, c, .inl r))) (hF : f' (a j) = f (a j)) : ∃ r : Nat → Int32, f' (a j) = some (.inl (1, c, .inl r)) := by
  obtain ⟨r, h⟩ := h
  exact ⟨r, hF.trans h⟩
theorem kM2_fr' {a : Nat → Nat} {f f' : ky_H} (h : kM2 a f) (hF : kfr a f f' (fun j => j = 170 ∨ j = 173)) (h173 : ∃ r : Nat → Int32, f' (a 173) = some (.inl (1, 388, .inl r))) : kM2 a f' := by
  obtain ⟨q1, q2, q3, q4, q5, q6, q7, q8, q9⟩ := h
  exact ⟨kar_fr q1 (hF 172 (by omega)), h173, kar_fr q3 (hF 178 (by omega)), kar_fr q4 (hF 179 (by omega)), kar_fr q5 (hF 180 (by omega)), kar_fr q6 (hF 181 (by omega)), kar_fr q7 (hF 183 (by omega)), kar_fr q8 (hF 184 (by omega)), kar_fr q9 (hF 185 (by omega))⟩
section KXM
variable {adK a : Nat → Nat} {f : ky_H} {Q : ky_Q} {g r : Nat → Int32} {s : kSt} {p w n l i j t L : Nat} {x y v : Int32} {z : kZ} {c : Nat → Nat}
theorem kM_lde {f' : ky_H} {g' : Nat → Int32} {T : Nat → Int32} {e st : Int32} (h : kM a f g s) (h0 : kMo a f' g') (hg : ∀ j, j = 1 ∨ j = 12 → g' j = g j) (h3 : g' 3 = 0) (h8 : g' 8 = e) (h9 : g' 9 = st) (h173 : f' (a 173) = some (.inl (1, 388, .inl T))) (hF : kfr a f f' (fun j => j = 170 ∨ j = 173)) : kM a f' g' ((s.setE e st).setB 0 s.bc) := by
  obtain ⟨ha, _, ⟨⟨r, h1, h2⟩, ⟨U, h3', h4⟩, ⟨V, B, h5, h6, h7⟩, ⟨C, h8', h9'⟩, ⟨T', h10, h11⟩, ⟨W, h12, h13⟩⟩, k2, k3, k4⟩ := h
  refine ⟨ha, h0, ⟨⟨r, (hF 171 (by omega)).trans h1, h2⟩, ⟨U, (hF 174 (by omega)).trans h3', h4⟩, ⟨V, B, (hF 175 (by omega)).trans h5, (hF 176 (by omega)).trans h6, h7⟩, ⟨C, (hF 177 (by omega)).trans h8', h9'⟩, ⟨T', (hF 182 (by omega)).trans h10, fun i hi => absurd hi (Nat.not_lt_zero i)⟩, ⟨W, (hF 186 (by omega)).trans h12, h13⟩⟩, ?_, ⟨(hg 1 (by omega)).trans k3.1, h3, h8, h9, (hg 12 (by omega)).trans k3.2.2.2.2⟩, ⟨k4.1, Nat.zero_le _, fun i hi => absurd hi (Nat.not_lt_zero i), k4.2.2.2⟩⟩
  exact kM2_fr' k2 hF ⟨_, h173⟩
theorem kM_ldo {f' : ky_H} {g' : Nat → Int32} {T R : Nat → Int32} (h : kM a f g s) (h0 : kMo a f' g') (hg : g' 12 = g 12) (h1' : g' 1 = 0) (h3 : g' 3 = 0) (h8 : g' 8 = 0) (h9 : g' 9 = -1) (h171 : f' (a 171) = some (.inl (1, 388, .inl R))) (hR : kRw R z) (h173 : f' (a 173) = some (.inl (1, 388, .inl T))) (hF : kfr a f f' (fun j => j = 170 ∨ j = 171 ∨ j = 173)) : kM a f' g' (kLdo s z) := by
  obtain ⟨ha, _, ⟨⟨r, h1, h2⟩, ⟨U, h3', h4⟩, ⟨V, B, h5, h6, h7⟩, ⟨C, h8', h9'⟩, ⟨T', h10, h11⟩, ⟨W, h12, h13⟩⟩, k2, k3, k4⟩ := h
  refine ⟨ha, h0, ⟨⟨R, h171, hR⟩, ⟨U, (hF 174 (by omega)).trans h3', fun j hj => absurd hj (Nat.not_lt_zero j)⟩, ⟨V, B, (hF 175 (by omega)).trans h5, (hF 176 (by omega)).trans h6, h7⟩, ⟨C, (hF 177 (by omega)).trans h8', h9'⟩, ⟨T', (hF 182 (by omega)).trans h10, fun i hi => absurd hi (Nat.not_lt_zero i)⟩, ⟨W, (hF 186 (by omega)).trans h12, h13⟩⟩, ?_, ⟨h1', h3, h8, h9, hg.trans k3.2.2.2.2⟩, ⟨Nat.zero_le _, Nat.zero_le _, fun i hi => absurd hi (Nat.not_lt_zero i), k4.2.2.2⟩⟩
  obtain ⟨q1, q2, q3, q4, q5, q6, q7, q8, q9⟩ := k2
  exact ⟨kar_fr q1 (hF 172 (by omega)), ⟨_, h173⟩, kar_fr q3 (hF 178 (by omega)), kar_fr q4 (hF 179 (by omega)), kar_fr q5 (hF 180 (by omega)), kar_fr q6 (hF 181 (by omega)), kar_fr q7 (hF 183 (by omega)), kar_fr q8 (hF 184 (by omega)), kar_fr q9 (hF 185 (by omega))⟩
theorem kx218 (hM : kM a f g s) (ho : kZo s.o) (hE : ∀ e st, kRdg s.bc s.bl 700 kZ0 (kTs s.bc s.bl 0) = .inl (e, st) → e ≠ 0 → kMQ a f (kLde s e st) 0 Q (-1)) (hO : ∀ z, kRdg s.bc s.bl 700 kZ0 (kTs s.bc s.bl 0) = .inr z → kZo z → kMQ a f (kLdo s z) 0 Q (nI z.n)) : ky_cl adK 218 [.ref (a 170)] f Q := by
  have e3 : (3 : Int32) = nI 3 := rfl
  have e33 : (nI 3 = (0 : Int32)) = False := eq_false (by decide)
  have rest : ∀ f1 g1, kM a f1 g1 s → g1 0 = 0 → kfr a f f1 kMF → ky_ok adK 218 5 [some (.ref (a 170)), none] [] f1 0 0 Q := by
    intro f1 g1 hM1 h10 hF1
    obtain ⟨ha, hMo, ⟨⟨r, hr, hR⟩, hU, hV, hC, hT, hW⟩, h2, h3, h4⟩ := id hM1
    have mh := hMo
    unfold kMo at mh
    have h60 := ho.n60
    have hL := kRw_l ho hR
    have hMt := kM_mt hM1
    have hL7 := hMt.2.2.1
    generalize hc : s.bc = c at hMt hE hO
    generalize hLL : s.bl = L at hMt hE hO hL7
    obtain ⟨-, ⟨R0, h173⟩, -⟩ := id h2
    -- not good
    have finE : ∀ f2 g2 e st T, kMt a f2 g2 L c → kEr e st g2 → f2 (a 173) = some (.inl (1, 388, .inl T)) → (∀ j, j < 4 ∨ 10 < j → g2 j = g1 j) → kfr a f1 f2 (fun j => j = 170 ∨ j = 173) → kRdg c L 700 kZ0 (kTs c L 0) = .inl (e, st) → e ≠ 0 → ky_ok adK 218 18 [some (.ref (a 170)), some (.int 0)] [] f2 0 0 Q := by
      intro f2 g2 e st T hMt2 hEr h173' hg hF hrd he
      have mh2 := hMt2.1
      unfold kMo at mh2
      have hh := fun f3 (h0 : kMo a f3 (upd g2 3 0)) (hF3 : kfr a f2 f3 (fun j => j = 170)) => hE e st hrd he f3 (upd g2 3 0) (by
        have := kM_lde (e := nI e) (st := nI st) hM1 h0 (fun j hj => (pk_un (by omega)).trans (hg j (by omega))) rfl hEr.1 hEr.2 ((hF3 173 (by omega)).trans h173') (kfr_tr hF hF3 fun j hj => ⟨hj, fun w => hj (Or.inl w)⟩)
        exact this) ((hg 0 (by omega)).trans h10) (kfr_tr hF1 (kfr_tr (T := kMF) hF hF3 fun j hj => ⟨fun w => hj (by unfold kMF; omega), fun w => hj (by unfold kMF; omega)⟩) fun j hj => ⟨hj, hj⟩)
      repeat' (first | (refine ky_ok_stp rfl ?_; simp (disch := first | omega | assumption) only [ky_stp, ky_inv, ky_ldi, ky_ldl, ky_ldd, ky_lda, ky_cl2, ky_st1, ky_st2, ky_s1i, ky_s2i, ky_s1l, ky_s2l, ky_sli, ky_s1f, ky_s2f, ky_s1d, ky_s2d, ky_sr, ky_sai, ky_sasi, ky_sasl, ky_sasr, ky_svr, ky_sv, ky_sv2, ky_s1, ky_cs, ky_pop, ky_nth, ky_snt, ky_obj, ky_ari, ky_arl, ky_arr, ky_arn, ky_fv, ky_rcv, List.map_cons, List.map_nil, List.drop_succ_cons, List.drop_zero, Value.category, Nat.reduceAdd, Nat.reduceSub, true_and, and_true, true_or, or_true, reduceCtorEq, ite_true, ite_false, eq_self, Nat.reduceEqDiff, Nat.reduceLeDiff, nI_add, nI_1, nI_leI, nI_ltI, nI_eq, nI_clamp, kz_m1, kz_mn, kz_mn2, kz_n0, kz_0n, kz_0, kz_le0, kz_0lt, false_implies, true_implies, not_false_eq_true, not_true_eq_false, Nat.zero_le, kb_0, kz_10, kz_of, ky_sw, kz_mx, kz_mi, mh2]) | (refine ⟨vp_in_nI (by omega) (by omega), ?_⟩) | (refine ⟨fun zc => ?_, fun zc => ?_⟩ <;> try (exfalso; omega)) | fail)
      exact hh _ (by unfold kMo; rw [kz_same]; rfl) (kfr_up ha kfr_rf rfl)
    have finO : ∀ f2 g2 st z T, kMt a f2 g2 L c → kTq g2 c L st → kTk c L st = 0 → f2 (a 173) = some (.inl (1, 388, .inl T)) → kRw T z → kZo z → (∀ j, j < 4 ∨ 10 < j → g2 j = g1 j) → kfr a f1 f2 (fun j => j = 170 ∨ j = 173) → kRdg c L 700 kZ0 (kTs c L 0) = .inr z → ky_ok adK 218 18 [some (.ref (a 170)), some (.int 1)] [] f2 0 0 Q := by
      intro f2 g2 st z T hMt2 hT2 hk h173' hRT hoz hg hF hrd
      have mh2 := hMt2.1
      unfold kMo at mh2
      have q6 := hT2.1.2.2.1
      have hr2 : f2 (a 171) = some (.inl (1, 388, .inl r)) := (hF 171 (by omega)).trans hr
      have hq6 : (nI 0 = (0 : Int32)) = True := eq_true rfl
      have hB1 : ∀ e, (ky_up f2 (a 170) e) (a 171) = some (.inl (1, 388, .inl r)) := fun e => (kfr_up (S := fun j => j = 170) (e := e) ha kfr_rf rfl 171 (by omega)).trans hr2
      have hB3 : ∀ e, (ky_up f2 (a 170) e) (a 173) = some (.inl (1, 388, .inl T)) := fun e => (kfr_up (S := fun j => j = 170) (e := e) ha kfr_rf rfl 173 (by omega)).trans h173'
      repeat' (first | (refine kx171 (i := 173) (j := 171) (b := 0) (t := 0) ha (by decide) (hB3 _) (hB1 _) (by decide) (by decide) (by decide) ?_) | (refine ky_ok_stp rfl ?_; simp (disch := first | omega | assumption) only [ky_stp, ky_inv, ky_ldi, ky_ldl, ky_ldd, ky_lda, ky_cl2, ky_st1, ky_st2, ky_s1i, ky_s2i, ky_s1l, ky_s2l, ky_sli, ky_s1f, ky_s2f, ky_s1d, ky_s2d, ky_sr, ky_sai, ky_sasi, ky_sasl, ky_sasr, ky_svr, ky_sv, ky_sv2, ky_s1, ky_cs, ky_pop, ky_nth, ky_snt, ky_obj, ky_ari, ky_arl, ky_arr, ky_arn, ky_fv, ky_rcv, List.map_cons, List.map_nil, List.drop_succ_cons, List.drop_zero, Value.category, Nat.reduceAdd, Nat.reduceSub, true_and, and_true, true_or, or_true, reduceCtorEq, ite_true, ite_false, eq_self, Nat.reduceEqDiff, Nat.reduceLeDiff, nI_add, nI_1, nI_leI, nI_ltI, nI_eq, nI_clamp, kz_m1, kz_mn, kz_mn2, kz_n0, kz_0n, kz_0, kz_le0, kz_0lt, false_implies, true_implies, not_false_eq_true, not_true_eq_false, Nat.zero_le, kb_0, kz_10, kz_of, ky_sw, kz_mx, kz_mi, mh2, q6, hk, hq6, kz_up]) | (refine ⟨vp_in_nI (by omega) (by omega), ?_⟩) | (refine ⟨fun zc => ?_, fun zc => ?_⟩ <;> try (exfalso; omega)) | fail)
      intro f3 R h171 hRe hF3
      (try simp only [ky_aft, ky_vl, Nat.reduceAdd])
      have hF3' : kfr a f2 f3 (fun j => j = 170 ∨ j = 171) := kfr_tr (kfr_up (S := fun j => j = 170) ha kfr_rf rfl) hF3 fun j hj => ⟨fun w => hj (Or.inl w), fun w => hj (Or.inr w)⟩
      have mh3 : kMo a f3 (upd g2 3 0) := (kMo_mk ((hF3 170 (by decide)).trans kz_same) (by first | rfl | simp [upd, q6, hk]) (by first | rfl | simp [upd, q6, hk]) (by first | rfl | simp [upd, q6, hk]) (by first | rfl | simp [upd, q6, hk]) (by first | rfl | simp [upd, q6, hk]) (by first | rfl | simp [upd, q6, hk]) (by first | rfl | simp [upd, q6, hk]) (by first | rfl | simp [upd, q6, hk]) (by first | rfl | simp [upd, q6, hk]) (by first | rfl | simp [upd, q6, hk]) (by first | rfl | simp [upd, q6, hk]) (by first | rfl | simp [upd, q6, hk]) (by first | rfl | simp [upd, q6, hk]))
      have hM3 := mh3
      unfold kMo at mh3
      have hRz : kRw R z := kRw_c hoz.n60 hRT fun t ht => by rw [hRe, kcp, if_pos (by omega), Nat.zero_add, Nat.sub_zero]
      have hB4 : ∀ e, (ky_up f3 (a 170) e) (a 171) = some (.inl (1, 388, .inl R)) := fun e => (kfr_up (S := fun j => j = 170) (e := e) ha kfr_rf rfl 171 (by omega)).trans h171
      have hz0 := hRz.1
      have hh := fun f4 (h0 : kMo a f4 (upd (upd g2 3 0) 1 0)) (hF4 : kfr a f3 f4 (fun j => j = 170)) => hO z hrd hoz f4 (upd (upd g2 3 0) 1 0) (by
        exact kM_ldo (z := z) hM1 h0 (((pk_un (by omega)).trans (pk_un (by omega))).trans (hg 12 (by omega))) rfl rfl hT2.2.1 hT2.2.2 ((hF4 171 (by omega)).trans h171) hRz ((hF4 173 (by omega)).trans ((hF3' 173 (by omega)).trans h173')) (kfr_tr hF (kfr_tr (T := fun j => j = 170 ∨ j = 171) hF3' hF4 fun j hj => ⟨hj, fun w => hj (Or.inl w)⟩) fun j hj => ⟨fun w => hj (by omega), fun w => hj (by omega)⟩)) ((hg 0 (by omega)).trans h10) (kfr_tr hF1 (kfr_tr (T := kMF) hF (kfr_tr (T := kMF) hF3' hF4 fun j hj => ⟨fun w => hj (by unfold kMF; omega), fun w => hj (by unfold kMF; omega)⟩) fun j hj => ⟨fun w => hj (by unfold kMF; omega), hj⟩) fun j hj => ⟨hj, hj⟩)
      have hM5 : ∀ e, kMo a (ky_up f3 (a 170) e) (upd (upd g2 3 0) 1 0) → kMo a (ky_up f3 (a 170) e) (upd (upd g2 3 0) 1 0) := fun e h => h
      repeat' (first | (refine kx172 (hM5 _ (by unfold kMo; rw [kz_same]; rfl)) (hB4 _) ?_; simp only [ky_aft, ky_vl, Nat.reduceAdd]) | (refine ky_ok_stp rfl ?_; simp (disch := first | omega | assumption) only [ky_stp, ky_inv, ky_ldi, ky_ldl, ky_ldd, ky_lda, ky_cl2, ky_st1, ky_st2, ky_s1i, ky_s2i, ky_s1l, ky_s2l, ky_sli, ky_s1f, ky_s2f, ky_s1d, ky_s2d, ky_sr, ky_sai, ky_sasi, ky_sasl, ky_sasr, ky_svr, ky_sv, ky_sv2, ky_s1, ky_cs, ky_pop, ky_nth, ky_snt, ky_obj, ky_ari, ky_arl, ky_arr, ky_arn, ky_fv, ky_rcv, List.map_cons, List.map_nil, List.drop_succ_cons, List.drop_zero, Value.category, Nat.reduceAdd, Nat.reduceSub, true_and, and_true, true_or, or_true, reduceCtorEq, ite_true, ite_false, eq_self, Nat.reduceEqDiff, Nat.reduceLeDiff, nI_add, nI_1, nI_leI, nI_ltI, nI_eq, nI_clamp, kz_m1, kz_mn, kz_mn2, kz_n0, kz_0n, kz_0, kz_le0, kz_0lt, false_implies, true_implies, not_false_eq_true, not_true_eq_false, Nat.zero_le, kb_0, kz_10, kz_of, ky_sw, kz_mx, kz_mi, mh3, kz_up, hz0]) | (refine ⟨vp_in_nI (by omega) (by omega), ?_⟩) | (refine ⟨fun zc => ?_, fun zc => ?_⟩ <;> try (exfalso; omega)) | fail)
      exact hh _ (by unfold kMo; rw [kz_same]; rfl) (kfr_up ha kfr_rf rfl)
    -- the texts
    have lp : ∀ m f2 g2 st z T, 700 ≤ st + m → kRdg c L 700 kZ0 (kTs c L 0) = kRdg c L m z st → kZo z → st ≤ L → kMt a f2 g2 L c → kTq g2 c L st → f2 (a 173) = some (.inl (1, 388, .inl T)) → kRw T z → (∀ j, j < 4 ∨ 10 < j → g2 j = g1 j) → kfr a f1 f2 (fun j => j = 170 ∨ j = 173) → ky_ok adK 218 18 [some (.ref (a 170)), some (.int 1)] [] f2 0 0 Q := by
      intro m
      induction m with
      | zero =>
        intro f2 g2 st z T hm hrd hoz hst hMt2 hT2 h173' hRT hg hF
        exact finO f2 g2 st z T hMt2 hT2 (by rw [kTk, if_neg (by omega)]) h173' hRT hoz hg hF hrd
      | succ m ih =>
        intro f2 g2 st z T hm hrd hoz hst hMt2 hT2 h173' hRT hg hF
        rw [kRdg_s c L m z st] at hrd
        by_cases hk : kTk c L st = 0
        · rw [if_pos hk] at hrd
          exact finO f2 g2 st z T hMt2 hT2 hk h173' hRT hoz hg hF hrd
        rw [if_neg hk] at hrd
        have mh2 := hMt2.1
        unfold kMo at mh2
        have q6 := hT2.1.2.2.1
        have hk5 := kTk_5 c L st
        have hlt : st < L := by
          by_cases e : st < L
          · exact e
          · exact absurd (by rw [kTk, if_neg e]) hk
        by_cases hk3 : kTk c L st = 3
        · rw [if_pos hk3] at hrd
          repeat' (first | (refine kx215 ha hMt2 hst hT2 h173' hRT hoz (fun hn => ?_) (fun hn hS => ?_) (fun hn hS hW => ?_) (fun hn hS hW => ?_)) | (refine ky_ok_stp rfl ?_; simp (disch := first | omega | assumption) only [ky_stp, ky_inv, ky_ldi, ky_ldl, ky_ldd, ky_lda, ky_cl2, ky_st1, ky_st2, ky_s1i, ky_s2i, ky_s1l, ky_s2l, ky_sli, ky_s1f, ky_s2f, ky_s1d, ky_s2d, ky_sr, ky_sai, ky_sasi, ky_sasl, ky_sasr, ky_svr, ky_sv, ky_sv2, ky_s1, ky_cs, ky_pop, ky_nth, ky_snt, ky_obj, ky_ari, ky_arl, ky_arr, ky_arn, ky_fv, ky_rcv, List.map_cons, List.map_nil, List.drop_succ_cons, List.drop_zero, Value.category, Nat.reduceAdd, Nat.reduceSub, true_and, and_true, true_or, or_true, reduceCtorEq, ite_true, ite_false, eq_self, Nat.reduceEqDiff, Nat.reduceLeDiff, nI_add, nI_1, nI_leI, nI_ltI, nI_eq, nI_clamp, kz_m1, kz_mn, kz_mn2, kz_n0, kz_0n, kz_0, kz_le0, kz_0lt, false_implies, true_implies, not_false_eq_true, not_true_eq_false, Nat.zero_le, kb_0, kz_10, kz_of, ky_sw, kz_mx, kz_mi, mh2, q6, e3, hk3, e33]) | (refine ⟨vp_in_nI (by omega) (by omega), ?_⟩) | (refine ⟨fun zc => ?_, fun zc => ?_⟩ <;> try (exfalso; omega)) | fail)
          · have eR : kRh c L z.n (kGl z) st = (4, st, [], 0, 0, 0) := by rw [kRh, if_pos hn]
            rw [eR] at hrd
            have hrd := hrd.trans (if_neg (by show ¬ (4 : Nat) = 0; decide))
            intro f3 g3 w1 w2 w3 w4
            (try simp only [ky_aft, ky_vl, Nat.reduceAdd])
            have hf := finE f3 g3 4 st T w1 w2 ((w4 173 (by omega)).trans h173') (fun j hj => (w3 j hj).trans (hg j hj)) (kfr_tr hF w4 fun j hj => ⟨hj, fun w => hj (Or.inl w)⟩) hrd (by decide)
            repeat' (first | (exact hf) | (refine ky_ok_stp rfl ?_; simp (disch := first | omega | assumption) only [ky_stp, ky_inv, ky_ldi, ky_ldl, ky_ldd, ky_lda, ky_cl2, ky_st1, ky_st2, ky_s1i, ky_s2i, ky_s1l, ky_s2l, ky_sli, ky_s1f, ky_s2f, ky_s1d, ky_s2d, ky_sr, ky_sai, ky_sasi, ky_sasl, ky_sasr, ky_svr, ky_sv, ky_sv2, ky_s1, ky_cs, ky_pop, ky_nth, ky_snt, ky_obj, ky_ari, ky_arl, ky_arr, ky_arn, ky_fv, ky_rcv, List.map_cons, List.map_nil, List.drop_succ_cons, List.drop_zero, Value.category, Nat.reduceAdd, Nat.reduceSub, true_and, and_true, true_or, or_true, reduceCtorEq, ite_true, ite_false, eq_self, Nat.reduceEqDiff, Nat.reduceLeDiff, nI_add, nI_1, nI_leI, nI_ltI, nI_eq, nI_clamp, kz_m1, kz_mn, kz_mn2, kz_n0, kz_0n, kz_0, kz_le0, kz_0lt, false_implies, true_implies, not_false_eq_true, not_true_eq_false, Nat.zero_le, kb_0, kz_10, kz_of, ky_sw, kz_mx, kz_mi]) | (refine ⟨vp_in_nI (by omega) (by omega), ?_⟩) | (refine ⟨fun zc => ?_, fun zc => ?_⟩ <;> try (exfalso; omega)) | fail)
          · have eR : kRh c L z.n (kGl z) st = ((kSr c L (kGl z + 1) 7 0 st).1, (kSr c L (kGl z + 1) 7 0 st).2.2, [], 0, 0, 0) := by rw [kRh, if_neg hn, if_pos hS]
            rw [eR] at hrd
            have hrd := hrd.trans (if_neg hS)
            intro f3 g3 w1 w2 w3 w4
            (try simp only [ky_aft, ky_vl, Nat.reduceAdd])
            have hf := finE f3 g3 _ _ T w1 w2 ((w4 173 (by omega)).trans h173') (fun j hj => (w3 j hj).trans (hg j hj)) (kfr_tr hF w4 fun j hj => ⟨hj, fun w => hj (Or.inl w)⟩) hrd hS
            repeat' (first | (exact hf) | (refine ky_ok_stp rfl ?_; simp (disch := first | omega | assumption) only [ky_stp, ky_inv, ky_ldi, ky_ldl, ky_ldd, ky_lda, ky_cl2, ky_st1, ky_st2, ky_s1i, ky_s2i, ky_s1l, ky_s2l, ky_sli, ky_s1f, ky_s2f, ky_s1d, ky_s2d, ky_sr, ky_sai, ky_sasi, ky_sasl, ky_sasr, ky_svr, ky_sv, ky_sv2, ky_s1, ky_cs, ky_pop, ky_nth, ky_snt, ky_obj, ky_ari, ky_arl, ky_arr, ky_arn, ky_fv, ky_rcv, List.map_cons, List.map_nil, List.drop_succ_cons, List.drop_zero, Value.category, Nat.reduceAdd, Nat.reduceSub, true_and, and_true, true_or, or_true, reduceCtorEq, ite_true, ite_false, eq_self, Nat.reduceEqDiff, Nat.reduceLeDiff, nI_add, nI_1, nI_leI, nI_ltI, nI_eq, nI_clamp, kz_m1, kz_mn, kz_mn2, kz_n0, kz_0n, kz_0, kz_le0, kz_0lt, false_implies, true_implies, not_false_eq_true, not_true_eq_false, Nat.zero_le, kb_0, kz_10, kz_of, ky_sw, kz_mx, kz_mi]) | (refine ⟨vp_in_nI (by omega) (by omega), ?_⟩) | (refine ⟨fun zc => ?_, fun zc => ?_⟩ <;> try (exfalso; omega)) | fail)
          · have eR : kRh c L z.n (kGl z) st = (1, (kSr c L (kGl z + 1) 7 0 st).2.2, [], 0, 0, 0) := by rw [kRh, if_neg hn, if_neg (fun w => w hS), if_pos hW]
            rw [eR] at hrd
            have hrd := hrd.trans (if_neg (by show ¬ (1 : Nat) = 0; decide))
            intro f3 g3 w1 w2 w3 w4
            (try simp only [ky_aft, ky_vl, Nat.reduceAdd])
            have hf := finE f3 g3 1 _ T w1 w2 ((w4 173 (by omega)).trans h173') (fun j hj => (w3 j hj).trans (hg j hj)) (kfr_tr hF w4 fun j hj => ⟨hj, fun w => hj (Or.inl w)⟩) hrd (by decide)
            repeat' (first | (exact hf) | (refine ky_ok_stp rfl ?_; simp (disch := first | omega | assumption) only [ky_stp, ky_inv, ky_ldi, ky_ldl, ky_ldd, ky_lda, ky_cl2, ky_st1, ky_st2, ky_s1i, ky_s2i, ky_s1l, ky_s2l, ky_sli, ky_s1f, ky_s2f, ky_s1d, ky_s2d, ky_sr, ky_sai, ky_sasi, ky_sasl, ky_sasr, ky_svr, ky_sv, ky_sv2, ky_s1, ky_cs, ky_pop, ky_nth, ky_snt, ky_obj, ky_ari, ky_arl, ky_arr, ky_arn, ky_fv, ky_rcv, List.map_cons, List.map_nil, List.drop_succ_cons, List.drop_zero, Value.category, Nat.reduceAdd, Nat.reduceSub, true_and, and_true, true_or, or_true, reduceCtorEq, ite_true, ite_false, eq_self, Nat.reduceEqDiff, Nat.reduceLeDiff, nI_add, nI_1, nI_leI, nI_ltI, nI_eq, nI_clamp, kz_m1, kz_mn, kz_mn2, kz_n0, kz_0n, kz_0, kz_le0, kz_0lt, false_implies, true_implies, not_false_eq_true, not_true_eq_false, Nat.zero_le, kb_0, kz_10, kz_of, ky_sw, kz_mx, kz_mi]) | (refine ⟨vp_in_nI (by omega) (by omega), ?_⟩) | (refine ⟨fun zc => ?_, fun zc => ?_⟩ <;> try (exfalso; omega)) | fail)
          · have eR : kRh c L z.n (kGl z) st = (if kTk c L (kNx c L kwF (kNx c L kwP (kTn c L (kSr c L (kGl z + 1) 7 0 st).2.2))) = 4 then 0 else 1, if kTk c L (kNx c L kwF (kNx c L kwP (kTn c L (kSr c L (kGl z + 1) 7 0 st).2.2))) = 4 then kTn c L (kNx c L kwF (kNx c L kwP (kTn c L (kSr c L (kGl z + 1) 7 0 st).2.2))) else kNx c L kwF (kNx c L kwP (kTn c L (kSr c L (kGl z + 1) 7 0 st).2.2)), kTw c L (kSr c L (kGl z + 1) 7 0 st).2.2, (kSr c L (kGl z + 1) 7 0 st).2.1, if kTw c L (kTn c L (kSr c L (kGl z + 1) 7 0 st).2.2) = kwP then 1 else 0, if kTw c L (kNx c L kwP (kTn c L (kSr c L (kGl z + 1) 7 0 st).2.2)) = kwF then 1 else 0) := by
              rw [kRh, if_neg hn, if_neg (fun w => w hS), if_neg hW]
            have hsr := kSr_le (c := c) (g := kGl z + 1) 7 0 st hst
            have t1 := kTn_le (c := c) hsr.2
            have t2 := kNx_le (c := c) (W := kwP) t1.2
            have t3 := kNx_le (c := c) (W := kwF) t2.2
            have hokk := fun h => kRh_ok (n := z.n) (g := kGl z) hk3 h
            have hprog : st < kTn c L (kSr c L (kGl z + 1) 7 0 st).2.2 := by
              by_cases e : (kSr c L (kGl z + 1) 7 0 st).2.2 < L
              · have := kTn_lt (c := c) e; omega
              · omega
            rw [eR] at hrd hokk
            generalize kNx c L kwF (kNx c L kwP (kTn c L (kSr c L (kGl z + 1) 7 0 st).2.2)) = s4 at t3 hrd hokk ⊢
            intro f3 g3 r3 w1 w2 w3 w4 w5 w6
            (try simp only [ky_aft, ky_vl, Nat.reduceAdd])
            have mh3 := w1.1
            unfold kMo at mh3
            have hg3 : ∀ j, j < 4 ∨ 10 < j → g3 j = g1 j := fun j hj => (w5 j hj).trans (hg j hj)
            have hF3 : kfr a f1 f3 (fun j => j = 170 ∨ j = 173) := kfr_tr hF w6 fun j hj => ⟨hj, hj⟩
            repeat' (first | (refine kx208 ha w1 t3.2 w2 (fun k4 => ?_) (fun k4 => ?_)) | (refine ky_ok_stp rfl ?_; simp (disch := first | omega | assumption) only [ky_stp, ky_inv, ky_ldi, ky_ldl, ky_ldd, ky_lda, ky_cl2, ky_st1, ky_st2, ky_s1i, ky_s2i, ky_s1l, ky_s2l, ky_sli, ky_s1f, ky_s2f, ky_s1d, ky_s2d, ky_sr, ky_sai, ky_sasi, ky_sasl, ky_sasr, ky_svr, ky_sv, ky_sv2, ky_s1, ky_cs, ky_pop, ky_nth, ky_snt, ky_obj, ky_ari, ky_arl, ky_arr, ky_arn, ky_fv, ky_rcv, List.map_cons, List.map_nil, List.drop_succ_cons, List.drop_zero, Value.category, Nat.reduceAdd, Nat.reduceSub, true_and, and_true, true_or, or_true, reduceCtorEq, ite_true, ite_false, eq_self, Nat.reduceEqDiff, Nat.reduceLeDiff, nI_add, nI_1, nI_leI, nI_ltI, nI_eq, nI_clamp, kz_m1, kz_mn, kz_mn2, kz_n0, kz_0n, kz_0, kz_le0, kz_0lt, false_implies, true_implies, not_false_eq_true, not_true_eq_false, Nat.zero_le, kb_0, kz_10, kz_of, ky_sw, kz_mx, kz_mi, mh3]) | (refine ⟨vp_in_nI (by omega) (by omega), ?_⟩) | (refine ⟨fun zc => ?_, fun zc => ?_⟩ <;> try (exfalso; omega)) | fail)
            · simp only [if_pos k4, if_true] at hrd hokk
              have ok := hokk trivial
              intro f4 g4 u1 u2 u3 u4
              (try simp only [ky_aft, ky_vl, Nat.reduceAdd])
              have t4 := kTn_le (c := c) t3.2
              have hi := ih f4 g4 (kTn c L s4) _ r3 (by omega) hrd (kZh_ok hoz ok.1 ok.2.1 ok.2.2.1 ok.2.2.2.1 ok.2.2.2.2.1 ok.2.2.2.2.2.1 ok.2.2.2.2.2.2) t4.2 u1 u2.1 ((u4 173 (by omega)).trans w3) w4 (fun j hj => (u3 j hj).trans (hg3 j hj)) (kfr_tr hF3 u4 fun j hj => ⟨hj, fun w => hj (Or.inl w)⟩)
              repeat' (first | (exact hi) | (refine ky_ok_stp rfl ?_; simp (disch := first | omega | assumption) only [ky_stp, ky_inv, ky_ldi, ky_ldl, ky_ldd, ky_lda, ky_cl2, ky_st1, ky_st2, ky_s1i, ky_s2i, ky_s1l, ky_s2l, ky_sli, ky_s1f, ky_s2f, ky_s1d, ky_s2d, ky_sr, ky_sai, ky_sasi, ky_sasl, ky_sasr, ky_svr, ky_sv, ky_sv2, ky_s1, ky_cs, ky_pop, ky_nth, ky_snt, ky_obj, ky_ari, ky_arl, ky_arr, ky_arn, ky_fv, ky_rcv, List.map_cons, List.map_nil, List.drop_succ_cons, List.drop_zero, Value.category, Nat.reduceAdd, Nat.reduceSub, true_and, and_true, true_or, or_true, reduceCtorEq, ite_true, ite_false, eq_self, Nat.reduceEqDiff, Nat.reduceLeDiff, nI_add, nI_1, nI_leI, nI_ltI, nI_eq, nI_clamp, kz_m1, kz_mn, kz_mn2, kz_n0, kz_0n, kz_0, kz_le0, kz_0lt, false_implies, true_implies, not_false_eq_true, not_true_eq_false, Nat.zero_le, kb_0, kz_10, kz_of, ky_sw, kz_mx, kz_mi]) | (refine ⟨vp_in_nI (by omega) (by omega), ?_⟩) | (refine ⟨fun zc => ?_, fun zc => ?_⟩ <;> try (exfalso; omega)) | fail)
            · simp only [if_neg k4, if_false, Nat.one_ne_zero] at hrd
              intro f4 g4 u1 u2 u3 u4
              (try simp only [ky_aft, ky_vl, Nat.reduceAdd])
              have hf := finE f4 g4 1 s4 r3 u1 u2 ((u4 173 (by omega)).trans w3) (fun j hj => (u3 j hj).trans (hg3 j hj)) (kfr_tr hF3 u4 fun j hj => ⟨hj, fun w => hj (Or.inl w)⟩) hrd (by decide)
              repeat' (first | (exact hf) | (refine ky_ok_stp rfl ?_; simp (disch := first | omega | assumption) only [ky_stp, ky_inv, ky_ldi, ky_ldl, ky_ldd, ky_lda, ky_cl2, ky_st1, ky_st2, ky_s1i, ky_s2i, ky_s1l, ky_s2l, ky_sli, ky_s1f, ky_s2f, ky_s1d, ky_s2d, ky_sr, ky_sai, ky_sasi, ky_sasl, ky_sasr, ky_svr, ky_sv, ky_sv2, ky_s1, ky_cs, ky_pop, ky_nth, ky_snt, ky_obj, ky_ari, ky_arl, ky_arr, ky_arn, ky_fv, ky_rcv, List.map_cons, List.map_nil, List.drop_succ_cons, List.drop_zero, Value.category, Nat.reduceAdd, Nat.reduceSub, true_and, and_true, true_or, or_true, reduceCtorEq, ite_true, ite_false, eq_self, Nat.reduceEqDiff, Nat.reduceLeDiff, nI_add, nI_1, nI_leI, nI_ltI, nI_eq, nI_clamp, kz_m1, kz_mn, kz_mn2, kz_n0, kz_0n, kz_0, kz_le0, kz_0lt, false_implies, true_implies, not_false_eq_true, not_true_eq_false, Nat.zero_le, kb_0, kz_10, kz_of, ky_sw, kz_mx, kz_mi]) | (refine ⟨vp_in_nI (by omega) (by omega), ?_⟩) | (refine ⟨fun zc => ?_, fun zc => ?_⟩ <;> try (exfalso; omega)) | fail)
        · rw [if_neg hk3] at hrd
          have n0 : (nI (kTk c L st) = 0) = False := by rw [show (0 : Int32) = nI 0 from rfl, nI_eq (by omega) (by omega)]; exact eq_false hk
          repeat' (first | (refine kx217 ha hMt2 hst hT2 h173' hRT (fun w p hw hY => ?_) (fun l kd sv s' hs' hsp hY l1 l6 => ?_)) | (refine ky_ok_stp rfl ?_; simp (disch := first | omega | assumption) only [ky_stp, ky_inv, ky_ldi, ky_ldl, ky_ldd, ky_lda, ky_cl2, ky_st1, ky_st2, ky_s1i, ky_s2i, ky_s1l, ky_s2l, ky_sli, ky_s1f, ky_s2f, ky_s1d, ky_s2d, ky_sr, ky_sai, ky_sasi, ky_sasl, ky_sasr, ky_svr, ky_sv, ky_sv2, ky_s1, ky_cs, ky_pop, ky_nth, ky_snt, ky_obj, ky_ari, ky_arl, ky_arr, ky_arn, ky_fv, ky_rcv, List.map_cons, List.map_nil, List.drop_succ_cons, List.drop_zero, Value.category, Nat.reduceAdd, Nat.reduceSub, true_and, and_true, true_or, or_true, reduceCtorEq, ite_true, ite_false, eq_self, Nat.reduceEqDiff, Nat.reduceLeDiff, nI_add, nI_1, nI_leI, nI_ltI, nI_eq, nI_clamp, kz_m1, kz_mn, kz_mn2, kz_n0, kz_0n, kz_0, kz_le0, kz_0lt, false_implies, true_implies, not_false_eq_true, not_true_eq_false, Nat.zero_le, kb_0, kz_10, kz_of, ky_sw, kz_mx, kz_mi, mh2, q6, e3, n0, eq_false hk, eq_false hk3]) | (refine ⟨vp_in_nI (by omega) (by omega), ?_⟩) | (refine ⟨fun zc => ?_, fun zc => ?_⟩ <;> try (exfalso; omega)) | fail)
          · rw [hY] at hrd
            have hrd := hrd.trans (if_neg hw)
            intro f3 g3 w1 w2 w3 w4
            (try simp only [ky_aft, ky_vl, Nat.reduceAdd])
            have hf := finE f3 g3 w p T w1 w2 ((w4 173 (by omega)).trans h173') (fun j hj => (w3 j hj).trans (hg j hj)) (kfr_tr hF w4 fun j hj => ⟨hj, fun w => hj (Or.inl w)⟩) hrd hw
            repeat' (first | (exact hf) | (refine ky_ok_stp rfl ?_; simp (disch := first | omega | assumption) only [ky_stp, ky_inv, ky_ldi, ky_ldl, ky_ldd, ky_lda, ky_cl2, ky_st1, ky_st2, ky_s1i, ky_s2i, ky_s1l, ky_s2l, ky_sli, ky_s1f, ky_s2f, ky_s1d, ky_s2d, ky_sr, ky_sai, ky_sasi, ky_sasl, ky_sasr, ky_svr, ky_sv, ky_sv2, ky_s1, ky_cs, ky_pop, ky_nth, ky_snt, ky_obj, ky_ari, ky_arl, ky_arr, ky_arn, ky_fv, ky_rcv, List.map_cons, List.map_nil, List.drop_succ_cons, List.drop_zero, Value.category, Nat.reduceAdd, Nat.reduceSub, true_and, and_true, true_or, or_true, reduceCtorEq, ite_true, ite_false, eq_self, Nat.reduceEqDiff, Nat.reduceLeDiff, nI_add, nI_1, nI_leI, nI_ltI, nI_eq, nI_clamp, kz_m1, kz_mn, kz_mn2, kz_n0, kz_0n, kz_0, kz_le0, kz_0lt, false_implies, true_implies, not_false_eq_true, not_true_eq_false, Nat.zero_le, kb_0, kz_10, kz_of, ky_sw, kz_mx, kz_mi]) | (refine ⟨vp_in_nI (by omega) (by omega), ?_⟩) | (refine ⟨fun zc => ?_, fun zc => ?_⟩ <;> try (exfalso; omega)) | fail)
          · have t2 := kNx_le (c := c) (W := kwO) hs'
            have t3 := kNx_le (c := c) (W := kwN) t2.2
            have hprog := kTn_lt (c := c) hlt
            have hokk := fun h => kRy_ok (c := c) (L := L) (s := st) h
            rw [hY] at hrd hokk
            have eF : kRf c L l kd sv s' = (if kTk c L (kNx c L kwN (kNx c L kwO s')) = 4 then 0 else 1, if kTk c L (kNx c L kwN (kNx c L kwO s')) = 4 then kTn c L (kNx c L kwN (kNx c L kwO s')) else kNx c L kwN (kNx c L kwO s'), l, kd, sv, if kTw c L s' = kwO then 1 else 0, if kTw c L (kNx c L kwO s') = kwN then 1 else 0) := rfl
            have eF1 : (kRf c L l kd sv s').1 = if kTk c L (kNx c L kwN (kNx c L kwO s')) = 4 then 0 else 1 := rfl
            have eF2 : (kRf c L l kd sv s').2.1 = if kTk c L (kNx c L kwN (kNx c L kwO s')) = 4 then kTn c L (kNx c L kwN (kNx c L kwO s')) else kNx c L kwN (kNx c L kwO s') := rfl
            generalize kRf c L l kd sv s' = y at hrd hokk eF1 eF2 ⊢
            clear eF
            generalize kNx c L kwN (kNx c L kwO s') = s4 at t3 eF1 eF2 ⊢
            intro f3 g3 r3 w1 w2 w3 w4 w5 w6
            (try simp only [ky_aft, ky_vl, Nat.reduceAdd])
            have mh3 := w1.1
            unfold kMo at mh3
            have hg3 : ∀ j, j < 4 ∨ 10 < j → g3 j = g1 j := fun j hj => (w5 j hj).trans (hg j hj)
            have hF3 : kfr a f1 f3 (fun j => j = 170 ∨ j = 173) := kfr_tr hF w6 fun j hj => ⟨hj, hj⟩
            repeat' (first | (refine kx208 ha w1 t3.2 w2 (fun k4 => ?_) (fun k4 => ?_)) | (refine ky_ok_stp rfl ?_; simp (disch := first | omega | assumption) only [ky_stp, ky_inv, ky_ldi, ky_ldl, ky_ldd, ky_lda, ky_cl2, ky_st1, ky_st2, ky_s1i, ky_s2i, ky_s1l, ky_s2l, ky_sli, ky_s1f, ky_s2f, ky_s1d, ky_s2d, ky_sr, ky_sai, ky_sasi, ky_sasl, ky_sasr, ky_svr, ky_sv, ky_sv2, ky_s1, ky_cs, ky_pop, ky_nth, ky_snt, ky_obj, ky_ari, ky_arl, ky_arr, ky_arn, ky_fv, ky_rcv, List.map_cons, List.map_nil, List.drop_succ_cons, List.drop_zero, Value.category, Nat.reduceAdd, Nat.reduceSub, true_and, and_true, true_or, or_true, reduceCtorEq, ite_true, ite_false, eq_self, Nat.reduceEqDiff, Nat.reduceLeDiff, nI_add, nI_1, nI_leI, nI_ltI, nI_eq, nI_clamp, kz_m1, kz_mn, kz_mn2, kz_n0, kz_0n, kz_0, kz_le0, kz_0lt, false_implies, true_implies, not_false_eq_true, not_true_eq_false, Nat.zero_le, kb_0, kz_10, kz_of, ky_sw, kz_mx, kz_mi, mh3]) | (refine ⟨vp_in_nI (by omega) (by omega), ?_⟩) | (refine ⟨fun zc => ?_, fun zc => ?_⟩ <;> try (exfalso; omega)) | fail)
            · rw [if_pos k4] at eF1 eF2
              rw [if_pos eF1, eF2] at hrd
              intro f4 g4 u1 u2 u3 u4
              (try simp only [ky_aft, ky_vl, Nat.reduceAdd])
              have t4 := kTn_le (c := c) t3.2
              have hi := ih f4 g4 (kTn c L s4) _ r3 (by omega) hrd (kZy_ok hoz (hokk eF1)) t4.2 u1 u2.1 ((u4 173 (by omega)).trans w3) w4 (fun j hj => (u3 j hj).trans (hg3 j hj)) (kfr_tr hF3 u4 fun j hj => ⟨hj, fun w => hj (Or.inl w)⟩)
              repeat' (first | (exact hi) | (refine ky_ok_stp rfl ?_; simp (disch := first | omega | assumption) only [ky_stp, ky_inv, ky_ldi, ky_ldl, ky_ldd, ky_lda, ky_cl2, ky_st1, ky_st2, ky_s1i, ky_s2i, ky_s1l, ky_s2l, ky_sli, ky_s1f, ky_s2f, ky_s1d, ky_s2d, ky_sr, ky_sai, ky_sasi, ky_sasl, ky_sasr, ky_svr, ky_sv, ky_sv2, ky_s1, ky_cs, ky_pop, ky_nth, ky_snt, ky_obj, ky_ari, ky_arl, ky_arr, ky_arn, ky_fv, ky_rcv, List.map_cons, List.map_nil, List.drop_succ_cons, List.drop_zero, Value.category, Nat.reduceAdd, Nat.reduceSub, true_and, and_true, true_or, or_true, reduceCtorEq, ite_true, ite_false, eq_self, Nat.reduceEqDiff, Nat.reduceLeDiff, nI_add, nI_1, nI_leI, nI_ltI, nI_eq, nI_clamp, kz_m1, kz_mn, kz_mn2, kz_n0, kz_0n, kz_0, kz_le0, kz_0lt, false_implies, true_implies, not_false_eq_true, not_true_eq_false, Nat.zero_le, kb_0, kz_10, kz_of, ky_sw, kz_mx, kz_mi]) | (refine ⟨vp_in_nI (by omega) (by omega), ?_⟩) | (refine ⟨fun zc => ?_, fun zc => ?_⟩ <;> try (exfalso; omega)) | fail)
            · rw [if_neg k4] at eF1 eF2
              rw [if_neg (by rw [eF1]; decide), eF1, eF2] at hrd
              intro f4 g4 u1 u2 u3 u4
              (try simp only [ky_aft, ky_vl, Nat.reduceAdd])
              have hf := finE f4 g4 1 s4 r3 u1 u2 ((u4 173 (by omega)).trans w3) (fun j hj => (u3 j hj).trans (hg3 j hj)) (kfr_tr hF3 u4 fun j hj => ⟨hj, fun w => hj (Or.inl w)⟩) hrd (by decide)
              repeat' (first | (exact hf) | (refine ky_ok_stp rfl ?_; simp (disch := first | omega | assumption) only [ky_stp, ky_inv, ky_ldi, ky_ldl, ky_ldd, ky_lda, ky_cl2, ky_st1, ky_st2, ky_s1i, ky_s2i, ky_s1l, ky_s2l, ky_sli, ky_s1f, ky_s2f, ky_s1d, ky_s2d, ky_sr, ky_sai, ky_sasi, ky_sasl, ky_sasr, ky_svr, ky_sv, ky_sv2, ky_s1, ky_cs, ky_pop, ky_nth, ky_snt, ky_obj, ky_ari, ky_arl, ky_arr, ky_arn, ky_fv, ky_rcv, List.map_cons, List.map_nil, List.drop_succ_cons, List.drop_zero, Value.category, Nat.reduceAdd, Nat.reduceSub, true_and, and_true, true_or, or_true, reduceCtorEq, ite_true, ite_false, eq_self, Nat.reduceEqDiff, Nat.reduceLeDiff, nI_add, nI_1, nI_leI, nI_ltI, nI_eq, nI_clamp, kz_m1, kz_mn, kz_mn2, kz_n0, kz_0n, kz_0, kz_le0, kz_0lt, false_implies, true_implies, not_false_eq_true, not_true_eq_false, Nat.zero_le, kb_0, kz_10, kz_of, ky_sw, kz_mx, kz_mi]) | (refine ⟨vp_in_nI (by omega) (by omega), ?_⟩) | (refine ⟨fun zc => ?_, fun zc => ?_⟩ <;> try (exfalso; omega)) | fail)
    have mh1 := hMo
    unfold kMo at mh1
    repeat' (first | (refine kx209 ha hMt ?_) | (refine ky_ok_stp rfl ?_; simp (disch := first | omega | assumption) only [ky_stp, ky_inv, ky_ldi, ky_ldl, ky_ldd, ky_lda, ky_cl2, ky_st1, ky_st2, ky_s1i, ky_s2i, ky_s1l, ky_s2l, ky_sli, ky_s1f, ky_s2f, ky_s1d, ky_s2d, ky_sr, ky_sai, ky_sasi, ky_sasl, ky_sasr, ky_svr, ky_sv, ky_sv2, ky_s1, ky_cs, ky_pop, ky_nth, ky_snt, ky_obj, ky_ari, ky_arl, ky_arr, ky_arn, ky_fv, ky_rcv, List.map_cons, List.map_nil, List.drop_succ_cons, List.drop_zero, Value.category, Nat.reduceAdd, Nat.reduceSub, true_and, and_true, true_or, or_true, reduceCtorEq, ite_true, ite_false, eq_self, Nat.reduceEqDiff, Nat.reduceLeDiff, nI_add, nI_1, nI_leI, nI_ltI, nI_eq, nI_clamp, kz_m1, kz_mn, kz_mn2, kz_n0, kz_0n, kz_0, kz_le0, kz_0lt, false_implies, true_implies, not_false_eq_true, not_true_eq_false, Nat.zero_le, kb_0, kz_10, kz_of, ky_sw, kz_mx, kz_mi, mh1]) | (refine ⟨vp_in_nI (by omega) (by omega), ?_⟩) | (refine ⟨fun zc => ?_, fun zc => ?_⟩ <;> try (exfalso; omega)) | fail)
    intro f2 g2 w1 w2 w3 w4
    (try simp only [ky_aft, ky_vl, Nat.reduceAdd])
    have mh2 := w1.1
    unfold kMo at mh2
    repeat' (first | (refine kx168 ha ((w4 173 (by omega)).trans h173) ?_) | (refine ky_ok_stp rfl ?_; simp (disch := first | omega | assumption) only [ky_stp, ky_inv, ky_ldi, ky_ldl, ky_ldd, ky_lda, ky_cl2, ky_st1, ky_st2, ky_s1i, ky_s2i, ky_s1l, ky_s2l, ky_sli, ky_s1f, ky_s2f, ky_s1d, ky_s2d, ky_sr, ky_sai, ky_sasi, ky_sasl, ky_sasr, ky_svr, ky_sv, ky_sv2, ky_s1, ky_cs, ky_pop, ky_nth, ky_snt, ky_obj, ky_ari, ky_arl, ky_arr, ky_arn, ky_fv, ky_rcv, List.map_cons, List.map_nil, List.drop_succ_cons, List.drop_zero, Value.category, Nat.reduceAdd, Nat.reduceSub, true_and, and_true, true_or, or_true, reduceCtorEq, ite_true, ite_false, eq_self, Nat.reduceEqDiff, Nat.reduceLeDiff, nI_add, nI_1, nI_leI, nI_ltI, nI_eq, nI_clamp, kz_m1, kz_mn, kz_mn2, kz_n0, kz_0n, kz_0, kz_le0, kz_0lt, false_implies, true_implies, not_false_eq_true, not_true_eq_false, Nat.zero_le, kb_0, kz_10, kz_of, ky_sw, kz_mx, kz_mi, mh2]) | (refine ⟨vp_in_nI (by omega) (by omega), ?_⟩) | (refine ⟨fun zc => ?_, fun zc => ?_⟩ <;> try (exfalso; omega)) | fail)
    intro f3 T h173' hRT hF3
    (try simp only [ky_aft, ky_vl, Nat.reduceAdd])
    have hl := lp 700 f3 g2 (kTs c L 0) kZ0 T (by omega) rfl kZ0_ok (kTs_le (Nat.zero_le L)).2 (by
      obtain ⟨h0, q1, q2, T', q3, q4⟩ := w1
      exact ⟨(hF3 170 (by decide)).trans h0, q1, q2, T', (hF3 182 (by decide)).trans q3, q4⟩) w2 h173' hRT w3 (kfr_tr w4 hF3 fun j hj => ⟨fun w => hj (Or.inl w), fun w => hj (Or.inr w)⟩)
    repeat' (first | (exact hl) | (refine ky_ok_stp rfl ?_; simp (disch := first | omega | assumption) only [ky_stp, ky_inv, ky_ldi, ky_ldl, ky_ldd, ky_lda, ky_cl2, ky_st1, ky_st2, ky_s1i, ky_s2i, ky_s1l, ky_s2l, ky_sli, ky_s1f, ky_s2f, ky_s1d, ky_s2d, ky_sr, ky_sai, ky_sasi, ky_sasl, ky_sasr, ky_svr, ky_sv, ky_sv2, ky_s1, ky_cs, ky_pop, ky_nth, ky_snt, ky_obj, ky_ari, ky_arl, ky_arr, ky_arn, ky_fv, ky_rcv, List.map_cons, List.map_nil, List.drop_succ_cons, List.drop_zero, Value.category, Nat.reduceAdd, Nat.reduceSub, true_and, and_true, true_or, or_true, reduceCtorEq, ite_true, ite_false, eq_self, Nat.reduceEqDiff, Nat.reduceLeDiff, nI_add, nI_1, nI_leI, nI_ltI, nI_eq, nI_clamp, kz_m1, kz_mn, kz_mn2, kz_n0, kz_0n, kz_0, kz_le0, kz_0lt, false_implies, true_implies, not_false_eq_true, not_true_eq_false, Nat.zero_le, kb_0, kz_10, kz_of, ky_sw, kz_mx, kz_mi]) | (refine ⟨vp_in_nI (by omega) (by omega), ?_⟩) | (refine ⟨fun zc => ?_, fun zc => ?_⟩ <;> try (exfalso; omega)) | fail)
  have mh := hM.2.1
  unfold kMo at mh
  refine ⟨Nat.le_of_ble_eq_true rfl, fun z => absurd z (by decide), ?_⟩; show ky_ok adK 218 0 [some (.ref (a 170)), none] [] f 0 0 _
  repeat' (first | (exact rest _ _ (kM_t0 hM) rfl (kMF_170 (kfr_up hM.1 kfr_rf rfl))) | (refine ky_ok_stp rfl ?_; simp (disch := first | omega | assumption) only [ky_stp, ky_inv, ky_ldi, ky_ldl, ky_ldd, ky_lda, ky_cl2, ky_st1, ky_st2, ky_s1i, ky_s2i, ky_s1l, ky_s2l, ky_sli, ky_s1f, ky_s2f, ky_s1d, ky_s2d, ky_sr, ky_sai, ky_sasi, ky_sasl, ky_sasr, ky_svr, ky_sv, ky_sv2, ky_s1, ky_cs, ky_pop, ky_nth, ky_snt, ky_obj, ky_ari, ky_arl, ky_arr, ky_arn, ky_fv, ky_rcv, List.map_cons, List.map_nil, List.drop_succ_cons, List.drop_zero, Value.category, Nat.reduceAdd, Nat.reduceSub, true_and, and_true, true_or, or_true, reduceCtorEq, ite_true, ite_false, eq_self, Nat.reduceEqDiff, Nat.reduceLeDiff, nI_add, nI_1, nI_leI, nI_ltI, nI_eq, nI_clamp, kz_m1, kz_mn, kz_mn2, kz_n0, kz_0n, kz_0, kz_le0, kz_0lt, false_implies, true_implies, not_false_eq_true, not_true_eq_false, Nat.zero_le, kb_0, kz_10, kz_of, ky_sw, kz_mx, kz_mi, mh]) | (refine ⟨vp_in_nI (by omega) (by omega), ?_⟩) | (refine ⟨fun zc => ?_, fun zc => ?_⟩ <;> try (exfalso; omega)) | fail)
end KXM
