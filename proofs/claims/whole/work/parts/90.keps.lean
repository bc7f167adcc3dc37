/-! ## the reference: what acts share -/
def kBF2 (j : Nat) : Prop := j = 170 ∨ j = 174 ∨ j = 177
section KXM
variable {adK a : Nat → Nat} {f : ky_H} {Q : ky_Q} {g r B : Nat → Int32} {s : kSt} {p w n l i j t e m k : Nat} {x y v b d : Int32} {z : kZ}
theorem kM_beg {f' : ky_H} {g' U C : Nat → Int32} (h : kM a f g s) (h0 : kMo a f' g') (hU : f' (a 174) = some (.inl (1, 3104, .inl U))) (hUe : ∀ j, j < min (s.un + 1) 8 → kRw (fun t => U (388 * (min (s.un + 1) 8 - 1 - j) + t)) (kCons s.o s.u j)) (hC : f' (a 177) = some (.inl (1, 8, .inl C))) (hCe : ∀ i, i < 8 → C i = upd s.ac 0 (s.ac 0 + 1) i) (h1' : g' 1 = nI (min (s.un + 1) 8)) (hg : ∀ j, j = 3 ∨ j = 8 ∨ j = 9 ∨ j = 12 → g' j = g j) (hF : kfr a f f' kBF2) : kM a f' g' (kBeg s) := by
  obtain ⟨ha, _, ⟨⟨r, h1, h2⟩, ⟨U0, h3', h4⟩, ⟨V, B, h5, h6, h7⟩, ⟨C0, h8', h9'⟩, ⟨T', h10, h11⟩, ⟨W, h12, h13⟩⟩, ⟨q1, q2, q3, q4, q5, q6, q7, q8, q9⟩, k3, k4⟩ := h
  unfold kBF2 at hF
  exact ⟨ha, h0, ⟨⟨r, (hF 171 (by omega)).trans h1, h2⟩, ⟨U, hU, hUe⟩, ⟨V, B, (hF 175 (by omega)).trans h5, (hF 176 (by omega)).trans h6, h7⟩, ⟨C, hC, hCe⟩, ⟨T', (hF 182 (by omega)).trans h10, h11⟩, ⟨W, (hF 186 (by omega)).trans h12, h13⟩⟩, ⟨kar_fr q1 (hF 172 (by omega)), kar_fr q2 (hF 173 (by omega)), kar_fr q3 (hF 178 (by omega)), kar_fr q4 (hF 179 (by omega)), kar_fr q5 (hF 180 (by omega)), kar_fr q6 (hF 181 (by omega)), kar_fr q7 (hF 183 (by omega)), kar_fr q8 (hF 184 (by omega)), kar_fr q9 (hF 185 (by omega))⟩, ⟨h1', (hg 3 (by omega)).trans k3.2.1, (hg 8 (by omega)).trans k3.2.2.1, (hg 9 (by omega)).trans k3.2.2.2.1, (hg 12 (by omega)).trans k3.2.2.2.2⟩, ⟨Nat.min_le_right _ _, k4.2.1, k4.2.2.1, k4.2.2.2⟩⟩
theorem kM_ref {f' : ky_H} {C : Nat → Int32} {ac : Nat → Int32} (h : kM a f g s) (hC : f' (a 177) = some (.inl (1, 8, .inl C))) (hCe : ∀ i, i < 8 → C i = ac i) (hF : kfr a f f' (fun j => j = 177)) : kM a f' g (s.setA ac) := by
  obtain ⟨ha, h0, ⟨⟨r, h1, h2⟩, ⟨U0, h3', h4⟩, ⟨V, B, h5, h6, h7⟩, ⟨C0, h8', h9'⟩, ⟨T', h10, h11⟩, ⟨W, h12, h13⟩⟩, ⟨q1, q2, q3, q4, q5, q6, q7, q8, q9⟩, k3, k4⟩ := h
  exact ⟨ha, (hF 170 (by omega)).trans h0, ⟨⟨r, (hF 171 (by omega)).trans h1, h2⟩, ⟨U0, (hF 174 (by omega)).trans h3', h4⟩, ⟨V, B, (hF 175 (by omega)).trans h5, (hF 176 (by omega)).trans h6, h7⟩, ⟨C, hC, hCe⟩, ⟨T', (hF 182 (by omega)).trans h10, h11⟩, ⟨W, (hF 186 (by omega)).trans h12, h13⟩⟩, ⟨kar_fr q1 (hF 172 (by omega)), kar_fr q2 (hF 173 (by omega)), kar_fr q3 (hF 178 (by omega)), kar_fr q4 (hF 179 (by omega)), kar_fr q5 (hF 180 (by omega)), kar_fr q6 (hF 181 (by omega)), kar_fr q7 (hF 183 (by omega)), kar_fr q8 (hF 184 (by omega)), kar_fr q9 (hF 185 (by omega))⟩, k3, k4⟩
theorem kx265 (hM : kM a f g s) (hk : k < 8) (hQ : ∀ f', kM a f' g (kRef s k) → kfr a f f' (fun j => j = 177) → Q (.inl (some (.int (-(nI k))))) f') : ky_cl adK 265 [.ref (a 170), .int (nI k)] f Q := by
  obtain ⟨ha, hMo, ⟨-, -, -, ⟨C, h177, hC⟩, -⟩, -⟩ := id hM
  have mh := hMo
  unfold kMo at mh
  have hck := hC k hk
  have hh := fun f' (h : f' (a 177) = some (.inl (1, 8, .inl (upd C k (s.ac k + 1))))) (hF : kfr a f f' (fun j => j = 177)) => hQ f' (kM_ref (ac := upd s.ac k (s.ac k + 1)) hM h (fun i hi => by
    by_cases e : i = k
    · subst e; rw [pk_us, pk_us]
    · rw [pk_un e, pk_un e]; exact hC i hi) hF) hF
  refine ⟨Nat.le_of_ble_eq_true rfl, fun z => absurd z (by decide), ?_⟩; show ky_ok adK 265 0 [some (.ref (a 170)), some (.int (nI k))] [] f 0 0 _
  repeat' (first | (refine ky_ok_stp rfl ?_; simp (disch := first | omega | assumption) only [ky_stp, ky_inv, ky_ldi, ky_ldl, ky_ldd, ky_lda, ky_cl2, ky_st1, ky_st2, ky_s1i, ky_s2i, ky_s1l, ky_s2l, ky_sli, ky_s1f, ky_s2f, ky_s1d, ky_s2d, ky_sr, ky_sai, ky_sasi, ky_sasl, ky_sasr, ky_svr, ky_sv, ky_sv2, ky_s1, ky_cs, ky_pop, ky_nth, ky_snt, ky_obj, ky_ari, ky_arl, ky_arr, ky_arn, ky_fv, ky_rcv, List.map_cons, List.map_nil, List.drop_succ_cons, List.drop_zero, Value.category, Nat.reduceAdd, Nat.reduceSub, true_and, and_true, true_or, or_true, reduceCtorEq, ite_true, ite_false, eq_self, Nat.reduceEqDiff, Nat.reduceLeDiff, nI_add, nI_1, nI_leI, nI_ltI, nI_eq, nI_clamp, kz_m1, kz_mn, kz_mn2, kz_n0, kz_0n, kz_0, kz_le0, kz_0lt, false_implies, true_implies, not_false_eq_true, not_true_eq_false, Nat.zero_le, kb_0, kz_10, kz_of, ky_sw, kz_mx, kz_mi, mh, h177, hck]) | (refine ⟨vp_in_nI (by omega) (by omega), ?_⟩) | (refine ⟨fun zc => ?_, fun zc => ?_⟩ <;> try (exfalso; omega)) | fail)
  exact hh _ kz_same (kfr_up ha kfr_rf rfl)
theorem kx264 (hM : kM a f g s) (hz : kKz s) (hQ : ∀ f' g', kM a f' g' (kBeg s) → (∀ j, j ≠ 1 → g' j = g j) → kfr a f f' kBF2 → Q (.inl none) f') : ky_cl adK 264 [.ref (a 170)] f Q := by
  obtain ⟨ha, hMo, ⟨⟨r, hr, hR⟩, ⟨U, h174, hU⟩, -, ⟨C, h177, hC⟩, -⟩, h2, h3, h4⟩ := id hM
  have h60 := hz.o.n60
  have hu60 := fun j hj => (hz.u j hj).n60
  have mh := hMo
  unfold kMo at mh
  have g1 := h3.1
  have hun := h4.1
  -- the new one
  have tail : ∀ f1 g2 U1 k v, k ≤ 7 → min (s.un + 1) 8 = k + 1 → kMo a f1 g2 → g2 1 = nI k → (∀ j, j ≠ 1 → g2 j = g j) → f1 (a 174) = some (.inl (1, 3104, .inl U1)) → (∀ j, 1 ≤ j → j < k + 1 → kRw (fun t => U1 (388 * (k - j) + t)) (s.u (j - 1))) → kfr a f f1 (fun j => j = 170 ∨ j = 174) → ky_ok adK 264 58 [some (.ref (a 170)), v] [] f1 0 0 Q := by
    intro f1 g2 U1 k v hk hmin hM1 hg1 hg h174' hUo hF
    have mh1 := hM1
    unfold kMo at mh1
    have hr1 : f1 (a 171) = some (.inl (1, 388, .inl r)) := (hF 171 (by omega)).trans hr
    repeat' (first | (refine kx171 (i := 171) (j := 174) (b := 0) (t := 388 * k) ha (by decide) hr1 h174' (by decide) (by omega) (by decide) ?_) | (refine ky_ok_stp rfl ?_; simp (disch := first | omega | assumption) only [ky_stp, ky_inv, ky_ldi, ky_ldl, ky_ldd, ky_lda, ky_cl2, ky_st1, ky_st2, ky_s1i, ky_s2i, ky_s1l, ky_s2l, ky_sli, ky_s1f, ky_s2f, ky_s1d, ky_s2d, ky_sr, ky_sai, ky_sasi, ky_sasl, ky_sasr, ky_svr, ky_sv, ky_sv2, ky_s1, ky_cs, ky_pop, ky_nth, ky_snt, ky_obj, ky_ari, ky_arl, ky_arr, ky_arn, ky_fv, ky_rcv, List.map_cons, List.map_nil, List.drop_succ_cons, List.drop_zero, Value.category, Nat.reduceAdd, Nat.reduceSub, true_and, and_true, true_or, or_true, reduceCtorEq, ite_true, ite_false, eq_self, Nat.reduceEqDiff, Nat.reduceLeDiff, nI_add, nI_1, nI_leI, nI_ltI, nI_eq, nI_clamp, kz_m1, kz_mn, kz_mn2, kz_n0, kz_0n, kz_0, kz_le0, kz_0lt, false_implies, true_implies, not_false_eq_true, not_true_eq_false, Nat.zero_le, kb_0, kz_10, kz_of, ky_sw, kz_mx, kz_mi, mh1, hg1, kz_388, nI_mul]) | (refine ⟨vp_in_nI (by omega) (by omega), ?_⟩) | (refine ⟨fun zc => ?_, fun zc => ?_⟩ <;> try (exfalso; omega)) | fail)
    intro f2 U2 h174'' hU2 hF2
    (try simp only [ky_aft, ky_vl, Nat.reduceAdd])
    have hM2 : kMo a f2 g2 := (hF2 170 (by decide)).trans hM1
    have mh2 := hM2
    unfold kMo at mh2
    have h177' : f2 (a 177) = some (.inl (1, 8, .inl C)) := ((hF2 177 (by decide)).trans (hF 177 (by omega))).trans h177
    have hC0 := hC 0 (by decide)
    have hFF : kfr a f f2 kBF2 := kfr_tr hF hF2 fun j hj => ⟨fun w => hj (by unfold kBF2; omega), fun w => hj (by unfold kBF2; omega)⟩
    have hh := fun f3 (h0 : kMo a f3 (upd g2 1 (nI (k + 1)))) (h7 : f3 (a 177) = some (.inl (1, 8, .inl (upd C 0 (s.ac 0 + 1))))) (hF3 : kfr a f2 f3 (fun j => j = 170 ∨ j = 177)) => hQ f3 _ (kM_beg hM h0 ((hF3 174 (by omega)).trans h174'') (fun j hj => by
      rw [hmin] at hj ⊢
      by_cases e : j = 0
      · subst e
        exact kRw_c h60 hR fun t ht => by
          show U2 (388 * (k + 1 - 1 - 0) + t) = r t
          rw [hU2, kcp, if_pos (by omega), Nat.zero_add]
          congr 1
          omega
      · have e2 : kCons s.o s.u j = s.u (j - 1) := if_neg e
        rw [e2]
        refine kRw_c (hu60 _ (by omega)) (hUo j (by omega) hj) fun t ht => ?_
        show U2 (388 * (k + 1 - 1 - j) + t) = U1 (388 * (k - j) + t)
        rw [hU2, kcp, if_neg (by omega), show k + 1 - 1 - j = k - j by omega]) h7 (fun i hi => by
      by_cases e : i = 0
      · subst e; rw [pk_us, pk_us]
      · rw [pk_un e, pk_un e]; exact hC i hi) (by rw [hmin]; exact pk_us) (fun j hj => (pk_un (by omega)).trans (hg j (by omega))) (kfr_tr hFF hF3 fun j hj => ⟨hj, fun w => hj (by unfold kBF2; omega)⟩)) (fun j hj => (pk_un hj).trans (hg j hj)) (kfr_tr hFF hF3 fun j hj => ⟨hj, fun w => hj (by unfold kBF2; omega)⟩)
    repeat' (first | (refine ⟨vp_in_nI (n := 0) (by omega) (by omega), ?_⟩) | (refine ky_ok_stp rfl ?_; simp (disch := first | omega | assumption) only [ky_stp, ky_inv, ky_ldi, ky_ldl, ky_ldd, ky_lda, ky_cl2, ky_st1, ky_st2, ky_s1i, ky_s2i, ky_s1l, ky_s2l, ky_sli, ky_s1f, ky_s2f, ky_s1d, ky_s2d, ky_sr, ky_sai, ky_sasi, ky_sasl, ky_sasr, ky_svr, ky_sv, ky_sv2, ky_s1, ky_cs, ky_pop, ky_nth, ky_snt, ky_obj, ky_ari, ky_arl, ky_arr, ky_arn, ky_fv, ky_rcv, List.map_cons, List.map_nil, List.drop_succ_cons, List.drop_zero, Value.category, Nat.reduceAdd, Nat.reduceSub, true_and, and_true, true_or, or_true, reduceCtorEq, ite_true, ite_false, eq_self, Nat.reduceEqDiff, Nat.reduceLeDiff, nI_add, nI_1, nI_leI, nI_ltI, nI_eq, nI_clamp, kz_m1, kz_mn, kz_mn2, kz_n0, kz_0n, kz_0, kz_le0, kz_0lt, false_implies, true_implies, not_false_eq_true, not_true_eq_false, Nat.zero_le, kb_0, kz_10, kz_of, ky_sw, kz_mx, kz_mi, mh2, hg1, kz_up, kI_ne ha, h177', hC0, kz_c0]) | (refine ⟨vp_in_nI (by omega) (by omega), ?_⟩) | (refine ⟨fun zc => ?_, fun zc => ?_⟩ <;> try (exfalso; omega)) | fail)
    exact hh _ (by unfold kMo; simp (disch := first | omega | assumption) only [kz_up, kI_ne ha, ite_true, ite_false]; rfl) kz_same (kfr_up ha (kfr_up ha kfr_rf (Or.inl rfl)) (Or.inr rfl))
  by_cases h8 : s.un = 8
  · have e8 : (8 : Int32) = nI 8 := rfl
    have e7 : nI 8 - 1 = nI 7 := by decide
    rw [h8] at g1
    have hlp : ∀ m k f1 U1, k + m = 7 → kMo a f1 (upd g 1 (nI 7)) → f1 (a 174) = some (.inl (1, 3104, .inl U1)) → (∀ t, t < 388 * k → U1 t = U (t + 388)) → (∀ t, 388 * k ≤ t → U1 t = U t) → kfr a f f1 (fun j => j = 170 ∨ j = 174) → ky_ok adK 264 21 [some (.ref (a 170)), some (.int (nI k))] [] f1 0 0 Q := by
      intro m
      induction m with
      | zero =>
        intro k f1 U1 hk hM1 h174' hx hy hF
        obtain rfl : k = 7 := by omega
        have mh1 := hM1
        unfold kMo at mh1
        have hu7 : upd g 1 (nI 7) 1 = nI 7 := pk_us
        have ht := tail f1 _ U1 7 (some (.int (nI 7))) (by omega) (by omega) hM1 pk_us (fun j hj => pk_un hj) h174' (fun j j1 j8 => by
          have := hU (j - 1) (by omega)
          rw [h8] at this
          refine kRw_c (hu60 _ (by omega)) this fun t ht => ?_
          show U1 (388 * (7 - j) + t) = U (388 * (8 - 1 - (j - 1)) + t)
          rw [hx _ (by omega)]
          congr 1
          omega) hF
        repeat' (first | (exact ht) | (refine ky_ok_stp rfl ?_; simp (disch := first | omega | assumption) only [ky_stp, ky_inv, ky_ldi, ky_ldl, ky_ldd, ky_lda, ky_cl2, ky_st1, ky_st2, ky_s1i, ky_s2i, ky_s1l, ky_s2l, ky_sli, ky_s1f, ky_s2f, ky_s1d, ky_s2d, ky_sr, ky_sai, ky_sasi, ky_sasl, ky_sasr, ky_svr, ky_sv, ky_sv2, ky_s1, ky_cs, ky_pop, ky_nth, ky_snt, ky_obj, ky_ari, ky_arl, ky_arr, ky_arn, ky_fv, ky_rcv, List.map_cons, List.map_nil, List.drop_succ_cons, List.drop_zero, Value.category, Nat.reduceAdd, Nat.reduceSub, true_and, and_true, true_or, or_true, reduceCtorEq, ite_true, ite_false, eq_self, Nat.reduceEqDiff, Nat.reduceLeDiff, nI_add, nI_1, nI_leI, nI_ltI, nI_eq, nI_clamp, kz_m1, kz_mn, kz_mn2, kz_n0, kz_0n, kz_0, kz_le0, kz_0lt, false_implies, true_implies, not_false_eq_true, not_true_eq_false, Nat.zero_le, kb_0, kz_10, kz_of, ky_sw, kz_mx, kz_mi, mh1, hu7]) | (refine ⟨vp_in_nI (by omega) (by omega), ?_⟩) | (refine ⟨fun zc => ?_, fun zc => ?_⟩ <;> try (exfalso; omega)) | fail)
      | succ m ih =>
        intro k f1 U1 hk hM1 h174' hx hy hF
        have mh1 := hM1
        unfold kMo at mh1
        have hu7 : upd g 1 (nI 7) 1 = nI 7 := pk_us
        repeat' (first | (refine kx171s (j := 174) (b := 388 * (k + 1)) (t := 388 * k) ha h174' (by omega) (by omega) (by decide) ?_) | (refine ky_ok_stp rfl ?_; simp (disch := first | omega | assumption) only [ky_stp, ky_inv, ky_ldi, ky_ldl, ky_ldd, ky_lda, ky_cl2, ky_st1, ky_st2, ky_s1i, ky_s2i, ky_s1l, ky_s2l, ky_sli, ky_s1f, ky_s2f, ky_s1d, ky_s2d, ky_sr, ky_sai, ky_sasi, ky_sasl, ky_sasr, ky_svr, ky_sv, ky_sv2, ky_s1, ky_cs, ky_pop, ky_nth, ky_snt, ky_obj, ky_ari, ky_arl, ky_arr, ky_arn, ky_fv, ky_rcv, List.map_cons, List.map_nil, List.drop_succ_cons, List.drop_zero, Value.category, Nat.reduceAdd, Nat.reduceSub, true_and, and_true, true_or, or_true, reduceCtorEq, ite_true, ite_false, eq_self, Nat.reduceEqDiff, Nat.reduceLeDiff, nI_add, nI_1, nI_leI, nI_ltI, nI_eq, nI_clamp, kz_m1, kz_mn, kz_mn2, kz_n0, kz_0n, kz_0, kz_le0, kz_0lt, false_implies, true_implies, not_false_eq_true, not_true_eq_false, Nat.zero_le, kb_0, kz_10, kz_of, ky_sw, kz_mx, kz_mi, mh1, hu7, kz_388, nI_mul]) | (refine ⟨vp_in_nI (by omega) (by omega), ?_⟩) | (refine ⟨fun zc => ?_, fun zc => ?_⟩ <;> try (exfalso; omega)) | fail)
        intro f2 U2 h174'' hU2 hF2
        (try simp only [ky_aft, ky_vl, Nat.reduceAdd])
        have hi := ih (k + 1) f2 U2 (by omega) ((hF2 170 (by decide)).trans hM1) h174'' (fun t ht => by
          by_cases e : t < 388 * k
          · rw [hU2, kcp, if_neg (by omega)]; exact hx t e
          · rw [hU2, kcp, if_pos (by omega), hy _ (by omega)]; congr 1; omega) (fun t ht => by rw [hU2, kcp, if_neg (by omega)]; exact hy t (by omega)) (kfr_tr hF hF2 fun j hj => ⟨hj, fun w => hj (Or.inr w)⟩)
        repeat' (first | (exact hi) | (refine ky_ok_stp rfl ?_; simp (disch := first | omega | assumption) only [ky_stp, ky_inv, ky_ldi, ky_ldl, ky_ldd, ky_lda, ky_cl2, ky_st1, ky_st2, ky_s1i, ky_s2i, ky_s1l, ky_s2l, ky_sli, ky_s1f, ky_s2f, ky_s1d, ky_s2d, ky_sr, ky_sai, ky_sasi, ky_sasl, ky_sasr, ky_svr, ky_sv, ky_sv2, ky_s1, ky_cs, ky_pop, ky_nth, ky_snt, ky_obj, ky_ari, ky_arl, ky_arr, ky_arn, ky_fv, ky_rcv, List.map_cons, List.map_nil, List.drop_succ_cons, List.drop_zero, Value.category, Nat.reduceAdd, Nat.reduceSub, true_and, and_true, true_or, or_true, reduceCtorEq, ite_true, ite_false, eq_self, Nat.reduceEqDiff, Nat.reduceLeDiff, nI_add, nI_1, nI_leI, nI_ltI, nI_eq, nI_clamp, kz_m1, kz_mn, kz_mn2, kz_n0, kz_0n, kz_0, kz_le0, kz_0lt, false_implies, true_implies, not_false_eq_true, not_true_eq_false, Nat.zero_le, kb_0, kz_10, kz_of, ky_sw, kz_mx, kz_mi]) | (refine ⟨vp_in_nI (by omega) (by omega), ?_⟩) | (refine ⟨fun zc => ?_, fun zc => ?_⟩ <;> try (exfalso; omega)) | fail)
    have hl := fun f1 (h0 : kMo a f1 (upd g 1 (nI 7))) (hF : kfr a f f1 (fun j => j = 170)) => hlp 7 0 f1 U (by omega) h0 ((hF 174 (by decide)).trans h174) (fun t ht => absurd ht (Nat.not_lt_zero t)) (fun _ _ => rfl) fun j hj => hF j fun w => hj (Or.inl w)
    refine ⟨Nat.le_of_ble_eq_true rfl, fun z => absurd z (by decide), ?_⟩; show ky_ok adK 264 0 [some (.ref (a 170)), none] [] f 0 0 _
    repeat' (first | (refine hl _ (by unfold kMo; rw [kz_same]; rfl) (kfr_up ha kfr_rf rfl)) | (refine ky_ok_stp rfl ?_; simp (disch := first | omega | assumption) only [ky_stp, ky_inv, ky_ldi, ky_ldl, ky_ldd, ky_lda, ky_cl2, ky_st1, ky_st2, ky_s1i, ky_s2i, ky_s1l, ky_s2l, ky_sli, ky_s1f, ky_s2f, ky_s1d, ky_s2d, ky_sr, ky_sai, ky_sasi, ky_sasl, ky_sasr, ky_svr, ky_sv, ky_sv2, ky_s1, ky_cs, ky_pop, ky_nth, ky_snt, ky_obj, ky_ari, ky_arl, ky_arr, ky_arn, ky_fv, ky_rcv, List.map_cons, List.map_nil, List.drop_succ_cons, List.drop_zero, Value.category, Nat.reduceAdd, Nat.reduceSub, true_and, and_true, true_or, or_true, reduceCtorEq, ite_true, ite_false, eq_self, Nat.reduceEqDiff, Nat.reduceLeDiff, nI_add, nI_1, nI_leI, nI_ltI, nI_eq, nI_clamp, kz_m1, kz_mn, kz_mn2, kz_n0, kz_0n, kz_0, kz_le0, kz_0lt, false_implies, true_implies, not_false_eq_true, not_true_eq_false, Nat.zero_le, kb_0, kz_10, kz_of, ky_sw, kz_mx, kz_mi, mh, g1, e8, e7, kz_up]) | (refine ⟨vp_in_nI (by omega) (by omega), ?_⟩) | (refine ⟨fun zc => ?_, fun zc => ?_⟩ <;> try (exfalso; omega)) | fail)
  · have e8 : (8 : Int32) = nI 8 := rfl
    have ht := tail f g U s.un none (by omega) (by omega) hMo g1 (fun _ _ => rfl) h174 (fun j j1 j8 => by
      have := hU (j - 1) (by omega)
      rw [show s.un - 1 - (j - 1) = s.un - j by omega] at this
      exact this) kfr_rf
    refine ⟨Nat.le_of_ble_eq_true rfl, fun z => absurd z (by decide), ?_⟩; show ky_ok adK 264 0 [some (.ref (a 170)), none] [] f 0 0 _
    repeat' (first | (exact ht) | (refine ky_ok_stp rfl ?_; simp (disch := first | omega | assumption) only [ky_stp, ky_inv, ky_ldi, ky_ldl, ky_ldd, ky_lda, ky_cl2, ky_st1, ky_st2, ky_s1i, ky_s2i, ky_s1l, ky_s2l, ky_sli, ky_s1f, ky_s2f, ky_s1d, ky_s2d, ky_sr, ky_sai, ky_sasi, ky_sasl, ky_sasr, ky_svr, ky_sv, ky_sv2, ky_s1, ky_cs, ky_pop, ky_nth, ky_snt, ky_obj, ky_ari, ky_arl, ky_arr, ky_arn, ky_fv, ky_rcv, List.map_cons, List.map_nil, List.drop_succ_cons, List.drop_zero, Value.category, Nat.reduceAdd, Nat.reduceSub, true_and, and_true, true_or, or_true, reduceCtorEq, ite_true, ite_false, eq_self, Nat.reduceEqDiff, Nat.reduceLeDiff, nI_add, nI_1, nI_leI, nI_ltI, nI_eq, nI_clamp, kz_m1, kz_mn, kz_mn2, kz_n0, kz_0n, kz_0, kz_le0, kz_0lt, false_implies, true_implies, not_false_eq_true, not_true_eq_false, Nat.zero_le, kb_0, kz_10, kz_of, ky_sw, kz_mx, kz_mi, mh, g1, e8, eq_false h8]) | (refine ⟨vp_in_nI (by omega) (by omega), ?_⟩) | (refine ⟨fun zc => ?_, fun zc => ?_⟩ <;> try (exfalso; omega)) | fail)
theorem kx271 (ha : kI a) (hM : kMo a f g) (hr : f (a 171) = some (.inl (1, 388, .inl r))) (hpe : p ≤ e) (he : e ≤ 60) (hQ : ∀ f' T, f' (a 171) = some (.inl (1, 388, .inl T)) → (∀ t, t < 28 → T t = r t) → (∀ i w, w < 6 → T (28 + 6 * i + w) = if p ≤ i ∧ i < e ∧ w = 0 then r (28 + 6 * i + w) + d else r (28 + 6 * i + w)) → kfr a f f' (fun j => j = 171) → Q (.inl none) f') : ky_cl adK 271 [.ref (a 170), .int (nI p), .int (nI e), .int d] f Q := by
  have lp : ∀ m k f1 T, k + m = e → p ≤ k → f1 (a 171) = some (.inl (1, 388, .inl T)) → (∀ t, t < 28 → T t = r t) → (∀ i w, w < 6 → T (28 + 6 * i + w) = if p ≤ i ∧ i < k ∧ w = 0 then r (28 + 6 * i + w) + d else r (28 + 6 * i + w)) → kfr a f f1 (fun j => j = 171) → ky_ok adK 271 3 [some (.ref (a 170)), some (.int (nI p)), some (.int (nI e)), some (.int d), some (.int (nI k))] [] f1 0 0 Q := by
    intro m
    induction m with
    | zero =>
      intro k f1 T hk hpk hT hx hy hF
      obtain rfl : k = e := by omega
      repeat' (first | (refine ky_ok_stp rfl ?_; simp (disch := first | omega | assumption) only [ky_stp, ky_inv, ky_ldi, ky_ldl, ky_ldd, ky_lda, ky_cl2, ky_st1, ky_st2, ky_s1i, ky_s2i, ky_s1l, ky_s2l, ky_sli, ky_s1f, ky_s2f, ky_s1d, ky_s2d, ky_sr, ky_sai, ky_sasi, ky_sasl, ky_sasr, ky_svr, ky_sv, ky_sv2, ky_s1, ky_cs, ky_pop, ky_nth, ky_snt, ky_obj, ky_ari, ky_arl, ky_arr, ky_arn, ky_fv, ky_rcv, List.map_cons, List.map_nil, List.drop_succ_cons, List.drop_zero, Value.category, Nat.reduceAdd, Nat.reduceSub, true_and, and_true, true_or, or_true, reduceCtorEq, ite_true, ite_false, eq_self, Nat.reduceEqDiff, Nat.reduceLeDiff, nI_add, nI_1, nI_leI, nI_ltI, nI_eq, nI_clamp, kz_m1, kz_mn, kz_mn2, kz_n0, kz_0n, kz_0, kz_le0, kz_0lt, false_implies, true_implies, not_false_eq_true, not_true_eq_false, Nat.zero_le, kb_0, kz_10, kz_of, ky_sw, kz_mx, kz_mi]) | (refine ⟨vp_in_nI (by omega) (by omega), ?_⟩) | (refine ⟨fun zc => ?_, fun zc => ?_⟩ <;> try (exfalso; omega)) | fail)
      exact hQ f1 T hT hx hy hF
    | succ m ih =>
      intro k f1 T hk hpk hT hx hy hF
      have hM1 := kMo_fq hM hF (by omega)
      have mh1 := hM1
      unfold kMo at mh1
      have hTk : T (28 + 6 * k) = r (28 + 6 * k) := by
        have := hy k 0 (by omega)
        rw [if_neg (by omega)] at this
        exact this
      have hi := ih (k + 1) (ky_up f1 (a 171) (.inl (1, 388, .inl (upd T (28 + 6 * k + 0) (r (28 + 6 * k) + d))))) _ (by omega) (by omega) kz_same (fun t ht => by rw [pk_un (by omega)]; exact hx t ht) (fun i w hw => by
        by_cases c : i = k ∧ w = 0
        · obtain ⟨rfl, rfl⟩ := c
          rw [pk_us, if_pos ⟨hpk, by omega, rfl⟩]
          rfl
        · rw [pk_un (by omega), hy i w hw]
          by_cases c2 : p ≤ i ∧ i < k ∧ w = 0
          · rw [if_pos c2, if_pos ⟨c2.1, by omega, c2.2.2⟩]
          · rw [if_neg c2, if_neg (by omega)]) (kfr_up ha hF rfl)
      repeat' (first | (refine kx175 hM1 hT (show k < 60 by omega) ?_; simp only [ky_aft, ky_vl, Nat.reduceAdd]) | ((refine kx174 (w := 0) hM1 hT (show k < 60 by omega) (by decide) ?_; simp only [ky_aft, ky_vl, Nat.reduceAdd])) | (exact hi) | (refine ky_ok_stp rfl ?_; simp (disch := first | omega | assumption) only [ky_stp, ky_inv, ky_ldi, ky_ldl, ky_ldd, ky_lda, ky_cl2, ky_st1, ky_st2, ky_s1i, ky_s2i, ky_s1l, ky_s2l, ky_sli, ky_s1f, ky_s2f, ky_s1d, ky_s2d, ky_sr, ky_sai, ky_sasi, ky_sasl, ky_sasr, ky_svr, ky_sv, ky_sv2, ky_s1, ky_cs, ky_pop, ky_nth, ky_snt, ky_obj, ky_ari, ky_arl, ky_arr, ky_arn, ky_fv, ky_rcv, List.map_cons, List.map_nil, List.drop_succ_cons, List.drop_zero, Value.category, Nat.reduceAdd, Nat.reduceSub, true_and, and_true, true_or, or_true, reduceCtorEq, ite_true, ite_false, eq_self, Nat.reduceEqDiff, Nat.reduceLeDiff, nI_add, nI_1, nI_leI, nI_ltI, nI_eq, nI_clamp, kz_m1, kz_mn, kz_mn2, kz_n0, kz_0n, kz_0, kz_le0, kz_0lt, false_implies, true_implies, not_false_eq_true, not_true_eq_false, Nat.zero_le, kb_0, kz_10, kz_of, ky_sw, kz_mx, kz_mi, mh1, hTk]) | (refine ⟨vp_in_nI (by omega) (by omega), ?_⟩) | (refine ⟨fun zc => ?_, fun zc => ?_⟩ <;> try (exfalso; omega)) | fail)
  refine ⟨Nat.le_of_ble_eq_true rfl, fun z => absurd z (by decide), ?_⟩; show ky_ok adK 271 0 [some (.ref (a 170)), some (.int (nI p)), some (.int (nI e)), some (.int d), none] [] f 0 0 _
  repeat' (first | (refine lp (e - p) p f r (by omega) (Nat.le_refl _) hr (fun _ _ => rfl) (fun i w _ => by rw [if_neg (by omega)]) kfr_rf) | (refine ky_ok_stp rfl ?_; simp (disch := first | omega | assumption) only [ky_stp, ky_inv, ky_ldi, ky_ldl, ky_ldd, ky_lda, ky_cl2, ky_st1, ky_st2, ky_s1i, ky_s2i, ky_s1l, ky_s2l, ky_sli, ky_s1f, ky_s2f, ky_s1d, ky_s2d, ky_sr, ky_sai, ky_sasi, ky_sasl, ky_sasr, ky_svr, ky_sv, ky_sv2, ky_s1, ky_cs, ky_pop, ky_nth, ky_snt, ky_obj, ky_ari, ky_arl, ky_arr, ky_arn, ky_fv, ky_rcv, List.map_cons, List.map_nil, List.drop_succ_cons, List.drop_zero, Value.category, Nat.reduceAdd, Nat.reduceSub, true_and, and_true, true_or, or_true, reduceCtorEq, ite_true, ite_false, eq_self, Nat.reduceEqDiff, Nat.reduceLeDiff, nI_add, nI_1, nI_leI, nI_ltI, nI_eq, nI_clamp, kz_m1, kz_mn, kz_mn2, kz_n0, kz_0n, kz_0, kz_le0, kz_0lt, false_implies, true_implies, not_false_eq_true, not_true_eq_false, Nat.zero_le, kb_0, kz_10, kz_of, ky_sw, kz_mx, kz_mi]) | (refine ⟨vp_in_nI (by omega) (by omega), ?_⟩) | (refine ⟨fun zc => ?_, fun zc => ?_⟩ <;> try (exfalso; omega)) | fail)
end KXM
