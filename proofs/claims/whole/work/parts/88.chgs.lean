/-! ## the reference: what a move changes -/
theorem kRw_mz {r T : Nat → Int32} {z : kZ} {p t w : Nat} (hp : p < z.n) (hto : (kTo2 z t w ≤ p ∨ kEnd z p ≤ kTo2 z t w) ∧ kTo2 z t w ≤ z.n) (h : kRw r z) (h0 : T 0 = nI z.n) (h1 : ∀ t, t < 28 → T t = r t) (h2 : ∀ j u, u < 5 → j < z.n → T (28 + 6 * j + u) = if p ≤ kMi p (kEnd z p) (kTo2 z t w) j ∧ kMi p (kEnd z p) (kTo2 z t w) j < kEnd z p ∧ u = 0 then r (28 + 6 * kMi p (kEnd z p) (kTo2 z t w) j) + (kLB (kL z.R) (t + 1) w - kL z.R p) else r (28 + 6 * kMi p (kEnd z p) (kTo2 z t w) j + u)) : (∀ j, j < z.n → kMi p (kEnd z p) (kTo2 z t w) j < z.n) ∧ kRw T (kMz z p t w) := by
  obtain ⟨p1, p2⟩ := kEnd_le hp
  have hm : ∀ j, j < z.n → kMi p (kEnd z p) (kTo2 z t w) j < z.n := by
    intro j hj
    unfold kMi
    by_cases c0 : kTo2 z t w ≤ p
    · rw [if_pos c0]
      by_cases c1 : j < kTo2 z t w
      · rw [if_pos c1]; exact hj
      · rw [if_neg c1]
        by_cases c2 : j + p < kTo2 z t w + kEnd z p
        · rw [if_pos c2]; omega
        · rw [if_neg c2]
          by_cases c3 : j < kEnd z p
          · rw [if_pos c3]; omega
          · rw [if_neg c3]; exact hj
    · rw [if_neg c0]
      by_cases c1 : j < p
      · rw [if_pos c1]; exact hj
      · rw [if_neg c1]
        by_cases c2 : j + kEnd z p < p + kTo2 z t w
        · rw [if_pos c2]; omega
        · rw [if_neg c2]
          by_cases c3 : j < kTo2 z t w
          · rw [if_pos c3]; omega
          · rw [if_neg c3]; exact hj
  refine ⟨hm, h0, fun j hj => ?_, fun c l hc w1 w6 => ?_⟩
  · have hj' : j < z.n := hj
    obtain ⟨a0, a1, a2, wd, a3, a4, a5, a6⟩ := h.2.1 _ (hm j hj')
    have q0 := h2 j 0 (by omega) hj'
    have q1 := h2 j 1 (by omega) hj'
    have q2 := h2 j 2 (by omega) hj'
    have q3 := h2 j 3 (by omega) hj'
    have q4 := h2 j 4 (by omega) hj'
    rw [if_neg (fun w => by omega)] at q1 q2 q3 q4
    rw [q1, q2, q3, q4, a1, a2, a5, a6]
    rw [Nat.add_zero] at q0
    rw [q0]
    have hRj : (kMz z p t w).R j = if p ≤ kMi p (kEnd z p) (kTo2 z t w) j ∧ kMi p (kEnd z p) (kTo2 z t w) j < kEnd z p then ksh (kLB (kL z.R) (t + 1) w - kL z.R p) (z.R (kMi p (kEnd z p) (kTo2 z t w) j)) else z.R (kMi p (kEnd z p) (kTo2 z t w) j) := rfl
    unfold kL at a0 ⊢
    unfold kPl kFo
    unfold kN at a3 ⊢
    rw [hRj]
    by_cases c : p ≤ kMi p (kEnd z p) (kTo2 z t w) j ∧ kMi p (kEnd z p) (kTo2 z t w) j < kEnd z p
    · rw [if_pos ⟨c.1, c.2, rfl⟩, if_pos c, a0]
      exact ⟨rfl, rfl, rfl, wd, a3, a4, rfl, rfl⟩
    · rw [if_neg (fun w => c ⟨w.1, w.2.1⟩), if_neg c, Nat.add_zero, a0]
      exact ⟨rfl, rfl, rfl, wd, a3, a4, rfl, rfl⟩
  · rw [h1 _ (by omega)]
    exact h.2.2 c l hc w1 w6
/-- the NUMBERs of before, kept -/
def kLo (a : Nat → Nat) (f : ky_H) (z : kZ) (p : Nat) : Prop := ∃ M E : Nat → Int32, f (a 180) = some (.inl (1, 3600, .inl M)) ∧ f (a 181) = some (.inl (1, 60, .inl E)) ∧ ∀ i, i < p → E i = nI (kNO z i).length ∧ ∀ t, t < (kNO z i).length → M (60 * i + t) = nI ((kNO z i).getD t 0)
def kMS1 (j : Nat) : Prop := kMS j ∨ j = 171
section KXM
variable {adK a : Nat → Nat} {f : ky_H} {Q : ky_Q} {g r B : Nat → Int32} {s : kSt} {p w n l i j t e m b : Nat} {x y v : Int32} {z : kZ}
theorem kM_o {f' : ky_H} {g' T : Nat → Int32} (h : kM a f g s) (h0 : kMo a f' g') (h3 : kM3 g' s) (hF : kfr a f f' kMS1) (hr : f' (a 171) = some (.inl (1, 388, .inl T))) (hR : kRw T z) (h2 : kM2 a f') : kM a f' g' (s.setO z) := by
  obtain ⟨ha, _, ⟨⟨r, h1, h2'⟩, ⟨U, h3', h4⟩, ⟨V, B, h5, h6, h7⟩, ⟨C, h8, h9⟩, ⟨T', h10, h11⟩, ⟨W, h12, h13⟩⟩, _, _, h4'⟩ := h
  unfold kMS1 kMS at hF
  exact ⟨ha, h0, ⟨⟨T, hr, hR⟩, ⟨U, (hF 174 (by omega)).trans h3', h4⟩, ⟨V, B, (hF 175 (by omega)).trans h5, (hF 176 (by omega)).trans h6, h7⟩, ⟨C, (hF 177 (by omega)).trans h8, h9⟩, ⟨T', (hF 182 (by omega)).trans h10, h11⟩, ⟨W, (hF 186 (by omega)).trans h12, h13⟩⟩, h2, h3, h4'⟩
theorem kM_s {f' : ky_H} {g' : Nat → Int32} (h : kM a f g s) (h0 : kMo a f' g') (h3 : kM3 g' s) (hF : kfr a f f' kMS) (h2 : kM2 a f') : kM a f' g' s := ⟨h.1, h0, kM1_fr h.2.2.1 hF, h2, h3, h.2.2.2.2.2⟩
theorem kM2_fr {f' : ky_H} {S : Nat → Prop} (h : kM2 a f) (hF : kfr a f f' S) (q172 : S 172 → ∃ r, f' (a 172) = some (.inl (1, 388, .inl r))) (q173 : S 173 → ∃ r, f' (a 173) = some (.inl (1, 388, .inl r))) (q178 : S 178 → ∃ r, f' (a 178) = some (.inl (1, 3600, .inl r))) (q179 : S 179 → ∃ r, f' (a 179) = some (.inl (1, 60, .inl r))) (q180 : S 180 → ∃ r, f' (a 180) = some (.inl (1, 3600, .inl r))) (q181 : S 181 → ∃ r, f' (a 181) = some (.inl (1, 60, .inl r))) (q183 : S 183 → ∃ r, f' (a 183) = some (.inl (1, 160, .inl r))) (q184 : S 184 → ∃ r, f' (a 184) = some (.inl (1, 360, .inl r))) (q185 : S 185 → ∃ r, f' (a 185) = some (.inl (1, 60, .inl r))) : kM2 a f' := by
  have key : ∀ (j c : Nat), (S j → ∃ r : Nat → Int32, f' (a j) = some (.inl (1, c, .inl r))) → (∃ r : Nat → Int32, f (a j) = some (.inl (1, c, .inl r))) → ∃ r : Nat → Int32, f' (a j) = some (.inl (1, c, .inl r)) := fun j c q w => by
    by_cases e : S j
    · exact q e
    · obtain ⟨r, w⟩ := w
      exact ⟨r, (hF j e).trans w⟩
  obtain ⟨a1, a2, a3, a4, a5, a6, a7, a8, a9⟩ := h
  exact ⟨key _ _ q172 a1, key _ _ q173 a2, key _ _ q178 a3, key _ _ q179 a4, key _ _ q180 a5, key _ _ q181 a6, key _ _ q183 a7, key _ _ q184 a8, key _ _ q185 a9⟩
theorem kx260 (hM : kM a f g s) (ho : kZo s.o) (hQ : ∀ f' g', kM a f' g' s → (∀ j, j ≠ 2 → g' j = g j) → kLo a f' s.o s.o.n → kfr a f f' kMF → Q (.inl none) f') : ky_cl adK 260 [.ref (a 170)] f Q := by
  have h60 := ho.n60
  have mh := hM.2.1
  unfold kMo at mh
  refine ⟨Nat.le_of_ble_eq_true rfl, fun z => absurd z (by decide), ?_⟩; show ky_ok adK 260 0 [some (.ref (a 170)), none, none] [] f 0 0 _
  repeat' (first | (refine kx195m hM ho ?_) | (refine ky_ok_stp rfl ?_; simp (disch := first | omega | assumption) only [ky_stp, ky_inv, ky_ldi, ky_ldl, ky_ldd, ky_lda, ky_cl2, ky_st1, ky_st2, ky_s1i, ky_s2i, ky_s1l, ky_s2l, ky_sli, ky_s1f, ky_s2f, ky_s1d, ky_s2d, ky_sr, ky_sai, ky_sasi, ky_sasl, ky_sasr, ky_svr, ky_sv, ky_sv2, ky_s1, ky_cs, ky_pop, ky_nth, ky_snt, ky_obj, ky_ari, ky_arl, ky_arr, ky_arn, ky_fv, ky_rcv, List.map_cons, List.map_nil, List.drop_succ_cons, List.drop_zero, Value.category, Nat.reduceAdd, Nat.reduceSub, true_and, and_true, true_or, or_true, reduceCtorEq, ite_true, ite_false, eq_self, Nat.reduceEqDiff, Nat.reduceLeDiff, nI_add, nI_1, nI_leI, nI_ltI, nI_eq, nI_clamp, kz_m1, kz_mn, kz_mn2, kz_n0, kz_0n, kz_0, kz_le0, kz_0lt, false_implies, true_implies, not_false_eq_true, not_true_eq_false, Nat.zero_le, kb_0, kz_10, kz_of, ky_sw, kz_mx, kz_mi, mh]) | (refine ⟨vp_in_nI (by omega) (by omega), ?_⟩) | (refine ⟨fun zc => ?_, fun zc => ?_⟩ <;> try (exfalso; omega)) | fail)
  intro f1 g1 hM1 w2 w3 w4
  simp only [ky_aft, ky_vl, Nat.reduceAdd]
  obtain ⟨ha, hMo, ⟨⟨r, hr, hR⟩, -⟩, h2, h3, -⟩ := id hM1
  obtain ⟨M, E, h178, h179, hD⟩ := id w3
  obtain ⟨-, -, -, -, ⟨M0, h180⟩, ⟨E0, h181⟩, -⟩ := id h2
  have r0 := hR.1
  have lp : ∀ m k f2 v, k + m = s.o.n → kLo a f2 s.o k → kfr a f1 f2 (fun j => j = 180 ∨ j = 181) → ky_ok adK 260 6 [some (.ref (a 170)), some (.int (nI k)), v] [] f2 0 0 Q := by
    intro m
    induction m with
    | zero =>
      intro k f2 v hk hlo hF
      obtain rfl : k = s.o.n := by omega
      have hM2 := kMo_fq hMo hF (by omega)
      have hr2 : f2 (a 171) = some (.inl (1, 388, .inl r)) := (hF 171 (by omega)).trans hr
      have mh := hM2; unfold kMo at mh
      repeat' (first | (refine kx172 hM2 hr2 ?_; simp only [ky_aft, ky_vl, Nat.reduceAdd]) | (refine ky_ok_stp rfl ?_; simp (disch := first | omega | assumption) only [ky_stp, ky_inv, ky_ldi, ky_ldl, ky_ldd, ky_lda, ky_cl2, ky_st1, ky_st2, ky_s1i, ky_s2i, ky_s1l, ky_s2l, ky_sli, ky_s1f, ky_s2f, ky_s1d, ky_s2d, ky_sr, ky_sai, ky_sasi, ky_sasl, ky_sasr, ky_svr, ky_sv, ky_sv2, ky_s1, ky_cs, ky_pop, ky_nth, ky_snt, ky_obj, ky_ari, ky_arl, ky_arr, ky_arn, ky_fv, ky_rcv, List.map_cons, List.map_nil, List.drop_succ_cons, List.drop_zero, Value.category, Nat.reduceAdd, Nat.reduceSub, true_and, and_true, true_or, or_true, reduceCtorEq, ite_true, ite_false, eq_self, Nat.reduceEqDiff, Nat.reduceLeDiff, nI_add, nI_1, nI_leI, nI_ltI, nI_eq, nI_clamp, kz_m1, kz_mn, kz_mn2, kz_n0, kz_0n, kz_0, kz_le0, kz_0lt, false_implies, true_implies, not_false_eq_true, not_true_eq_false, Nat.zero_le, kb_0, kz_10, kz_of, ky_sw, kz_mx, kz_mi, mh, r0]) | (refine ⟨vp_in_nI (by omega) (by omega), ?_⟩) | (refine ⟨fun zc => ?_, fun zc => ?_⟩ <;> try (exfalso; omega)) | fail)
      obtain ⟨M', E', h180', h181', -⟩ := id hlo
      refine hQ f2 g1 (kM_s hM1 hM2 h3 (fun j hj => hF j fun w => hj (by unfold kMS; omega)) (kM2_fr h2 hF (fun w => by omega) (fun w => by omega) (fun w => by omega) (fun w => by omega) (fun _ => ⟨_, h180'⟩) (fun _ => ⟨_, h181'⟩) (fun w => by omega) (fun w => by omega) (fun w => by omega))) w2 hlo (kfr_tr w4 hF fun j hj => ⟨hj, fun w => hj (by unfold kMF; omega)⟩)
    | succ m ih =>
      intro k f2 v hk hlo hF
      have hkn : k < s.o.n := by omega
      obtain ⟨hE, hMk⟩ := hD k hkn
      have hl1 := kNO_l ho 6 k hkn (ho.lv k hkn).2.2
      have hv1 := (ho.lv k hkn).2.2
      have inn : ∀ d u f3 M3 E3, u + d = (kNO s.o k).length → f3 (a 180) = some (.inl (1, 3600, .inl M3)) → f3 (a 181) = some (.inl (1, 60, .inl E3)) → (∀ i, i < k → E3 i = nI (kNO s.o i).length ∧ ∀ t, t < (kNO s.o i).length → M3 (60 * i + t) = nI ((kNO s.o i).getD t 0)) → E3 k = nI (kNO s.o k).length → (∀ t, t < u → M3 (60 * k + t) = nI ((kNO s.o k).getD t 0)) → kfr a f1 f3 (fun j => j = 180 ∨ j = 181) → ky_ok adK 260 28 [some (.ref (a 170)), some (.int (nI k)), some (.int (nI u))] [] f3 0 0 Q := by
        intro d
        induction d with
        | zero =>
          intro u f3 M3 E3 hu h180 h181 hx hEk hy hF3
          have hM3 := kMo_fq hMo hF3 (by omega)
          have h179' : f3 (a 179) = some (.inl (1, 60, .inl E)) := (hF3 179 (by omega)).trans h179
          have mh := hM3; unfold kMo at mh
          have hi := ih (k + 1) f3 (some (.int (nI u))) (by omega) ⟨M3, E3, h180, h181, fun i hi => if e : i = k then by
            subst e
            exact ⟨hEk, fun t ht => hy t (by omega)⟩ else hx i (by omega)⟩ hF3
          repeat' (first | (exact hi) | (refine ky_ok_stp rfl ?_; simp (disch := first | omega | assumption) only [ky_stp, ky_inv, ky_ldi, ky_ldl, ky_ldd, ky_lda, ky_cl2, ky_st1, ky_st2, ky_s1i, ky_s2i, ky_s1l, ky_s2l, ky_sli, ky_s1f, ky_s2f, ky_s1d, ky_s2d, ky_sr, ky_sai, ky_sasi, ky_sasl, ky_sasr, ky_svr, ky_sv, ky_sv2, ky_s1, ky_cs, ky_pop, ky_nth, ky_snt, ky_obj, ky_ari, ky_arl, ky_arr, ky_arn, ky_fv, ky_rcv, List.map_cons, List.map_nil, List.drop_succ_cons, List.drop_zero, Value.category, Nat.reduceAdd, Nat.reduceSub, true_and, and_true, true_or, or_true, reduceCtorEq, ite_true, ite_false, eq_self, Nat.reduceEqDiff, Nat.reduceLeDiff, nI_add, nI_1, nI_leI, nI_ltI, nI_eq, nI_clamp, kz_m1, kz_mn, kz_mn2, kz_n0, kz_0n, kz_0, kz_le0, kz_0lt, false_implies, true_implies, not_false_eq_true, not_true_eq_false, Nat.zero_le, kb_0, kz_10, kz_of, ky_sw, kz_mx, kz_mi, mh, h179', hE]) | (refine ⟨vp_in_nI (by omega) (by omega), ?_⟩) | (refine ⟨fun zc => ?_, fun zc => ?_⟩ <;> try (exfalso; omega)) | fail)
        | succ d ihd =>
          intro u f3 M3 E3 hu h180 h181 hx hEk hy hF3
          have hM3 := kMo_fq hMo hF3 (by omega)
          have h179' : f3 (a 179) = some (.inl (1, 60, .inl E)) := (hF3 179 (by omega)).trans h179
          have h178' : f3 (a 178) = some (.inl (1, 3600, .inl M)) := (hF3 178 (by omega)).trans h178
          have mh := hM3; unfold kMo at mh
          have hi := ihd (u + 1) (ky_up f3 (a 180) (.inl (1, 3600, .inl (upd M3 (60 * k + u) (M (60 * k + u)))))) _ E3 (by omega) kz_same (by simp (disch := first | omega | assumption) only [kz_up, kI_ne ha, h181, ite_false]) (fun i hi => ⟨(hx i hi).1, fun t ht => by
            have hl2 := kNO_l ho 6 i (by omega) (ho.lv i (by omega)).2.2
            have hv2 := (ho.lv i (by omega)).2.2
            rw [pk_un (by omega)]; exact (hx i hi).2 t ht⟩) hEk (fun t ht => by
            by_cases e : t = u
            · subst e; rw [pk_us]; exact hMk t (by omega)
            · rw [pk_un (by omega)]; exact hy t (by omega)) (kfr_up ha hF3 (Or.inl rfl))
          repeat' (first | (exact hi) | (refine ky_ok_stp rfl ?_; simp (disch := first | omega | assumption) only [ky_stp, ky_inv, ky_ldi, ky_ldl, ky_ldd, ky_lda, ky_cl2, ky_st1, ky_st2, ky_s1i, ky_s2i, ky_s1l, ky_s2l, ky_sli, ky_s1f, ky_s2f, ky_s1d, ky_s2d, ky_sr, ky_sai, ky_sasi, ky_sasl, ky_sasr, ky_svr, ky_sv, ky_sv2, ky_s1, ky_cs, ky_pop, ky_nth, ky_snt, ky_obj, ky_ari, ky_arl, ky_arr, ky_arn, ky_fv, ky_rcv, List.map_cons, List.map_nil, List.drop_succ_cons, List.drop_zero, Value.category, Nat.reduceAdd, Nat.reduceSub, true_and, and_true, true_or, or_true, reduceCtorEq, ite_true, ite_false, eq_self, Nat.reduceEqDiff, Nat.reduceLeDiff, nI_add, nI_1, nI_leI, nI_ltI, nI_eq, nI_clamp, kz_m1, kz_mn, kz_mn2, kz_n0, kz_0n, kz_0, kz_le0, kz_0lt, false_implies, true_implies, not_false_eq_true, not_true_eq_false, Nat.zero_le, kb_0, kz_10, kz_of, ky_sw, kz_mx, kz_mi, mh, h178', h179', h180, hE, kz_60, nI_mul]) | (refine ⟨vp_in_nI (by omega) (by omega), ?_⟩) | (refine ⟨fun zc => ?_, fun zc => ?_⟩ <;> try (exfalso; omega)) | fail)
      have hM2 := kMo_fq hMo hF (by omega)
      have hr2 : f2 (a 171) = some (.inl (1, 388, .inl r)) := (hF 171 (by omega)).trans hr
      have h179' : f2 (a 179) = some (.inl (1, 60, .inl E)) := (hF 179 (by omega)).trans h179
      obtain ⟨M2, E2, h180', h181', hx⟩ := id hlo
      have mh := hM2; unfold kMo at mh
      have hi := inn (kNO s.o k).length 0 (ky_up f2 (a 181) (.inl (1, 60, .inl (upd E2 k (E k))))) M2 _ (by omega) (by simp (disch := first | omega | assumption) only [kz_up, kI_ne ha, h180', ite_false]) kz_same (fun i hi => by rw [pk_un (by omega)]; exact hx i hi) (by rw [pk_us]; exact hE) (fun t ht => absurd ht (Nat.not_lt_zero t)) (kfr_up ha hF (Or.inr rfl))
      repeat' (first | (refine kx172 hM2 hr2 ?_; simp only [ky_aft, ky_vl, Nat.reduceAdd]) | (exact hi) | (refine ky_ok_stp rfl ?_; simp (disch := first | omega | assumption) only [ky_stp, ky_inv, ky_ldi, ky_ldl, ky_ldd, ky_lda, ky_cl2, ky_st1, ky_st2, ky_s1i, ky_s2i, ky_s1l, ky_s2l, ky_sli, ky_s1f, ky_s2f, ky_s1d, ky_s2d, ky_sr, ky_sai, ky_sasi, ky_sasl, ky_sasr, ky_svr, ky_sv, ky_sv2, ky_s1, ky_cs, ky_pop, ky_nth, ky_snt, ky_obj, ky_ari, ky_arl, ky_arr, ky_arn, ky_fv, ky_rcv, List.map_cons, List.map_nil, List.drop_succ_cons, List.drop_zero, Value.category, Nat.reduceAdd, Nat.reduceSub, true_and, and_true, true_or, or_true, reduceCtorEq, ite_true, ite_false, eq_self, Nat.reduceEqDiff, Nat.reduceLeDiff, nI_add, nI_1, nI_leI, nI_ltI, nI_eq, nI_clamp, kz_m1, kz_mn, kz_mn2, kz_n0, kz_0n, kz_0, kz_le0, kz_0lt, false_implies, true_implies, not_false_eq_true, not_true_eq_false, Nat.zero_le, kb_0, kz_10, kz_of, ky_sw, kz_mx, kz_mi, mh, r0, h179', h181']) | (refine ⟨vp_in_nI (by omega) (by omega), ?_⟩) | (refine ⟨fun zc => ?_, fun zc => ?_⟩ <;> try (exfalso; omega)) | fail)
  have hl := lp s.o.n 0 f1 none (by omega) ⟨M0, E0, h180, h181, fun i hi => absurd hi (Nat.not_lt_zero i)⟩ kfr_rf
  repeat' (first | (exact hl) | (refine ky_ok_stp rfl ?_; simp (disch := first | omega | assumption) only [ky_stp, ky_inv, ky_ldi, ky_ldl, ky_ldd, ky_lda, ky_cl2, ky_st1, ky_st2, ky_s1i, ky_s2i, ky_s1l, ky_s2l, ky_sli, ky_s1f, ky_s2f, ky_s1d, ky_s2d, ky_sr, ky_sai, ky_sasi, ky_sasl, ky_sasr, ky_svr, ky_sv, ky_sv2, ky_s1, ky_cs, ky_pop, ky_nth, ky_snt, ky_obj, ky_ari, ky_arl, ky_arr, ky_arn, ky_fv, ky_rcv, List.map_cons, List.map_nil, List.drop_succ_cons, List.drop_zero, Value.category, Nat.reduceAdd, Nat.reduceSub, true_and, and_true, true_or, or_true, reduceCtorEq, ite_true, ite_false, eq_self, Nat.reduceEqDiff, Nat.reduceLeDiff, nI_add, nI_1, nI_leI, nI_ltI, nI_eq, nI_clamp, kz_m1, kz_mn, kz_mn2, kz_n0, kz_0n, kz_0, kz_le0, kz_0lt, false_implies, true_implies, not_false_eq_true, not_true_eq_false, Nat.zero_le, kb_0, kz_10, kz_of, ky_sw, kz_mx, kz_mi]) | (refine ⟨vp_in_nI (by omega) (by omega), ?_⟩) | (refine ⟨fun zc => ?_, fun zc => ?_⟩ <;> try (exfalso; omega)) | fail)
theorem kMR_c {z : kZ} {p t w : Nat} : kMR z p t w = 0 ∨ kMR z p t w = 1 ∨ kMR z p t w = 2 := by
  unfold kMR
  split
  · exact .inr (.inr rfl)
  · split
    · exact .inr (.inl rfl)
    · exact .inl rfl
theorem kChg_NO {z : kZ} (ho : kZo z) {p t w : Nat} (hp : p < z.n) (ht : t < z.n) (h0 : kMR z p t w = 0) (hm : ∀ j, j < z.n → kMi p (kEnd z p) (kTo2 z t w) j < z.n) : kChg z p t w = kCt (fun i => ¬ kNO (kMz z p t w) i = kNO z (kMi p (kEnd z p) (kTo2 z t w) i)) z.n :=
  kCt_e _ fun i hi => not_congr (kSn_NO (kMz_ok ho hp ht h0) ho hi (hm i hi))
theorem kx259 (hM : kM a f g s) (ho : kZo s.o) (hlo : kLo a f s.o s.o.n) (hp : p < s.o.n) (ht : t < s.o.n) (hw : w ≤ 3)
    (hQ : ∀ f' g', kM a f' g' s → (∀ j, j ≠ 2 → g' j = g j) → kLo a f' s.o s.o.n → kfr a f f' kMF → Q (.inl (some (.int (if kMR s.o p t w = 0 then nI (kChg s.o p t w) else -1)))) f') : ky_cl adK 259 [.ref (a 170), .int (nI p), .int (nI t), .int (nI w)] f Q := by
  have h60 := ho.n60
  obtain ⟨ha, hMo, ⟨⟨r, hr, hR⟩, -⟩, h2, h3, -⟩ := id hM
  have mh := hMo
  unfold kMo at mh
  have r0 := hR.1
  by_cases h0 : kMR s.o p t w = 0
  case neg =>
    have hq := hQ f g hM (fun _ _ => rfl) hlo kfr_rf
    rw [if_neg h0] at hq
    refine ⟨Nat.le_of_ble_eq_true rfl, fun z => absurd z (by decide), ?_⟩; show ky_ok adK 259 0 [some (.ref (a 170)), some (.int (nI p)), some (.int (nI t)), some (.int (nI w)), none, none, none, none, none] [] f 0 0 _
    rcases kMR_c (z := s.o) (p := p) (t := t) (w := w) with e | e | e
    · exact absurd e h0
    · repeat' (first | (refine kx252 hMo hr ho hR hp ht hw ?_; simp only [ky_aft, ky_vl, Nat.reduceAdd]) | (refine ky_ok_stp rfl ?_; simp (disch := first | omega | assumption) only [ky_stp, ky_inv, ky_ldi, ky_ldl, ky_ldd, ky_lda, ky_cl2, ky_st1, ky_st2, ky_s1i, ky_s2i, ky_s1l, ky_s2l, ky_sli, ky_s1f, ky_s2f, ky_s1d, ky_s2d, ky_sr, ky_sai, ky_sasi, ky_sasl, ky_sasr, ky_svr, ky_sv, ky_sv2, ky_s1, ky_cs, ky_pop, ky_nth, ky_snt, ky_obj, ky_ari, ky_arl, ky_arr, ky_arn, ky_fv, ky_rcv, List.map_cons, List.map_nil, List.drop_succ_cons, List.drop_zero, Value.category, Nat.reduceAdd, Nat.reduceSub, true_and, and_true, true_or, or_true, reduceCtorEq, ite_true, ite_false, eq_self, Nat.reduceEqDiff, Nat.reduceLeDiff, nI_add, nI_1, nI_leI, nI_ltI, nI_eq, nI_clamp, kz_m1, kz_mn, kz_mn2, kz_n0, kz_0n, kz_0, kz_le0, kz_0lt, false_implies, true_implies, not_false_eq_true, not_true_eq_false, Nat.zero_le, kb_0, kz_10, kz_of, ky_sw, kz_mx, kz_mi, mh, e, show ¬ (1 : Int32) ≤ 0 by decide]) | (refine ⟨vp_in_nI (by omega) (by omega), ?_⟩) | (refine ⟨fun zc => ?_, fun zc => ?_⟩ <;> try (exfalso; omega)) | fail)
      exact hq
    · repeat' (first | (refine kx252 hMo hr ho hR hp ht hw ?_; simp only [ky_aft, ky_vl, Nat.reduceAdd]) | (refine ky_ok_stp rfl ?_; simp (disch := first | omega | assumption) only [ky_stp, ky_inv, ky_ldi, ky_ldl, ky_ldd, ky_lda, ky_cl2, ky_st1, ky_st2, ky_s1i, ky_s2i, ky_s1l, ky_s2l, ky_sli, ky_s1f, ky_s2f, ky_s1d, ky_s2d, ky_sr, ky_sai, ky_sasi, ky_sasl, ky_sasr, ky_svr, ky_sv, ky_sv2, ky_s1, ky_cs, ky_pop, ky_nth, ky_snt, ky_obj, ky_ari, ky_arl, ky_arr, ky_arn, ky_fv, ky_rcv, List.map_cons, List.map_nil, List.drop_succ_cons, List.drop_zero, Value.category, Nat.reduceAdd, Nat.reduceSub, true_and, and_true, true_or, or_true, reduceCtorEq, ite_true, ite_false, eq_self, Nat.reduceEqDiff, Nat.reduceLeDiff, nI_add, nI_1, nI_leI, nI_ltI, nI_eq, nI_clamp, kz_m1, kz_mn, kz_mn2, kz_n0, kz_0n, kz_0, kz_le0, kz_0lt, false_implies, true_implies, not_false_eq_true, not_true_eq_false, Nat.zero_le, kb_0, kz_10, kz_of, ky_sw, kz_mx, kz_mi, mh, e, show ¬ (2 : Int32) ≤ 0 by decide]) | (refine ⟨vp_in_nI (by omega) (by omega), ?_⟩) | (refine ⟨fun zc => ?_, fun zc => ?_⟩ <;> try (exfalso; omega)) | fail)
      exact hq
  rw [if_pos h0] at hQ
  obtain ⟨⟨A0, h172⟩, -, ⟨M0, h178⟩, ⟨E0, h179⟩, -, -, -, ⟨B0, h184⟩, -⟩ := id h2
  have hd := (kMR_0 ho hp ht h0).1
  have hto := kMR_to ho (w := w) hp ht hd
  have hom := kMz_ok ho hp ht h0
  have hmn : (kMz s.o p t w).n = s.o.n := rfl
  obtain ⟨Mo, Eo, h180, h181, hDo⟩ := id hlo
  have e5 : (5 : Int32) = nI 5 := rfl
  -- the owners
  have lp1 : ∀ m k f1 T v5 v6 v7 v8, k + m = s.o.n → f1 (a 171) = some (.inl (1, 388, .inl T)) → (∀ i, i < k → T (28 + 6 * i + 5) = nI i) → (∀ t, (∀ i, i < k → t ≠ 28 + 6 * i + 5) → T t = r t) → (∃ A, f1 (a 172) = some (.inl (1, 388, .inl A)) ∧ ∀ t, t < 388 → A t = r t) → kfr a f f1 (fun j => j = 171 ∨ j = 172) → (∀ f2 T2, f2 (a 171) = some (.inl (1, 388, .inl T2)) → (∀ i, i < s.o.n → T2 (28 + 6 * i + 5) = nI i) → (∀ t, (∀ i, i < s.o.n → t ≠ 28 + 6 * i + 5) → T2 t = r t) → (∃ A, f2 (a 172) = some (.inl (1, 388, .inl A)) ∧ ∀ t, t < 388 → A t = r t) → kfr a f f2 (fun j => j = 171 ∨ j = 172) → ky_ok adK 259 52 [some (.ref (a 170)), some (.int (nI p)), some (.int (nI t)), some (.int (nI w)), some (.int (nI s.o.n)), v5, v6, v7, v8] [] f2 0 0 Q) → ky_ok adK 259 28 [some (.ref (a 170)), some (.int (nI p)), some (.int (nI t)), some (.int (nI w)), some (.int (nI k)), v5, v6, v7, v8] [] f1 0 0 Q := by
    intro m
    induction m with
    | zero =>
      intro k f1 T v5 v6 v7 v8 hk hT hx hy hA hF hc
      obtain rfl : k = s.o.n := by omega
      have hM1 := kMo_fq hMo hF (by omega)
      have hT0 : T 0 = nI s.o.n := by rw [hy 0 (fun i _ => by omega)]; exact r0
      have hcc := hc f1 T hT hx hy hA hF
      have mh := hM1; unfold kMo at mh
      repeat' (first | (exact hcc) | (refine kx172 hM1 hT ?_; simp only [ky_aft, ky_vl, Nat.reduceAdd]) | (refine ky_ok_stp rfl ?_; simp (disch := first | omega | assumption) only [ky_stp, ky_inv, ky_ldi, ky_ldl, ky_ldd, ky_lda, ky_cl2, ky_st1, ky_st2, ky_s1i, ky_s2i, ky_s1l, ky_s2l, ky_sli, ky_s1f, ky_s2f, ky_s1d, ky_s2d, ky_sr, ky_sai, ky_sasi, ky_sasl, ky_sasr, ky_svr, ky_sv, ky_sv2, ky_s1, ky_cs, ky_pop, ky_nth, ky_snt, ky_obj, ky_ari, ky_arl, ky_arr, ky_arn, ky_fv, ky_rcv, List.map_cons, List.map_nil, List.drop_succ_cons, List.drop_zero, Value.category, Nat.reduceAdd, Nat.reduceSub, true_and, and_true, true_or, or_true, reduceCtorEq, ite_true, ite_false, eq_self, Nat.reduceEqDiff, Nat.reduceLeDiff, nI_add, nI_1, nI_leI, nI_ltI, nI_eq, nI_clamp, kz_m1, kz_mn, kz_mn2, kz_n0, kz_0n, kz_0, kz_le0, kz_0lt, false_implies, true_implies, not_false_eq_true, not_true_eq_false, Nat.zero_le, kb_0, kz_10, kz_of, ky_sw, kz_mx, kz_mi, mh, hT0]) | (refine ⟨vp_in_nI (by omega) (by omega), ?_⟩) | (refine ⟨fun zc => ?_, fun zc => ?_⟩ <;> try (exfalso; omega)) | fail)
    | succ m ih =>
      intro k f1 T v5 v6 v7 v8 hk hT hx hy hA hF hc
      have hM1 := kMo_fq hMo hF (by omega)
      have hT0 : T 0 = nI s.o.n := by rw [hy 0 (fun i _ => by omega)]; exact r0
      have mh := hM1; unfold kMo at mh
      have hi := ih (k + 1) (ky_up f1 (a 171) (.inl (1, 388, .inl (upd T (28 + 6 * k + 5) (nI k))))) _ v5 v6 v7 v8 (by omega) kz_same (fun i hi => by
        by_cases e : i = k
        · subst e; rw [pk_us]
        · rw [pk_un (by omega)]; exact hx i (by omega)) (fun t ht => by
        rw [pk_un (ht k (by omega))]; exact hy t fun i hi => ht i (by omega)) (by
        obtain ⟨A, hA1, hA2⟩ := hA
        exact ⟨A, by simp (disch := first | omega | assumption) only [kz_up, kI_ne ha, hA1, ite_false], hA2⟩) (kfr_up ha hF (Or.inl rfl)) hc
      repeat' (first | (refine kx172 hM1 hT ?_; simp only [ky_aft, ky_vl, Nat.reduceAdd]) | ((refine kx174 (w := 5) hM1 hT (show k < 60 by omega) (by decide) ?_; simp only [ky_aft, ky_vl, Nat.reduceAdd])) | (exact hi) | (refine ky_ok_stp rfl ?_; simp (disch := first | omega | assumption) only [ky_stp, ky_inv, ky_ldi, ky_ldl, ky_ldd, ky_lda, ky_cl2, ky_st1, ky_st2, ky_s1i, ky_s2i, ky_s1l, ky_s2l, ky_sli, ky_s1f, ky_s2f, ky_s1d, ky_s2d, ky_sr, ky_sai, ky_sasi, ky_sasl, ky_sasr, ky_svr, ky_sv, ky_sv2, ky_s1, ky_cs, ky_pop, ky_nth, ky_snt, ky_obj, ky_ari, ky_arl, ky_arr, ky_arn, ky_fv, ky_rcv, List.map_cons, List.map_nil, List.drop_succ_cons, List.drop_zero, Value.category, Nat.reduceAdd, Nat.reduceSub, true_and, and_true, true_or, or_true, reduceCtorEq, ite_true, ite_false, eq_self, Nat.reduceEqDiff, Nat.reduceLeDiff, nI_add, nI_1, nI_leI, nI_ltI, nI_eq, nI_clamp, kz_m1, kz_mn, kz_mn2, kz_n0, kz_0n, kz_0, kz_le0, kz_0lt, false_implies, true_implies, not_false_eq_true, not_true_eq_false, Nat.zero_le, kb_0, kz_10, kz_of, ky_sw, kz_mx, kz_mi, mh, hT0, e5]) | (refine ⟨vp_in_nI (by omega) (by omega), ?_⟩) | (refine ⟨fun zc => ?_, fun zc => ?_⟩ <;> try (exfalso; omega)) | fail)
  refine ⟨Nat.le_of_ble_eq_true rfl, fun z => absurd z (by decide), ?_⟩; show ky_ok adK 259 0 [some (.ref (a 170)), some (.int (nI p)), some (.int (nI t)), some (.int (nI w)), none, none, none, none, none] [] f 0 0 _
  repeat' (first | (refine kx252 hMo hr ho hR hp ht hw ?_; simp only [ky_aft, ky_vl, Nat.reduceAdd]) | (refine kx171 (i := 171) (j := 172) (b := 0) (t := 0) ha (by decide) hr h172 (by decide) (by decide) (by decide) ?_) | (refine ky_ok_stp rfl ?_; simp (disch := first | omega | assumption) only [ky_stp, ky_inv, ky_ldi, ky_ldl, ky_ldd, ky_lda, ky_cl2, ky_st1, ky_st2, ky_s1i, ky_s2i, ky_s1l, ky_s2l, ky_sli, ky_s1f, ky_s2f, ky_s1d, ky_s2d, ky_sr, ky_sai, ky_sasi, ky_sasl, ky_sasr, ky_svr, ky_sv, ky_sv2, ky_s1, ky_cs, ky_pop, ky_nth, ky_snt, ky_obj, ky_ari, ky_arl, ky_arr, ky_arn, ky_fv, ky_rcv, List.map_cons, List.map_nil, List.drop_succ_cons, List.drop_zero, Value.category, Nat.reduceAdd, Nat.reduceSub, true_and, and_true, true_or, or_true, reduceCtorEq, ite_true, ite_false, eq_self, Nat.reduceEqDiff, Nat.reduceLeDiff, nI_add, nI_1, nI_leI, nI_ltI, nI_eq, nI_clamp, kz_m1, kz_mn, kz_mn2, kz_n0, kz_0n, kz_0, kz_le0, kz_0lt, false_implies, true_implies, not_false_eq_true, not_true_eq_false, Nat.zero_le, kb_0, kz_10, kz_of, ky_sw, kz_mx, kz_mi, mh, h0, Int32.le_refl]) | (refine ⟨vp_in_nI (by omega) (by omega), ?_⟩) | (refine ⟨fun zc => ?_, fun zc => ?_⟩ <;> try (exfalso; omega)) | fail)
  intro f1 A h172' hA hF1
  (try simp only [ky_aft, ky_vl, Nat.reduceAdd])
  have hl := lp1 s.o.n 0 f1 r none none none none (by omega) ((hF1 171 (by decide)).trans hr) (fun i hi => absurd hi (Nat.not_lt_zero i)) (fun _ _ => rfl) ⟨A, h172', fun t ht => by rw [hA, kcp, if_pos (by omega), Nat.zero_add, Nat.sub_zero]⟩ (fun j hj => hF1 j fun w => hj (Or.inr w)) fun f2 T h171 hx hy ⟨A, h172'', hA⟩ hF2 => by
    have hM2 := kMo_fq hMo hF2 (by omega)
    have hRT : kRw T s.o := by
      refine ⟨by rw [hy 0 (fun i _ => by omega)]; exact r0, fun i hi => ?_, fun c l hc w1 w6 => by rw [hy _ (fun i _ => by omega)]; exact hR.2.2 c l hc w1 w6⟩
      rw [hy _ (fun i _ => by omega), hy _ (fun i _ => by omega), hy _ (fun i _ => by omega), hy _ (fun i _ => by omega), hy _ (fun i _ => by omega)]
      exact hR.2.1 i hi
    have hLT := kRw_l ho hRT
    have h184' : f2 (a 184) = some (.inl (1, 360, .inl B0)) := (hF2 184 (by omega)).trans h184
    have mh := hM2; unfold kMo at mh
    repeat' (first | (refine kx256 ha hM2 h171 h184' hLT hp ht hw hd hto ?_) | (refine ky_ok_stp rfl ?_; simp (disch := first | omega | assumption) only [ky_stp, ky_inv, ky_ldi, ky_ldl, ky_ldd, ky_lda, ky_cl2, ky_st1, ky_st2, ky_s1i, ky_s2i, ky_s1l, ky_s2l, ky_sli, ky_s1f, ky_s2f, ky_s1d, ky_s2d, ky_sr, ky_sai, ky_sasi, ky_sasl, ky_sasr, ky_svr, ky_sv, ky_sv2, ky_s1, ky_cs, ky_pop, ky_nth, ky_snt, ky_obj, ky_ari, ky_arl, ky_arr, ky_arn, ky_fv, ky_rcv, List.map_cons, List.map_nil, List.drop_succ_cons, List.drop_zero, Value.category, Nat.reduceAdd, Nat.reduceSub, true_and, and_true, true_or, or_true, reduceCtorEq, ite_true, ite_false, eq_self, Nat.reduceEqDiff, Nat.reduceLeDiff, nI_add, nI_1, nI_leI, nI_ltI, nI_eq, nI_clamp, kz_m1, kz_mn, kz_mn2, kz_n0, kz_0n, kz_0, kz_le0, kz_0lt, false_implies, true_implies, not_false_eq_true, not_true_eq_false, Nat.zero_le, kb_0, kz_10, kz_of, ky_sw, kz_mx, kz_mi, mh]) | (refine ⟨vp_in_nI (by omega) (by omega), ?_⟩) | (refine ⟨fun zc => ?_, fun zc => ?_⟩ <;> try (exfalso; omega)) | fail)
    intro f3 T3 B3 q171 q184 t0 tx ty hF3
    (try simp only [ky_aft, ky_vl, Nat.reduceAdd])
    have hM3 := kMo_fq hM2 hF3 (by unfold kTF; omega)
    obtain ⟨hmi, hRz⟩ := kRw_mz hp hto hRT t0 tx fun j u hu hj => ty j u (by omega) hj
    have hF3' : kfr a f f3 (fun j => j = 171 ∨ j = 172 ∨ j = 184) := kfr_tr hF2 hF3 fun j hj => ⟨fun w => hj (by omega), fun w => hj (by unfold kTF at w; omega)⟩
    have mh3 := hM3
    unfold kMo at mh3
    repeat' (first | (refine kx195 ha hM3 q171 hom hRz ((hF3' 178 (by omega)).trans h178) ((hF3' 179 (by omega)).trans h179) ?_) | (refine ky_ok_stp rfl ?_; simp (disch := first | omega | assumption) only [ky_stp, ky_inv, ky_ldi, ky_ldl, ky_ldd, ky_lda, ky_cl2, ky_st1, ky_st2, ky_s1i, ky_s2i, ky_s1l, ky_s2l, ky_sli, ky_s1f, ky_s2f, ky_s1d, ky_s2d, ky_sr, ky_sai, ky_sasi, ky_sasl, ky_sasr, ky_svr, ky_sv, ky_sv2, ky_s1, ky_cs, ky_pop, ky_nth, ky_snt, ky_obj, ky_ari, ky_arl, ky_arr, ky_arn, ky_fv, ky_rcv, List.map_cons, List.map_nil, List.drop_succ_cons, List.drop_zero, Value.category, Nat.reduceAdd, Nat.reduceSub, true_and, and_true, true_or, or_true, reduceCtorEq, ite_true, ite_false, eq_self, Nat.reduceEqDiff, Nat.reduceLeDiff, nI_add, nI_1, nI_leI, nI_ltI, nI_eq, nI_clamp, kz_m1, kz_mn, kz_mn2, kz_n0, kz_0n, kz_0, kz_le0, kz_0lt, false_implies, true_implies, not_false_eq_true, not_true_eq_false, Nat.zero_le, kb_0, kz_10, kz_of, ky_sw, kz_mx, kz_mi, mh3]) | (refine ⟨vp_in_nI (by omega) (by omega), ?_⟩) | (refine ⟨fun zc => ?_, fun zc => ?_⟩ <;> try (exfalso; omega)) | fail)
    intro f4 g4 u1 u2 u3 u4
    (try simp only [ky_aft, ky_vl, Nat.reduceAdd])
    unfold kLnF at u4
    have hF4 : kfr a f f4 (fun j => j = 170 ∨ j = 171 ∨ j = 172 ∨ j = 178 ∨ j = 179 ∨ j = 184) := kfr_tr hF3' u4 fun j hj => ⟨fun w => hj (by omega), fun w => hj (by omega)⟩
    have v171 : f4 (a 171) = some (.inl (1, 388, .inl T3)) := (u4 171 (by omega)).trans q171
    have v172 : f4 (a 172) = some (.inl (1, 388, .inl A)) := ((u4 172 (by omega)).trans (hF3 172 (by unfold kTF; omega))).trans h172''
    have v180 : f4 (a 180) = some (.inl (1, 3600, .inl Mo)) := (hF4 180 (by omega)).trans h180
    have v181 : f4 (a 181) = some (.inl (1, 60, .inl Eo)) := (hF4 181 (by omega)).trans h181
    obtain ⟨Mn, En, v178, v179, hDn⟩ := id u3
    have mh4 := u2
    unfold kMo at mh4
    have hcg := kChg_NO ho hp ht h0 hmi
    have t0' : T3 0 = nI s.o.n := t0
    -- the last copy
    have fin : ∀ v4 v7 v8, ky_ok adK 259 165 [some (.ref (a 170)), some (.int (nI p)), some (.int (nI t)), some (.int (nI w)), v4, some (.int (nI (kChg s.o p t w))), some (.int (nI s.o.n)), v7, v8] [] f4 0 0 Q := by
      intro v4 v7 v8
      repeat' (first | (refine kx171 (i := 172) (j := 171) (b := 0) (t := 0) ha (by decide) v172 v171 (by decide) (by decide) (by decide) ?_) | (refine ky_ok_stp rfl ?_; simp (disch := first | omega | assumption) only [ky_stp, ky_inv, ky_ldi, ky_ldl, ky_ldd, ky_lda, ky_cl2, ky_st1, ky_st2, ky_s1i, ky_s2i, ky_s1l, ky_s2l, ky_sli, ky_s1f, ky_s2f, ky_s1d, ky_s2d, ky_sr, ky_sai, ky_sasi, ky_sasl, ky_sasr, ky_svr, ky_sv, ky_sv2, ky_s1, ky_cs, ky_pop, ky_nth, ky_snt, ky_obj, ky_ari, ky_arl, ky_arr, ky_arn, ky_fv, ky_rcv, List.map_cons, List.map_nil, List.drop_succ_cons, List.drop_zero, Value.category, Nat.reduceAdd, Nat.reduceSub, true_and, and_true, true_or, or_true, reduceCtorEq, ite_true, ite_false, eq_self, Nat.reduceEqDiff, Nat.reduceLeDiff, nI_add, nI_1, nI_leI, nI_ltI, nI_eq, nI_clamp, kz_m1, kz_mn, kz_mn2, kz_n0, kz_0n, kz_0, kz_le0, kz_0lt, false_implies, true_implies, not_false_eq_true, not_true_eq_false, Nat.zero_le, kb_0, kz_10, kz_of, ky_sw, kz_mx, kz_mi, mh4]) | (refine ⟨vp_in_nI (by omega) (by omega), ?_⟩) | (refine ⟨fun zc => ?_, fun zc => ?_⟩ <;> try (exfalso; omega)) | fail)
      intro f5 T5 w171 hT5 hF5
      (try simp only [ky_aft, ky_vl, Nat.reduceAdd])
      repeat' (first | (refine ky_ok_stp rfl ?_; simp (disch := first | omega | assumption) only [ky_stp, ky_inv, ky_ldi, ky_ldl, ky_ldd, ky_lda, ky_cl2, ky_st1, ky_st2, ky_s1i, ky_s2i, ky_s1l, ky_s2l, ky_sli, ky_s1f, ky_s2f, ky_s1d, ky_s2d, ky_sr, ky_sai, ky_sasi, ky_sasl, ky_sasr, ky_svr, ky_sv, ky_sv2, ky_s1, ky_cs, ky_pop, ky_nth, ky_snt, ky_obj, ky_ari, ky_arl, ky_arr, ky_arn, ky_fv, ky_rcv, List.map_cons, List.map_nil, List.drop_succ_cons, List.drop_zero, Value.category, Nat.reduceAdd, Nat.reduceSub, true_and, and_true, true_or, or_true, reduceCtorEq, ite_true, ite_false, eq_self, Nat.reduceEqDiff, Nat.reduceLeDiff, nI_add, nI_1, nI_leI, nI_ltI, nI_eq, nI_clamp, kz_m1, kz_mn, kz_mn2, kz_n0, kz_0n, kz_0, kz_le0, kz_0lt, false_implies, true_implies, not_false_eq_true, not_true_eq_false, Nat.zero_le, kb_0, kz_10, kz_of, ky_sw, kz_mx, kz_mi]) | (refine ⟨vp_in_nI (by omega) (by omega), ?_⟩) | (refine ⟨fun zc => ?_, fun zc => ?_⟩ <;> try (exfalso; omega)) | fail)
      have hR5 : kRw T5 s.o := kRw_c h60 hR fun t ht => by rw [hT5, kcp, if_pos (by omega), Nat.zero_add, Nat.sub_zero]; exact hA t ht
      have hF6 : kfr a f f5 (fun j => j = 170 ∨ j = 171 ∨ j = 172 ∨ j = 178 ∨ j = 179 ∨ j = 184) := kfr_tr hF4 hF5 fun j hj => ⟨hj, fun w => hj (by omega)⟩
      exact hQ f5 g4 (kM_o (z := s.o) hM (kMo_fq u2 hF5 (by omega)) (kM3_g h3 fun j hj => u1 j (by omega)) (fun j hj => hF6 j fun w => hj (by unfold kMS1 kMS; omega)) w171 hR5 (kM2_fr h2 hF6 (fun _ => ⟨A, (hF5 172 (by omega)).trans v172⟩) (fun w => by omega) (fun _ => ⟨Mn, (hF5 178 (by omega)).trans v178⟩) (fun _ => ⟨En, (hF5 179 (by omega)).trans v179⟩) (fun w => by omega) (fun w => by omega) (fun w => by omega) (fun _ => ⟨B3, ((hF5 184 (by omega)).trans (u4 184 (by omega))).trans q184⟩) (fun w => by omega))) u1 ⟨Mo, Eo, (hF5 180 (by omega)).trans v180, (hF5 181 (by omega)).trans v181, hDo⟩ (fun j hj => hF6 j fun w => hj (by unfold kMF; omega))
    have lp2 : ∀ m k v4 v7 v8, k + m = s.o.n → ky_ok adK 259 71 [some (.ref (a 170)), some (.int (nI p)), some (.int (nI t)), some (.int (nI w)), v4, some (.int (nI (kCt (fun i => ¬ kNO (kMz s.o p t w) i = kNO s.o (kMi p (kEnd s.o p) (kTo2 s.o t w) i)) k))), some (.int (nI k)), v7, v8] [] f4 0 0 Q := by
      intro m
      induction m with
      | zero =>
        intro k v4 v7 v8 hk
        obtain rfl : k = s.o.n := by omega
        rw [← hcg]
        repeat' (first | (exact fin _ _ _) | (refine kx172 u2 v171 ?_; simp only [ky_aft, ky_vl, Nat.reduceAdd]) | (refine ky_ok_stp rfl ?_; simp (disch := first | omega | assumption) only [ky_stp, ky_inv, ky_ldi, ky_ldl, ky_ldd, ky_lda, ky_cl2, ky_st1, ky_st2, ky_s1i, ky_s2i, ky_s1l, ky_s2l, ky_sli, ky_s1f, ky_s2f, ky_s1d, ky_s2d, ky_sr, ky_sai, ky_sasi, ky_sasl, ky_sasr, ky_svr, ky_sv, ky_sv2, ky_s1, ky_cs, ky_pop, ky_nth, ky_snt, ky_obj, ky_ari, ky_arl, ky_arr, ky_arn, ky_fv, ky_rcv, List.map_cons, List.map_nil, List.drop_succ_cons, List.drop_zero, Value.category, Nat.reduceAdd, Nat.reduceSub, true_and, and_true, true_or, or_true, reduceCtorEq, ite_true, ite_false, eq_self, Nat.reduceEqDiff, Nat.reduceLeDiff, nI_add, nI_1, nI_leI, nI_ltI, nI_eq, nI_clamp, kz_m1, kz_mn, kz_mn2, kz_n0, kz_0n, kz_0, kz_le0, kz_0lt, false_implies, true_implies, not_false_eq_true, not_true_eq_false, Nat.zero_le, kb_0, kz_10, kz_of, ky_sw, kz_mx, kz_mi, mh4, t0']) | (refine ⟨vp_in_nI (by omega) (by omega), ?_⟩) | (refine ⟨fun zc => ?_, fun zc => ?_⟩ <;> try (exfalso; omega)) | fail)
      | succ m ih =>
        intro k v4 v7 v8 hk
        have hkn : k < s.o.n := by omega
        have hown : T3 (28 + 6 * k + 5) = nI (kMi p (kEnd s.o p) (kTo2 s.o t w) k) := by
          rw [ty k 5 (by omega) hkn, if_neg (by omega)]
          exact hx _ (hmi k hkn)
        have hkm := hmi k hkn
        obtain ⟨o1, o2⟩ := hDo _ hkm
        obtain ⟨n1, n2⟩ := hDn k hkn
        have hl1 := kNO_l ho 6 _ hkm (ho.lv _ hkm).2.2
        have hv1 := (ho.lv _ hkm).2.2
        have hl2 := kNO_l hom 6 k hkn (hom.lv k hkn).2.2
        have hv2 := (hom.lv k hkn).2.2
        have hle := kCt_le (fun i => ¬ kNO (kMz s.o p t w) i = kNO s.o (kMi p (kEnd s.o p) (kTo2 s.o t w) i)) k
        generalize hK : kMi p (kEnd s.o p) (kTo2 s.o t w) k = K at hown hkm o1 o2 hl1 hv1
        by_cases e : kNO (kMz s.o p t w) k = kNO s.o K
        · have hi := fun v4 v7 v8 => ih (k + 1) v4 v7 v8 (by omega)
          rw [kCt_s0 (p := fun i => ¬ kNO (kMz s.o p t w) i = kNO s.o (kMi p (kEnd s.o p) (kTo2 s.o t w) i)) (fun w => w (by rw [hK]; exact e))] at hi
          have hle2 := congrArg List.length e
          have hsm := (kM_same hom ho hkn hkm n2 o2 hle2).mpr e
          repeat' (first | (refine kx172 u2 v171 ?_; simp only [ky_aft, ky_vl, Nat.reduceAdd]) | ((refine kx173 (w := 5) u2 v171 (show k < 60 by omega) (by decide) ?_; simp only [ky_aft, ky_vl, Nat.reduceAdd])) | ((refine kx196 (m := (kNO s.o K).length) v178 v180 (by omega) (by omega) (by decide) (fun _ => ?_) (fun w => absurd (fun t ht => hsm t (by omega)) w); simp only [ky_aft, ky_vl, Nat.reduceAdd])) | (exact hi _ _ _) | (refine ky_ok_stp rfl ?_; simp (disch := first | omega | assumption) only [ky_stp, ky_inv, ky_ldi, ky_ldl, ky_ldd, ky_lda, ky_cl2, ky_st1, ky_st2, ky_s1i, ky_s2i, ky_s1l, ky_s2l, ky_sli, ky_s1f, ky_s2f, ky_s1d, ky_s2d, ky_sr, ky_sai, ky_sasi, ky_sasl, ky_sasr, ky_svr, ky_sv, ky_sv2, ky_s1, ky_cs, ky_pop, ky_nth, ky_snt, ky_obj, ky_ari, ky_arl, ky_arr, ky_arn, ky_fv, ky_rcv, List.map_cons, List.map_nil, List.drop_succ_cons, List.drop_zero, Value.category, Nat.reduceAdd, Nat.reduceSub, true_and, and_true, true_or, or_true, reduceCtorEq, ite_true, ite_false, eq_self, Nat.reduceEqDiff, Nat.reduceLeDiff, nI_add, nI_1, nI_leI, nI_ltI, nI_eq, nI_clamp, kz_m1, kz_mn, kz_mn2, kz_n0, kz_0n, kz_0, kz_le0, kz_0lt, false_implies, true_implies, not_false_eq_true, not_true_eq_false, Nat.zero_le, kb_0, kz_10, kz_of, ky_sw, kz_mx, kz_mi, mh4, t0', e5, hown, v178, v179, v180, v181, n1, o1, hle2, kz_60, nI_mul, Int32.add_zero]) | (refine ⟨vp_in_nI (by omega) (by omega), ?_⟩) | (refine ⟨fun zc => ?_, fun zc => ?_⟩ <;> try (exfalso; omega)) | fail)
        · have hi := fun v4 v7 v8 => ih (k + 1) v4 v7 v8 (by omega)
          rw [kCt_s1 (p := fun i => ¬ kNO (kMz s.o p t w) i = kNO s.o (kMi p (kEnd s.o p) (kTo2 s.o t w) i)) (by show ¬ _; rw [hK]; exact e)] at hi
          by_cases hle2 : (kNO (kMz s.o p t w) k).length = (kNO s.o K).length
          · have hsm := fun w => e ((kM_same hom ho hkn hkm n2 o2 hle2).mp w)
            repeat' (first | (refine kx172 u2 v171 ?_; simp only [ky_aft, ky_vl, Nat.reduceAdd]) | ((refine kx173 (w := 5) u2 v171 (show k < 60 by omega) (by decide) ?_; simp only [ky_aft, ky_vl, Nat.reduceAdd])) | ((refine kx196 (m := (kNO s.o K).length) v178 v180 (by omega) (by omega) (by decide) (fun w => absurd (fun t ht => w t (by omega)) hsm) (fun _ => ?_); simp only [ky_aft, ky_vl, Nat.reduceAdd])) | (exact hi _ _ _) | (refine ky_ok_stp rfl ?_; simp (disch := first | omega | assumption) only [ky_stp, ky_inv, ky_ldi, ky_ldl, ky_ldd, ky_lda, ky_cl2, ky_st1, ky_st2, ky_s1i, ky_s2i, ky_s1l, ky_s2l, ky_sli, ky_s1f, ky_s2f, ky_s1d, ky_s2d, ky_sr, ky_sai, ky_sasi, ky_sasl, ky_sasr, ky_svr, ky_sv, ky_sv2, ky_s1, ky_cs, ky_pop, ky_nth, ky_snt, ky_obj, ky_ari, ky_arl, ky_arr, ky_arn, ky_fv, ky_rcv, List.map_cons, List.map_nil, List.drop_succ_cons, List.drop_zero, Value.category, Nat.reduceAdd, Nat.reduceSub, true_and, and_true, true_or, or_true, reduceCtorEq, ite_true, ite_false, eq_self, Nat.reduceEqDiff, Nat.reduceLeDiff, nI_add, nI_1, nI_leI, nI_ltI, nI_eq, nI_clamp, kz_m1, kz_mn, kz_mn2, kz_n0, kz_0n, kz_0, kz_le0, kz_0lt, false_implies, true_implies, not_false_eq_true, not_true_eq_false, Nat.zero_le, kb_0, kz_10, kz_of, ky_sw, kz_mx, kz_mi, mh4, t0', e5, hown, v178, v179, v180, v181, n1, o1, hle2, kz_60, nI_mul]) | (refine ⟨vp_in_nI (by omega) (by omega), ?_⟩) | (refine ⟨fun zc => ?_, fun zc => ?_⟩ <;> try (exfalso; omega)) | fail)
          · repeat' (first | (refine kx172 u2 v171 ?_; simp only [ky_aft, ky_vl, Nat.reduceAdd]) | ((refine kx173 (w := 5) u2 v171 (show k < 60 by omega) (by decide) ?_; simp only [ky_aft, ky_vl, Nat.reduceAdd])) | (exact hi _ _ _) | (refine ky_ok_stp rfl ?_; simp (disch := first | omega | assumption) only [ky_stp, ky_inv, ky_ldi, ky_ldl, ky_ldd, ky_lda, ky_cl2, ky_st1, ky_st2, ky_s1i, ky_s2i, ky_s1l, ky_s2l, ky_sli, ky_s1f, ky_s2f, ky_s1d, ky_s2d, ky_sr, ky_sai, ky_sasi, ky_sasl, ky_sasr, ky_svr, ky_sv, ky_sv2, ky_s1, ky_cs, ky_pop, ky_nth, ky_snt, ky_obj, ky_ari, ky_arl, ky_arr, ky_arn, ky_fv, ky_rcv, List.map_cons, List.map_nil, List.drop_succ_cons, List.drop_zero, Value.category, Nat.reduceAdd, Nat.reduceSub, true_and, and_true, true_or, or_true, reduceCtorEq, ite_true, ite_false, eq_self, Nat.reduceEqDiff, Nat.reduceLeDiff, nI_add, nI_1, nI_leI, nI_ltI, nI_eq, nI_clamp, kz_m1, kz_mn, kz_mn2, kz_n0, kz_0n, kz_0, kz_le0, kz_0lt, false_implies, true_implies, not_false_eq_true, not_true_eq_false, Nat.zero_le, kb_0, kz_10, kz_of, ky_sw, kz_mx, kz_mi, mh4, t0', e5, hown, v179, v181, n1, o1, eq_false hle2]) | (refine ⟨vp_in_nI (by omega) (by omega), ?_⟩) | (refine ⟨fun zc => ?_, fun zc => ?_⟩ <;> try (exfalso; omega)) | fail)
    have hl2 := fun v4 => lp2 s.o.n 0 v4 none none (by omega)
    repeat' (first | (exact hl2 _) | (refine ky_ok_stp rfl ?_; simp (disch := first | omega | assumption) only [ky_stp, ky_inv, ky_ldi, ky_ldl, ky_ldd, ky_lda, ky_cl2, ky_st1, ky_st2, ky_s1i, ky_s2i, ky_s1l, ky_s2l, ky_sli, ky_s1f, ky_s2f, ky_s1d, ky_s2d, ky_sr, ky_sai, ky_sasi, ky_sasl, ky_sasr, ky_svr, ky_sv, ky_sv2, ky_s1, ky_cs, ky_pop, ky_nth, ky_snt, ky_obj, ky_ari, ky_arl, ky_arr, ky_arn, ky_fv, ky_rcv, List.map_cons, List.map_nil, List.drop_succ_cons, List.drop_zero, Value.category, Nat.reduceAdd, Nat.reduceSub, true_and, and_true, true_or, or_true, reduceCtorEq, ite_true, ite_false, eq_self, Nat.reduceEqDiff, Nat.reduceLeDiff, nI_add, nI_1, nI_leI, nI_ltI, nI_eq, nI_clamp, kz_m1, kz_mn, kz_mn2, kz_n0, kz_0n, kz_0, kz_le0, kz_0lt, false_implies, true_implies, not_false_eq_true, not_true_eq_false, Nat.zero_le, kb_0, kz_10, kz_of, ky_sw, kz_mx, kz_mi]) | (refine ⟨vp_in_nI (by omega) (by omega), ?_⟩) | (refine ⟨fun zc => ?_, fun zc => ?_⟩ <;> try (exfalso; omega)) | fail)
  repeat' (first | (exact hl) | (refine ky_ok_stp rfl ?_; simp (disch := first | omega | assumption) only [ky_stp, ky_inv, ky_ldi, ky_ldl, ky_ldd, ky_lda, ky_cl2, ky_st1, ky_st2, ky_s1i, ky_s2i, ky_s1l, ky_s2l, ky_sli, ky_s1f, ky_s2f, ky_s1d, ky_s2d, ky_sr, ky_sai, ky_sasi, ky_sasl, ky_sasr, ky_svr, ky_sv, ky_sv2, ky_s1, ky_cs, ky_pop, ky_nth, ky_snt, ky_obj, ky_ari, ky_arl, ky_arr, ky_arn, ky_fv, ky_rcv, List.map_cons, List.map_nil, List.drop_succ_cons, List.drop_zero, Value.category, Nat.reduceAdd, Nat.reduceSub, true_and, and_true, true_or, or_true, reduceCtorEq, ite_true, ite_false, eq_self, Nat.reduceEqDiff, Nat.reduceLeDiff, nI_add, nI_1, nI_leI, nI_ltI, nI_eq, nI_clamp, kz_m1, kz_mn, kz_mn2, kz_n0, kz_0n, kz_0, kz_le0, kz_0lt, false_implies, true_implies, not_false_eq_true, not_true_eq_false, Nat.zero_le, kb_0, kz_10, kz_of, ky_sw, kz_mx, kz_mi]) | (refine ⟨vp_in_nI (by omega) (by omega), ?_⟩) | (refine ⟨fun zc => ?_, fun zc => ?_⟩ <;> try (exfalso; omega)) | fail)
theorem kx261 (hM : kM a f g s) (ho : kZo s.o) (hy : ∀ p t w, p < s.o.n → t < s.o.n → w ≤ 3 → x = nI p → y = nI t → v = nI w → kMQ a f s 0 Q (if kMR s.o p t w = 0 then nI (kChg s.o p t w) else -1)) (h1 : ¬ (kHas s.o.n x ∧ kHas s.o.n y) → kMQ a f s 1 Q 0) (h2' : kHas s.o.n x → kHas s.o.n y → ¬ kRg 0 3 v → kMQ a f s 2 Q 0) : ky_cl adK 261 [.ref (a 170), .int x, .int y, .int v] f Q := by
  have mh := hM.2.1
  unfold kMo at mh
  refine ⟨Nat.le_of_ble_eq_true rfl, fun z => absurd z (by decide), ?_⟩; show ky_ok adK 261 0 [some (.ref (a 170)), some (.int x), some (.int y), some (.int v)] [] f 0 0 _
  repeat' (first | (refine kx257 hM ho (fun hx hyy hw => ?_) (fun hx => ?_) (fun hx hyy hw => ?_)) | (refine ky_ok_stp rfl ?_; simp (disch := first | omega | assumption) only [ky_stp, ky_inv, ky_ldi, ky_ldl, ky_ldd, ky_lda, ky_cl2, ky_st1, ky_st2, ky_s1i, ky_s2i, ky_s1l, ky_s2l, ky_sli, ky_s1f, ky_s2f, ky_s1d, ky_s2d, ky_sr, ky_sai, ky_sasi, ky_sasl, ky_sasr, ky_svr, ky_sv, ky_sv2, ky_s1, ky_cs, ky_pop, ky_nth, ky_snt, ky_obj, ky_ari, ky_arl, ky_arr, ky_arn, ky_fv, ky_rcv, List.map_cons, List.map_nil, List.drop_succ_cons, List.drop_zero, Value.category, Nat.reduceAdd, Nat.reduceSub, true_and, and_true, true_or, or_true, reduceCtorEq, ite_true, ite_false, eq_self, Nat.reduceEqDiff, Nat.reduceLeDiff, nI_add, nI_1, nI_leI, nI_ltI, nI_eq, nI_clamp, kz_m1, kz_mn, kz_mn2, kz_n0, kz_0n, kz_0, kz_le0, kz_0lt, false_implies, true_implies, not_false_eq_true, not_true_eq_false, Nat.zero_le, kb_0, kz_10, kz_of, ky_sw, kz_mx, kz_mi, mh]) | (refine ⟨vp_in_nI (by omega) (by omega), ?_⟩) | (refine ⟨fun zc => ?_, fun zc => ?_⟩ <;> try (exfalso; omega)) | fail)
  · intro f1 g1 hM1 h10 hF1
    (try simp only [ky_aft, ky_vl, Nat.reduceAdd])
    obtain ⟨p, hp, rfl⟩ := hx
    obtain ⟨t, ht, rfl⟩ := hyy
    obtain ⟨w, -, hw, rfl⟩ := hw
    have mh := hM1.2.1
    unfold kMo at mh
    repeat' (first | (refine kx260 hM1 ho ?_) | (refine ky_ok_stp rfl ?_; simp (disch := first | omega | assumption) only [ky_stp, ky_inv, ky_ldi, ky_ldl, ky_ldd, ky_lda, ky_cl2, ky_st1, ky_st2, ky_s1i, ky_s2i, ky_s1l, ky_s2l, ky_sli, ky_s1f, ky_s2f, ky_s1d, ky_s2d, ky_sr, ky_sai, ky_sasi, ky_sasl, ky_sasr, ky_svr, ky_sv, ky_sv2, ky_s1, ky_cs, ky_pop, ky_nth, ky_snt, ky_obj, ky_ari, ky_arl, ky_arr, ky_arn, ky_fv, ky_rcv, List.map_cons, List.map_nil, List.drop_succ_cons, List.drop_zero, Value.category, Nat.reduceAdd, Nat.reduceSub, true_and, and_true, true_or, or_true, reduceCtorEq, ite_true, ite_false, eq_self, Nat.reduceEqDiff, Nat.reduceLeDiff, nI_add, nI_1, nI_leI, nI_ltI, nI_eq, nI_clamp, kz_m1, kz_mn, kz_mn2, kz_n0, kz_0n, kz_0, kz_le0, kz_0lt, false_implies, true_implies, not_false_eq_true, not_true_eq_false, Nat.zero_le, kb_0, kz_10, kz_of, ky_sw, kz_mx, kz_mi, mh]) | (refine ⟨vp_in_nI (by omega) (by omega), ?_⟩) | (refine ⟨fun zc => ?_, fun zc => ?_⟩ <;> try (exfalso; omega)) | fail)
    intro f2 g2 hM2 w2 w3 w4
    (try simp only [ky_aft, ky_vl, Nat.reduceAdd])
    have mh := hM2.2.1
    unfold kMo at mh
    repeat' (first | (refine kx259 hM2 ho w3 hp ht hw ?_) | (refine ky_ok_stp rfl ?_; simp (disch := first | omega | assumption) only [ky_stp, ky_inv, ky_ldi, ky_ldl, ky_ldd, ky_lda, ky_cl2, ky_st1, ky_st2, ky_s1i, ky_s2i, ky_s1l, ky_s2l, ky_sli, ky_s1f, ky_s2f, ky_s1d, ky_s2d, ky_sr, ky_sai, ky_sasi, ky_sasl, ky_sasr, ky_svr, ky_sv, ky_sv2, ky_s1, ky_cs, ky_pop, ky_nth, ky_snt, ky_obj, ky_ari, ky_arl, ky_arr, ky_arn, ky_fv, ky_rcv, List.map_cons, List.map_nil, List.drop_succ_cons, List.drop_zero, Value.category, Nat.reduceAdd, Nat.reduceSub, true_and, and_true, true_or, or_true, reduceCtorEq, ite_true, ite_false, eq_self, Nat.reduceEqDiff, Nat.reduceLeDiff, nI_add, nI_1, nI_leI, nI_ltI, nI_eq, nI_clamp, kz_m1, kz_mn, kz_mn2, kz_n0, kz_0n, kz_0, kz_le0, kz_0lt, false_implies, true_implies, not_false_eq_true, not_true_eq_false, Nat.zero_le, kb_0, kz_10, kz_of, ky_sw, kz_mx, kz_mi, mh]) | (refine ⟨vp_in_nI (by omega) (by omega), ?_⟩) | (refine ⟨fun zc => ?_, fun zc => ?_⟩ <;> try (exfalso; omega)) | fail)
    intro f3 g3 hM3 u2 u3 u4
    (try simp only [ky_aft, ky_vl, Nat.reduceAdd])
    repeat' (first | (refine ky_ok_stp rfl ?_; simp (disch := first | omega | assumption) only [ky_stp, ky_inv, ky_ldi, ky_ldl, ky_ldd, ky_lda, ky_cl2, ky_st1, ky_st2, ky_s1i, ky_s2i, ky_s1l, ky_s2l, ky_sli, ky_s1f, ky_s2f, ky_s1d, ky_s2d, ky_sr, ky_sai, ky_sasi, ky_sasl, ky_sasr, ky_svr, ky_sv, ky_sv2, ky_s1, ky_cs, ky_pop, ky_nth, ky_snt, ky_obj, ky_ari, ky_arl, ky_arr, ky_arn, ky_fv, ky_rcv, List.map_cons, List.map_nil, List.drop_succ_cons, List.drop_zero, Value.category, Nat.reduceAdd, Nat.reduceSub, true_and, and_true, true_or, or_true, reduceCtorEq, ite_true, ite_false, eq_self, Nat.reduceEqDiff, Nat.reduceLeDiff, nI_add, nI_1, nI_leI, nI_ltI, nI_eq, nI_clamp, kz_m1, kz_mn, kz_mn2, kz_n0, kz_0n, kz_0, kz_le0, kz_0lt, false_implies, true_implies, not_false_eq_true, not_true_eq_false, Nat.zero_le, kb_0, kz_10, kz_of, ky_sw, kz_mx, kz_mi]) | (refine ⟨vp_in_nI (by omega) (by omega), ?_⟩) | (refine ⟨fun zc => ?_, fun zc => ?_⟩ <;> try (exfalso; omega)) | fail)
    exact hy p t w hp ht hw rfl rfl rfl f3 g3 hM3 ((u2 0 (by decide)).trans ((w2 0 (by decide)).trans h10)) (kfr_tr hF1 (kfr_tr (T := kMF) w4 u4 fun j hj => ⟨hj, hj⟩) fun j hj => ⟨hj, hj⟩)
  · intro f1 g1 hM1 h10 hF1
    (try simp only [ky_aft, ky_vl, Nat.reduceAdd])
    repeat' (first | (refine ky_ok_stp rfl ?_; simp (disch := first | omega | assumption) only [ky_stp, ky_inv, ky_ldi, ky_ldl, ky_ldd, ky_lda, ky_cl2, ky_st1, ky_st2, ky_s1i, ky_s2i, ky_s1l, ky_s2l, ky_sli, ky_s1f, ky_s2f, ky_s1d, ky_s2d, ky_sr, ky_sai, ky_sasi, ky_sasl, ky_sasr, ky_svr, ky_sv, ky_sv2, ky_s1, ky_cs, ky_pop, ky_nth, ky_snt, ky_obj, ky_ari, ky_arl, ky_arr, ky_arn, ky_fv, ky_rcv, List.map_cons, List.map_nil, List.drop_succ_cons, List.drop_zero, Value.category, Nat.reduceAdd, Nat.reduceSub, true_and, and_true, true_or, or_true, reduceCtorEq, ite_true, ite_false, eq_self, Nat.reduceEqDiff, Nat.reduceLeDiff, nI_add, nI_1, nI_leI, nI_ltI, nI_eq, nI_clamp, kz_m1, kz_mn, kz_mn2, kz_n0, kz_0n, kz_0, kz_le0, kz_0lt, false_implies, true_implies, not_false_eq_true, not_true_eq_false, Nat.zero_le, kb_0, kz_10, kz_of, ky_sw, kz_mx, kz_mi]) | (refine ⟨vp_in_nI (by omega) (by omega), ?_⟩) | (refine ⟨fun zc => ?_, fun zc => ?_⟩ <;> try (exfalso; omega)) | fail)
    exact h1 hx f1 g1 hM1 h10 hF1
  · intro f1 g1 hM1 h10 hF1
    (try simp only [ky_aft, ky_vl, Nat.reduceAdd])
    repeat' (first | (refine ky_ok_stp rfl ?_; simp (disch := first | omega | assumption) only [ky_stp, ky_inv, ky_ldi, ky_ldl, ky_ldd, ky_lda, ky_cl2, ky_st1, ky_st2, ky_s1i, ky_s2i, ky_s1l, ky_s2l, ky_sli, ky_s1f, ky_s2f, ky_s1d, ky_s2d, ky_sr, ky_sai, ky_sasi, ky_sasl, ky_sasr, ky_svr, ky_sv, ky_sv2, ky_s1, ky_cs, ky_pop, ky_nth, ky_snt, ky_obj, ky_ari, ky_arl, ky_arr, ky_arn, ky_fv, ky_rcv, List.map_cons, List.map_nil, List.drop_succ_cons, List.drop_zero, Value.category, Nat.reduceAdd, Nat.reduceSub, true_and, and_true, true_or, or_true, reduceCtorEq, ite_true, ite_false, eq_self, Nat.reduceEqDiff, Nat.reduceLeDiff, nI_add, nI_1, nI_leI, nI_ltI, nI_eq, nI_clamp, kz_m1, kz_mn, kz_mn2, kz_n0, kz_0n, kz_0, kz_le0, kz_0lt, false_implies, true_implies, not_false_eq_true, not_true_eq_false, Nat.zero_le, kb_0, kz_10, kz_of, ky_sw, kz_mx, kz_mi]) | (refine ⟨vp_in_nI (by omega) (by omega), ?_⟩) | (refine ⟨fun zc => ?_, fun zc => ?_⟩ <;> try (exfalso; omega)) | fail)
    exact h2' hx hyy hw f1 g1 hM1 h10 hF1
end KXM
