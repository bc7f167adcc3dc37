/-! ## the reference: its things, and its small methods -/
/-- a byte, as it lies in a row of bytes -/
def kb8 (b : Nat) : Int32 := ky_nb 0 ((nI b).toInt8.toInt32)
theorem kb8_ch {b w : Nat} (hb : b < 256) (hw : w < 128) : kb8 b = nI w ↔ b = w := by
  have key : ∀ b, b < 256 → (b < 128 ∧ kb8 b = nI b) ∨ (128 ≤ b ∧ kb8 b < 0) := by decide +kernel
  rcases key b hb with ⟨h1, h2⟩ | ⟨h1, h2⟩
  · rw [h2, nI_eq (by omega) (by omega)]
  · exact ⟨fun z => absurd (z ▸ h2) (nI_pos (by omega)), fun z => by omega⟩
theorem kz_388 : (388 : Int32) = nI 388 := rfl
/-- a piece of a row, copied -/
def kcp (F T : Nat → Int32) (b t m : Nat) : Nat → Int32 := fun i => if t ≤ i ∧ i < t + m then F (b + (i - t)) else T i
theorem kcp_0 (F T : Nat → Int32) (b t i : Nat) : kcp F T b t 0 i = T i := if_neg (by omega)
theorem kcp_s (F T : Nat → Int32) (b t m i : Nat) : upd (kcp F T b t m) (t + m) (F (b + m)) i = kcp F T b t (m + 1) i := by
  by_cases e : i = t + m
  · subst e
    rw [pk_us, kcp, if_pos (by omega), Nat.add_sub_cancel_left]
  · rw [pk_un e]
    unfold kcp
    by_cases e2 : t ≤ i ∧ i < t + m
    · rw [if_pos e2, if_pos (by omega)]
    · rw [if_neg e2, if_neg (by omega)]
/-- rows alike on an outline's length tell the same -/
theorem kRw_c {r r' : Nat → Int32} {z : kZ} (h60 : z.n ≤ 60) (h : kRw r z) (he : ∀ t, t < 388 → r' t = r t) : kRw r' z := by
  obtain ⟨h0, h1, h2⟩ := h
  refine ⟨by rw [he _ (by omega)]; exact h0, fun i hi => ?_, fun c l hc h1 h6 => by rw [he _ (by omega)]; exact h2 c l hc h1 h6⟩
  rw [he _ (by omega), he _ (by omega), he _ (by omega), he _ (by omega), he _ (by omega)]
  exact h1 i hi
def kM1 (a : Nat → Nat) (f : ky_H) (s : kSt) : Prop :=
  (∃ r, f (a 171) = some (.inl (1, 388, .inl r)) ∧ kRw r s.o) ∧ (∃ U, f (a 174) = some (.inl (1, 3104, .inl U)) ∧ ∀ j, j < s.un → kRw (fun t => U (388 * (s.un - 1 - j) + t)) (s.u j)) ∧ (∃ V B, f (a 175) = some (.inl (1, 776, .inl V)) ∧ f (a 176) = some (.inl (3, 2, .inl B)) ∧ ∀ i, i < 2 → (s.v i = none ∧ B i = 0) ∨ ∃ z, s.v i = some z ∧ B i = 1 ∧ kRw (fun t => V (388 * i + t)) z) ∧ (∃ C, f (a 177) = some (.inl (1, 8, .inl C)) ∧ ∀ i, i < 8 → C i = s.ac i) ∧ (∃ T, f (a 182) = some (.inl (0, 700, .inl T)) ∧ ∀ i, i < s.bl → T i = kb8 (s.bc i)) ∧ ∃ W, f (a 186) = some (.inl (1, 4500, .inl W)) ∧ ∀ i, i < s.wl → W i = nI (s.wc i)
def kM2 (a : Nat → Nat) (f : ky_H) : Prop := (∃ r, f (a 172) = some (.inl (1, 388, .inl r))) ∧ (∃ r, f (a 173) = some (.inl (1, 388, .inl r))) ∧ (∃ r, f (a 178) = some (.inl (1, 3600, .inl r))) ∧ (∃ r, f (a 179) = some (.inl (1, 60, .inl r))) ∧ (∃ r, f (a 180) = some (.inl (1, 3600, .inl r))) ∧ (∃ r, f (a 181) = some (.inl (1, 60, .inl r))) ∧ (∃ r, f (a 183) = some (.inl (1, 160, .inl r))) ∧ (∃ r, f (a 184) = some (.inl (1, 360, .inl r))) ∧ ∃ r, f (a 185) = some (.inl (1, 60, .inl r))
def kM3 (g : Nat → Int32) (s : kSt) : Prop := g 1 = nI s.un ∧ g 3 = nI s.bl ∧ g 8 = s.er ∧ g 9 = s.ep ∧ g 12 = nI s.wl
def kM4 (s : kSt) : Prop := s.un ≤ 8 ∧ s.bl ≤ 700 ∧ (∀ i, i < s.bl → s.bc i < 256) ∧ s.wl ≤ 4500
/-- the reference in a state -/
def kM (a : Nat → Nat) (f : ky_H) (g : Nat → Int32) (s : kSt) : Prop := kI a ∧ kMo a f g ∧ kM1 a f s ∧ kM2 a f ∧ kM3 g s ∧ kM4 s
def kMF (j : Nat) : Prop := 170 ≤ j ∧ j ≤ 186
/-- an answer of the reference -/
def kMQ (a : Nat → Nat) (f : ky_H) (s : kSt) (t : Int32) (Q : ky_Q) (v : Int32) : Prop := ∀ f' g', kM a f' g' s → g' 0 = t → kfr a f f' kMF → Q (.inl (some (.int v))) f'
theorem kM1_e {a : Nat → Nat} {f : ky_H} {s s' : kSt} (h : kM1 a f s) (he : kSe s s') : kM1 a f s' := by
  obtain ⟨⟨r, h1, h2⟩, ⟨U, h3, h4⟩, ⟨V, B, h5, h6, h7⟩, ⟨C, h8, h9⟩, ⟨T, h10, h11⟩, ⟨W, h12, h13⟩⟩ := h
  obtain ⟨e1, e2, e3, e4, e5, e6, e7, e8, e9, e10, e11⟩ := he
  refine ⟨⟨r, h1, kRw_e h2 e1⟩, ⟨U, h3, fun j hj => ?_⟩, ⟨V, B, h5, h6, fun i hi => ?_⟩, ⟨C, h8, fun i hi => by rw [e5]; exact h9 i hi⟩, ⟨T, h10, fun i hi => ?_⟩, ⟨W, h12, fun i hi => ?_⟩⟩
  · rw [e2] at hj ⊢
    exact kRw_e (h4 j hj) (e3 j hj)
  · rcases h7 i hi with ⟨w1, w2⟩ | ⟨z, w1, w2, w3⟩
    · rcases e4 i hi with ⟨q1, q2⟩ | ⟨z, z', q1, q2, q3⟩
      · exact .inl ⟨q2, w2⟩
      · rw [w1] at q1; cases q1
    · rcases e4 i hi with ⟨q1, q2⟩ | ⟨z1, z', q1, q2, q3⟩
      · rw [w1] at q1; cases q1
      · rw [w1] at q1
        injection q1 with q1
        subst q1
        exact .inr ⟨z', q2, w2, kRw_e w3 q3⟩
  · rw [e6] at hi
    rw [e7 i hi]; exact h11 i hi
  · rw [e8] at hi
    rw [e9 i hi]; exact h13 i hi
theorem kM_e {a : Nat → Nat} {f : ky_H} {g : Nat → Int32} {s s' : kSt} (h : kM a f g s) (he : kSe s s') : kM a f g s' := by
  obtain ⟨ha, h0, h1, h2, h3, h4⟩ := h
  refine ⟨ha, h0, kM1_e h1 he, h2, ?_, ?_⟩
  · obtain ⟨e1, e2, e3, e4, e5, e6, e7, e8, e9, e10, e11⟩ := he
    unfold kM3
    rw [e2, e6, e8, e10, e11]
    exact h3
  · obtain ⟨e1, e2, e3, e4, e5, e6, e7, e8, e9, e10, e11⟩ := he
    obtain ⟨q1, q2, q3, q4⟩ := h4
    refine ⟨by rw [e2]; exact q1, by rw [e6]; exact q2, fun i hi => ?_, by rw [e8]; exact q4⟩
    rw [e6] at hi
    rw [e7 i hi]; exact q3 i hi
/-- what scratch is -/
def kMS (j : Nat) : Prop := j = 170 ∨ j = 172 ∨ j = 173 ∨ 178 ≤ j ∧ j ≤ 181 ∨ 183 ≤ j ∧ j ≤ 185
theorem kM1_fr {a : Nat → Nat} {f f' : ky_H} {s : kSt} (h : kM1 a f s) (hF : kfr a f f' kMS) : kM1 a f' s := by
  obtain ⟨⟨r, h1, h2⟩, ⟨U, h3, h4⟩, ⟨V, B, h5, h6, h7⟩, ⟨C, h8, h9⟩, ⟨T, h10, h11⟩, ⟨W, h12, h13⟩⟩ := h
  unfold kMS at hF
  exact ⟨⟨r, (hF 171 (by omega)).trans h1, h2⟩, ⟨U, (hF 174 (by omega)).trans h3, h4⟩, ⟨V, B, (hF 175 (by omega)).trans h5, (hF 176 (by omega)).trans h6, h7⟩, ⟨C, (hF 177 (by omega)).trans h8, h9⟩, ⟨T, (hF 182 (by omega)).trans h10, h11⟩, ⟨W, (hF 186 (by omega)).trans h12, h13⟩⟩
/-- fields alone have changed -/
theorem kM_up {a : Nat → Nat} {f f' : ky_H} {g g' : Nat → Int32} {s : kSt} (h : kM a f g s) (h0 : kMo a f' g') (hF : kfr a f f' (fun j => j = 170)) (hg : kM3 g' s) : kM a f' g' s := by
  obtain ⟨ha, _, h1, h2, h3, h4⟩ := h
  refine ⟨ha, h0, kM1_fr h1 fun j hj => hF j fun w => hj (Or.inl w), ?_, hg, h4⟩
  obtain ⟨⟨r1, q1⟩, ⟨r2, q2⟩, ⟨r3, q3⟩, ⟨r4, q4⟩, ⟨r5, q5⟩, ⟨r6, q6⟩, ⟨r7, q7⟩, ⟨r8, q8⟩, ⟨r9, q9⟩⟩ := h2
  exact ⟨⟨r1, (hF _ (by decide)).trans q1⟩, ⟨r2, (hF _ (by decide)).trans q2⟩, ⟨r3, (hF _ (by decide)).trans q3⟩, ⟨r4, (hF _ (by decide)).trans q4⟩, ⟨r5, (hF _ (by decide)).trans q5⟩, ⟨r6, (hF _ (by decide)).trans q6⟩, ⟨r7, (hF _ (by decide)).trans q7⟩, ⟨r8, (hF _ (by decide)).trans q8⟩, ⟨r9, (hF _ (by decide)).trans q9⟩⟩
theorem kMF_170 {a : Nat → Nat} {f f' : ky_H} (hF : kfr a f f' (fun j => j = 170)) : kfr a f f' kMF := fun j hj => hF j fun w => hj (by subst w; unfold kMF; omega)
theorem kM3_g {g g' : Nat → Int32} {s : kSt} (h : kM3 g s) (hg : ∀ j, j = 1 ∨ j = 3 ∨ j = 8 ∨ j = 9 ∨ j = 12 → g' j = g j) : kM3 g' s := by
  obtain ⟨h1, h2, h3, h4, h5⟩ := h
  exact ⟨(hg _ (by omega)).trans h1, (hg _ (by omega)).trans h2, (hg _ (by omega)).trans h3, (hg _ (by omega)).trans h4, (hg _ (by omega)).trans h5⟩
section KXM
variable {adK a : Nat → Nat} {f : ky_H} {Q : ky_Q} {g : Nat → Int32} {p w n l i j b t np nq k : Nat} {x lo hi v : Int32} {F T : Nat → Int32}
theorem kx167 (hM : kMo a f g) (hQ : Q (.inl (some (.int (g 0)))) f) : ky_cl adK 167 [.ref (a 170)] f Q := by
  have mh := hM; unfold kMo at mh
  refine ⟨Nat.le_of_ble_eq_true rfl, fun z => absurd z (by decide), ?_⟩; show ky_ok adK 167 0 [some (.ref (a 170))] [] f 0 0 _
  repeat' (first | (refine ky_ok_stp rfl ?_; simp (disch := first | omega | assumption) only [ky_stp, ky_inv, ky_ldi, ky_ldl, ky_ldd, ky_lda, ky_cl2, ky_st1, ky_st2, ky_s1i, ky_s2i, ky_s1l, ky_s2l, ky_sli, ky_s1f, ky_s2f, ky_s1d, ky_s2d, ky_sr, ky_sai, ky_sasi, ky_sasl, ky_sasr, ky_svr, ky_sv, ky_sv2, ky_s1, ky_cs, ky_pop, ky_nth, ky_snt, ky_obj, ky_ari, ky_arl, ky_arr, ky_arn, ky_fv, ky_rcv, List.map_cons, List.map_nil, List.drop_succ_cons, List.drop_zero, Value.category, Nat.reduceAdd, Nat.reduceSub, true_and, and_true, true_or, or_true, reduceCtorEq, ite_true, ite_false, eq_self, Nat.reduceEqDiff, Nat.reduceLeDiff, nI_add, nI_1, nI_leI, nI_ltI, nI_eq, nI_clamp, kz_m1, kz_mn, kz_mn2, kz_n0, kz_0n, kz_0, kz_le0, kz_0lt, false_implies, true_implies, not_false_eq_true, not_true_eq_false, Nat.zero_le, kb_0, kz_10, kz_of, ky_sw, kz_mx, kz_mi, mh]) | (refine ⟨vp_in_nI (by omega) (by omega), ?_⟩) | (refine ⟨fun zc => ?_, fun zc => ?_⟩ <;> try (exfalso; omega)) | fail)
  exact hQ
theorem kx168 (ha : kI a) (h : f (a j) = some (.inl (1, 388, .inl T))) (hQ : ∀ f' T', f' (a j) = some (.inl (1, 388, .inl T')) → kRw T' kZ0 → kfr a f f' (fun t => t = j) → Q (.inl none) f') : ky_cl adK 168 [.ref (a j)] f Q := by
  have e10 : (10 : Int32) = nI 10 := rfl
  have e16 : (16 : Int32) = nI 16 := rfl
  have loop : ∀ m k f1 T1, k + m = 388 → f1 (a j) = some (.inl (1, 388, .inl T1)) → (∀ t, t < k → T1 t = if 10 ≤ t ∧ t < 16 then 1 else 0) → kfr a f f1 (fun t => t = j) → ky_ok adK 168 2 [some (.ref (a j)), some (.int (nI k))] [] f1 0 0 Q := by
    intro m
    induction m with
    | zero =>
      intro k f1 T1 hk h1 hT hF
      obtain rfl : k = 388 := by omega
      repeat' (first | (refine ky_ok_stp rfl ?_; simp (disch := first | omega | assumption) only [ky_stp, ky_inv, ky_ldi, ky_ldl, ky_ldd, ky_lda, ky_cl2, ky_st1, ky_st2, ky_s1i, ky_s2i, ky_s1l, ky_s2l, ky_sli, ky_s1f, ky_s2f, ky_s1d, ky_s2d, ky_sr, ky_sai, ky_sasi, ky_sasl, ky_sasr, ky_svr, ky_sv, ky_sv2, ky_s1, ky_cs, ky_pop, ky_nth, ky_snt, ky_obj, ky_ari, ky_arl, ky_arr, ky_arn, ky_fv, ky_rcv, List.map_cons, List.map_nil, List.drop_succ_cons, List.drop_zero, Value.category, Nat.reduceAdd, Nat.reduceSub, true_and, and_true, true_or, or_true, reduceCtorEq, ite_true, ite_false, eq_self, Nat.reduceEqDiff, Nat.reduceLeDiff, nI_add, nI_1, nI_leI, nI_ltI, nI_eq, nI_clamp, kz_m1, kz_mn, kz_mn2, kz_n0, kz_0n, kz_0, kz_le0, kz_0lt, false_implies, true_implies, not_false_eq_true, not_true_eq_false, Nat.zero_le, kb_0, kz_10, kz_of, ky_sw, kz_mx, kz_mi, kz_388]) | (refine ⟨vp_in_nI (by omega) (by omega), ?_⟩) | (refine ⟨fun zc => ?_, fun zc => ?_⟩ <;> try (exfalso; omega)) | fail)
      refine hQ f1 T1 h1 ⟨hT 0 (by omega), fun i hi => absurd hi (Nat.not_lt_zero i), fun c l hc w1 w2 => ?_⟩ hF
      rw [hT _ (by omega)]
      show _ = if c = 1 then 1 else 0
      by_cases e : c = 1
      · rw [if_pos e, if_pos (by omega)]
      · rw [if_neg e, if_neg (by omega)]
    | succ m ih =>
      intro k f1 T1 hk h1 hT hF
      have hup : ∀ v : Int32, (v = if 10 ≤ k ∧ k < 16 then 1 else 0) → ky_ok adK 168 2 [some (.ref (a j)), some (.int (nI (k + 1)))] [] (ky_up f1 (a j) (.inl (1, 388, .inl (upd T1 k v)))) 0 0 Q := by
        intro v hv
        refine ih (k + 1) _ _ (by omega) kz_same (fun t ht => ?_) (kfr_up ha hF rfl)
        by_cases e : t = k
        · subst e; rw [pk_us]; exact hv
        · rw [pk_un e]; exact hT t (by omega)
      repeat' (first | (refine hup 1 ?_) | (refine hup 0 ?_) | (refine ky_ok_stp rfl ?_; simp (disch := first | omega | assumption) only [ky_stp, ky_inv, ky_ldi, ky_ldl, ky_ldd, ky_lda, ky_cl2, ky_st1, ky_st2, ky_s1i, ky_s2i, ky_s1l, ky_s2l, ky_sli, ky_s1f, ky_s2f, ky_s1d, ky_s2d, ky_sr, ky_sai, ky_sasi, ky_sasl, ky_sasr, ky_svr, ky_sv, ky_sv2, ky_s1, ky_cs, ky_pop, ky_nth, ky_snt, ky_obj, ky_ari, ky_arl, ky_arr, ky_arn, ky_fv, ky_rcv, List.map_cons, List.map_nil, List.drop_succ_cons, List.drop_zero, Value.category, Nat.reduceAdd, Nat.reduceSub, true_and, and_true, true_or, or_true, reduceCtorEq, ite_true, ite_false, eq_self, Nat.reduceEqDiff, Nat.reduceLeDiff, nI_add, nI_1, nI_leI, nI_ltI, nI_eq, nI_clamp, kz_m1, kz_mn, kz_mn2, kz_n0, kz_0n, kz_0, kz_le0, kz_0lt, false_implies, true_implies, not_false_eq_true, not_true_eq_false, Nat.zero_le, kb_0, kz_10, kz_of, ky_sw, kz_mx, kz_mi, h1, kz_388, e10, e16]) | (refine ⟨vp_in_nI (by omega) (by omega), ?_⟩) | (refine ⟨fun zc => ?_, fun zc => ?_⟩ <;> try (exfalso; omega)) | fail)
      · rw [if_neg (by omega)]
      · rw [if_neg (by omega)]
      · rw [if_pos (by omega)]
  refine ⟨Nat.le_of_ble_eq_true rfl, fun z => absurd z (by decide), ?_⟩; show ky_ok adK 168 0 [some (.ref (a j)), none] [] f 0 0 _
  repeat' (first | (refine loop 388 0 f T rfl h (fun t ht => absurd ht (Nat.not_lt_zero t)) kfr_rf) | (refine ky_ok_stp rfl ?_; simp (disch := first | omega | assumption) only [ky_stp, ky_inv, ky_ldi, ky_ldl, ky_ldd, ky_lda, ky_cl2, ky_st1, ky_st2, ky_s1i, ky_s2i, ky_s1l, ky_s2l, ky_sli, ky_s1f, ky_s2f, ky_s1d, ky_s2d, ky_sr, ky_sai, ky_sasi, ky_sasl, ky_sasr, ky_svr, ky_sv, ky_sv2, ky_s1, ky_cs, ky_pop, ky_nth, ky_snt, ky_obj, ky_ari, ky_arl, ky_arr, ky_arn, ky_fv, ky_rcv, List.map_cons, List.map_nil, List.drop_succ_cons, List.drop_zero, Value.category, Nat.reduceAdd, Nat.reduceSub, true_and, and_true, true_or, or_true, reduceCtorEq, ite_true, ite_false, eq_self, Nat.reduceEqDiff, Nat.reduceLeDiff, nI_add, nI_1, nI_leI, nI_ltI, nI_eq, nI_clamp, kz_m1, kz_mn, kz_mn2, kz_n0, kz_0n, kz_0, kz_le0, kz_0lt, false_implies, true_implies, not_false_eq_true, not_true_eq_false, Nat.zero_le, kb_0, kz_10, kz_of, ky_sw, kz_mx, kz_mi]) | (refine ⟨vp_in_nI (by omega) (by omega), ?_⟩) | (refine ⟨fun zc => ?_, fun zc => ?_⟩ <;> try (exfalso; omega)) | fail)
theorem kx171 (ha : kI a) (hij : i ≠ j) (hF : f (a i) = some (.inl (1, np, .inl F))) (hT : f (a j) = some (.inl (1, nq, .inl T))) (hb : b + 388 ≤ np) (ht : t + 388 ≤ nq) (hn : np < 10000 ∧ nq < 10000)
    (hQ : ∀ f' T', f' (a j) = some (.inl (1, nq, .inl T')) → (∀ x, T' x = kcp F T b t 388 x) → kfr a f f' (fun x => x = j) → Q (.inl none) f') : ky_cl adK 171 [.ref (a i), .int (nI b), .ref (a j), .int (nI t)] f Q := by
  have loop : ∀ m k f1 T1, k + m = 388 → f1 (a j) = some (.inl (1, nq, .inl T1)) → (∀ x, T1 x = kcp F T b t k x) → kfr a f f1 (fun x => x = j) → ky_ok adK 171 3 [some (.ref (a i)), some (.int (nI b)), some (.ref (a j)), some (.int (nI t)), some (.int (nI k))] [] f1 0 0 Q := by
    intro m
    induction m with
    | zero =>
      intro k f1 T1 hk h1 hx hfr
      obtain rfl : k = 388 := by omega
      repeat' (first | (refine ky_ok_stp rfl ?_; simp (disch := first | omega | assumption) only [ky_stp, ky_inv, ky_ldi, ky_ldl, ky_ldd, ky_lda, ky_cl2, ky_st1, ky_st2, ky_s1i, ky_s2i, ky_s1l, ky_s2l, ky_sli, ky_s1f, ky_s2f, ky_s1d, ky_s2d, ky_sr, ky_sai, ky_sasi, ky_sasl, ky_sasr, ky_svr, ky_sv, ky_sv2, ky_s1, ky_cs, ky_pop, ky_nth, ky_snt, ky_obj, ky_ari, ky_arl, ky_arr, ky_arn, ky_fv, ky_rcv, List.map_cons, List.map_nil, List.drop_succ_cons, List.drop_zero, Value.category, Nat.reduceAdd, Nat.reduceSub, true_and, and_true, true_or, or_true, reduceCtorEq, ite_true, ite_false, eq_self, Nat.reduceEqDiff, Nat.reduceLeDiff, nI_add, nI_1, nI_leI, nI_ltI, nI_eq, nI_clamp, kz_m1, kz_mn, kz_mn2, kz_n0, kz_0n, kz_0, kz_le0, kz_0lt, false_implies, true_implies, not_false_eq_true, not_true_eq_false, Nat.zero_le, kb_0, kz_10, kz_of, ky_sw, kz_mx, kz_mi, kz_388]) | (refine ⟨vp_in_nI (by omega) (by omega), ?_⟩) | (refine ⟨fun zc => ?_, fun zc => ?_⟩ <;> try (exfalso; omega)) | fail)
      exact hQ f1 T1 h1 hx hfr
    | succ m ih =>
      intro k f1 T1 hk h1 hx hfr
      have h2 : f1 (a i) = _ := (hfr i hij).trans hF
      have hup := ih (k + 1) (ky_up f1 (a j) (.inl (1, nq, .inl (upd T1 (t + k) (F (b + k)))))) _ (by omega) kz_same (fun x => by
        rw [← kcp_s]
        by_cases e : x = t + k
        · rw [e, pk_us, pk_us]
        · rw [pk_un e, pk_un e]; exact hx x) (kfr_up ha hfr rfl)
      repeat' (first | (exact hup) | (refine ky_ok_stp rfl ?_; simp (disch := first | omega | assumption) only [ky_stp, ky_inv, ky_ldi, ky_ldl, ky_ldd, ky_lda, ky_cl2, ky_st1, ky_st2, ky_s1i, ky_s2i, ky_s1l, ky_s2l, ky_sli, ky_s1f, ky_s2f, ky_s1d, ky_s2d, ky_sr, ky_sai, ky_sasi, ky_sasl, ky_sasr, ky_svr, ky_sv, ky_sv2, ky_s1, ky_cs, ky_pop, ky_nth, ky_snt, ky_obj, ky_ari, ky_arl, ky_arr, ky_arn, ky_fv, ky_rcv, List.map_cons, List.map_nil, List.drop_succ_cons, List.drop_zero, Value.category, Nat.reduceAdd, Nat.reduceSub, true_and, and_true, true_or, or_true, reduceCtorEq, ite_true, ite_false, eq_self, Nat.reduceEqDiff, Nat.reduceLeDiff, nI_add, nI_1, nI_leI, nI_ltI, nI_eq, nI_clamp, kz_m1, kz_mn, kz_mn2, kz_n0, kz_0n, kz_0, kz_le0, kz_0lt, false_implies, true_implies, not_false_eq_true, not_true_eq_false, Nat.zero_le, kb_0, kz_10, kz_of, ky_sw, kz_mx, kz_mi, h1, h2, kz_388]) | (refine ⟨vp_in_nI (by omega) (by omega), ?_⟩) | (refine ⟨fun zc => ?_, fun zc => ?_⟩ <;> try (exfalso; omega)) | fail)
  refine ⟨Nat.le_of_ble_eq_true rfl, fun z => absurd z (by decide), ?_⟩; show ky_ok adK 171 0 [some (.ref (a i)), some (.int (nI b)), some (.ref (a j)), some (.int (nI t)), none] [] f 0 0 _
  repeat' (first | (refine loop 388 0 f T rfl hT (fun x => (kcp_0 F T b t x).symm) kfr_rf) | (refine ky_ok_stp rfl ?_; simp (disch := first | omega | assumption) only [ky_stp, ky_inv, ky_ldi, ky_ldl, ky_ldd, ky_lda, ky_cl2, ky_st1, ky_st2, ky_s1i, ky_s2i, ky_s1l, ky_s2l, ky_sli, ky_s1f, ky_s2f, ky_s1d, ky_s2d, ky_sr, ky_sai, ky_sasi, ky_sasl, ky_sasr, ky_svr, ky_sv, ky_sv2, ky_s1, ky_cs, ky_pop, ky_nth, ky_snt, ky_obj, ky_ari, ky_arl, ky_arr, ky_arn, ky_fv, ky_rcv, List.map_cons, List.map_nil, List.drop_succ_cons, List.drop_zero, Value.category, Nat.reduceAdd, Nat.reduceSub, true_and, and_true, true_or, or_true, reduceCtorEq, ite_true, ite_false, eq_self, Nat.reduceEqDiff, Nat.reduceLeDiff, nI_add, nI_1, nI_leI, nI_ltI, nI_eq, nI_clamp, kz_m1, kz_mn, kz_mn2, kz_n0, kz_0n, kz_0, kz_le0, kz_0lt, false_implies, true_implies, not_false_eq_true, not_true_eq_false, Nat.zero_le, kb_0, kz_10, kz_of, ky_sw, kz_mx, kz_mi]) | (refine ⟨vp_in_nI (by omega) (by omega), ?_⟩) | (refine ⟨fun zc => ?_, fun zc => ?_⟩ <;> try (exfalso; omega)) | fail)
theorem kx171s (ha : kI a) (hT : f (a j) = some (.inl (1, nq, .inl T))) (hb : b + 388 ≤ nq) (ht : t + 388 ≤ b) (hn : nq < 10000)
    (hQ : ∀ f' T', f' (a j) = some (.inl (1, nq, .inl T')) → (∀ x, T' x = kcp T T b t 388 x) → kfr a f f' (fun x => x = j) → Q (.inl none) f') : ky_cl adK 171 [.ref (a j), .int (nI b), .ref (a j), .int (nI t)] f Q := by
  have loop : ∀ m k f1 T1, k + m = 388 → f1 (a j) = some (.inl (1, nq, .inl T1)) → (∀ x, T1 x = kcp T T b t k x) → kfr a f f1 (fun x => x = j) → ky_ok adK 171 3 [some (.ref (a j)), some (.int (nI b)), some (.ref (a j)), some (.int (nI t)), some (.int (nI k))] [] f1 0 0 Q := by
    intro m
    induction m with
    | zero =>
      intro k f1 T1 hk h1 hx hfr
      obtain rfl : k = 388 := by omega
      repeat' (first | (refine ky_ok_stp rfl ?_; simp (disch := first | omega | assumption) only [ky_stp, ky_inv, ky_ldi, ky_ldl, ky_ldd, ky_lda, ky_cl2, ky_st1, ky_st2, ky_s1i, ky_s2i, ky_s1l, ky_s2l, ky_sli, ky_s1f, ky_s2f, ky_s1d, ky_s2d, ky_sr, ky_sai, ky_sasi, ky_sasl, ky_sasr, ky_svr, ky_sv, ky_sv2, ky_s1, ky_cs, ky_pop, ky_nth, ky_snt, ky_obj, ky_ari, ky_arl, ky_arr, ky_arn, ky_fv, ky_rcv, List.map_cons, List.map_nil, List.drop_succ_cons, List.drop_zero, Value.category, Nat.reduceAdd, Nat.reduceSub, true_and, and_true, true_or, or_true, reduceCtorEq, ite_true, ite_false, eq_self, Nat.reduceEqDiff, Nat.reduceLeDiff, nI_add, nI_1, nI_leI, nI_ltI, nI_eq, nI_clamp, kz_m1, kz_mn, kz_mn2, kz_n0, kz_0n, kz_0, kz_le0, kz_0lt, false_implies, true_implies, not_false_eq_true, not_true_eq_false, Nat.zero_le, kb_0, kz_10, kz_of, ky_sw, kz_mx, kz_mi, kz_388]) | (refine ⟨vp_in_nI (by omega) (by omega), ?_⟩) | (refine ⟨fun zc => ?_, fun zc => ?_⟩ <;> try (exfalso; omega)) | fail)
      exact hQ f1 T1 h1 hx hfr
    | succ m ih =>
      intro k f1 T1 hk h1 hx hfr
      have h3 : T1 (b + k) = T (b + k) := by rw [hx, kcp, if_neg (by omega)]
      have hup := ih (k + 1) (ky_up f1 (a j) (.inl (1, nq, .inl (upd T1 (t + k) (T (b + k)))))) _ (by omega) kz_same (fun x => by
        rw [← kcp_s]
        by_cases e : x = t + k
        · rw [e, pk_us, pk_us]
        · rw [pk_un e, pk_un e]; exact hx x) (kfr_up ha hfr rfl)
      repeat' (first | (exact hup) | (refine ky_ok_stp rfl ?_; simp (disch := first | omega | assumption) only [ky_stp, ky_inv, ky_ldi, ky_ldl, ky_ldd, ky_lda, ky_cl2, ky_st1, ky_st2, ky_s1i, ky_s2i, ky_s1l, ky_s2l, ky_sli, ky_s1f, ky_s2f, ky_s1d, ky_s2d, ky_sr, ky_sai, ky_sasi, ky_sasl, ky_sasr, ky_svr, ky_sv, ky_sv2, ky_s1, ky_cs, ky_pop, ky_nth, ky_snt, ky_obj, ky_ari, ky_arl, ky_arr, ky_arn, ky_fv, ky_rcv, List.map_cons, List.map_nil, List.drop_succ_cons, List.drop_zero, Value.category, Nat.reduceAdd, Nat.reduceSub, true_and, and_true, true_or, or_true, reduceCtorEq, ite_true, ite_false, eq_self, Nat.reduceEqDiff, Nat.reduceLeDiff, nI_add, nI_1, nI_leI, nI_ltI, nI_eq, nI_clamp, kz_m1, kz_mn, kz_mn2, kz_n0, kz_0n, kz_0, kz_le0, kz_0lt, false_implies, true_implies, not_false_eq_true, not_true_eq_false, Nat.zero_le, kb_0, kz_10, kz_of, ky_sw, kz_mx, kz_mi, h1, h3, kz_388]) | (refine ⟨vp_in_nI (by omega) (by omega), ?_⟩) | (refine ⟨fun zc => ?_, fun zc => ?_⟩ <;> try (exfalso; omega)) | fail)
  refine ⟨Nat.le_of_ble_eq_true rfl, fun z => absurd z (by decide), ?_⟩; show ky_ok adK 171 0 [some (.ref (a j)), some (.int (nI b)), some (.ref (a j)), some (.int (nI t)), none] [] f 0 0 _
  repeat' (first | (refine loop 388 0 f T rfl hT (fun x => (kcp_0 T T b t x).symm) kfr_rf) | (refine ky_ok_stp rfl ?_; simp (disch := first | omega | assumption) only [ky_stp, ky_inv, ky_ldi, ky_ldl, ky_ldd, ky_lda, ky_cl2, ky_st1, ky_st2, ky_s1i, ky_s2i, ky_s1l, ky_s2l, ky_sli, ky_s1f, ky_s2f, ky_s1d, ky_s2d, ky_sr, ky_sai, ky_sasi, ky_sasl, ky_sasr, ky_svr, ky_sv, ky_sv2, ky_s1, ky_cs, ky_pop, ky_nth, ky_snt, ky_obj, ky_ari, ky_arl, ky_arr, ky_arn, ky_fv, ky_rcv, List.map_cons, List.map_nil, List.drop_succ_cons, List.drop_zero, Value.category, Nat.reduceAdd, Nat.reduceSub, true_and, and_true, true_or, or_true, reduceCtorEq, ite_true, ite_false, eq_self, Nat.reduceEqDiff, Nat.reduceLeDiff, nI_add, nI_1, nI_leI, nI_ltI, nI_eq, nI_clamp, kz_m1, kz_mn, kz_mn2, kz_n0, kz_0n, kz_0, kz_le0, kz_0lt, false_implies, true_implies, not_false_eq_true, not_true_eq_false, Nat.zero_le, kb_0, kz_10, kz_of, ky_sw, kz_mx, kz_mi]) | (refine ⟨vp_in_nI (by omega) (by omega), ?_⟩) | (refine ⟨fun zc => ?_, fun zc => ?_⟩ <;> try (exfalso; omega)) | fail)
theorem kx196 {m : Nat} {E : Nat → Int32} (hF : f (a i) = some (.inl (1, np, .inl F))) (hT : f (a j) = some (.inl (1, nq, .inl E))) (hb : b + m ≤ np) (ht : t + m ≤ nq) (hn : np < 10000 ∧ nq < 10000)
    (hy : (∀ x, x < m → F (b + x) = E (t + x)) → Q (.inl (some (.int 1))) f) (hz : ¬ (∀ x, x < m → F (b + x) = E (t + x)) → Q (.inl (some (.int 0))) f) : ky_cl adK 196 [.ref (a i), .int (nI b), .ref (a j), .int (nI t), .int (nI m)] f Q := by
  have loop : ∀ d k, k + d = m → (∀ x, x < k → F (b + x) = E (t + x)) → ky_ok adK 196 3 [some (.ref (a i)), some (.int (nI b)), some (.ref (a j)), some (.int (nI t)), some (.int (nI m)), some (.int (nI k))] [] f 0 0 Q := by
    intro d
    induction d with
    | zero =>
      intro k hk hx
      obtain rfl : k = m := by omega
      repeat' (first | (refine ky_ok_stp rfl ?_; simp (disch := first | omega | assumption) only [ky_stp, ky_inv, ky_ldi, ky_ldl, ky_ldd, ky_lda, ky_cl2, ky_st1, ky_st2, ky_s1i, ky_s2i, ky_s1l, ky_s2l, ky_sli, ky_s1f, ky_s2f, ky_s1d, ky_s2d, ky_sr, ky_sai, ky_sasi, ky_sasl, ky_sasr, ky_svr, ky_sv, ky_sv2, ky_s1, ky_cs, ky_pop, ky_nth, ky_snt, ky_obj, ky_ari, ky_arl, ky_arr, ky_arn, ky_fv, ky_rcv, List.map_cons, List.map_nil, List.drop_succ_cons, List.drop_zero, Value.category, Nat.reduceAdd, Nat.reduceSub, true_and, and_true, true_or, or_true, reduceCtorEq, ite_true, ite_false, eq_self, Nat.reduceEqDiff, Nat.reduceLeDiff, nI_add, nI_1, nI_leI, nI_ltI, nI_eq, nI_clamp, kz_m1, kz_mn, kz_mn2, kz_n0, kz_0n, kz_0, kz_le0, kz_0lt, false_implies, true_implies, not_false_eq_true, not_true_eq_false, Nat.zero_le, kb_0, kz_10, kz_of, ky_sw, kz_mx, kz_mi]) | (refine ⟨vp_in_nI (by omega) (by omega), ?_⟩) | (refine ⟨fun zc => ?_, fun zc => ?_⟩ <;> try (exfalso; omega)) | fail)
      exact hy hx
    | succ d ih =>
      intro k hk hx
      by_cases e : F (b + k) = E (t + k)
      · have hup := ih (k + 1) (by omega) (fun x h => if z : x = k then z ▸ e else hx x (by omega))
        repeat' (first | (exact hup) | (refine ky_ok_stp rfl ?_; simp (disch := first | omega | assumption) only [ky_stp, ky_inv, ky_ldi, ky_ldl, ky_ldd, ky_lda, ky_cl2, ky_st1, ky_st2, ky_s1i, ky_s2i, ky_s1l, ky_s2l, ky_sli, ky_s1f, ky_s2f, ky_s1d, ky_s2d, ky_sr, ky_sai, ky_sasi, ky_sasl, ky_sasr, ky_svr, ky_sv, ky_sv2, ky_s1, ky_cs, ky_pop, ky_nth, ky_snt, ky_obj, ky_ari, ky_arl, ky_arr, ky_arn, ky_fv, ky_rcv, List.map_cons, List.map_nil, List.drop_succ_cons, List.drop_zero, Value.category, Nat.reduceAdd, Nat.reduceSub, true_and, and_true, true_or, or_true, reduceCtorEq, ite_true, ite_false, eq_self, Nat.reduceEqDiff, Nat.reduceLeDiff, nI_add, nI_1, nI_leI, nI_ltI, nI_eq, nI_clamp, kz_m1, kz_mn, kz_mn2, kz_n0, kz_0n, kz_0, kz_le0, kz_0lt, false_implies, true_implies, not_false_eq_true, not_true_eq_false, Nat.zero_le, kb_0, kz_10, kz_of, ky_sw, kz_mx, kz_mi, hF, hT, e]) | (refine ⟨vp_in_nI (by omega) (by omega), ?_⟩) | (refine ⟨fun zc => ?_, fun zc => ?_⟩ <;> try (exfalso; omega)) | fail)
      · have hq := hz fun w => e (w k (by omega))
        repeat' (first | (refine ky_ok_stp rfl ?_; simp (disch := first | omega | assumption) only [ky_stp, ky_inv, ky_ldi, ky_ldl, ky_ldd, ky_lda, ky_cl2, ky_st1, ky_st2, ky_s1i, ky_s2i, ky_s1l, ky_s2l, ky_sli, ky_s1f, ky_s2f, ky_s1d, ky_s2d, ky_sr, ky_sai, ky_sasi, ky_sasl, ky_sasr, ky_svr, ky_sv, ky_sv2, ky_s1, ky_cs, ky_pop, ky_nth, ky_snt, ky_obj, ky_ari, ky_arl, ky_arr, ky_arn, ky_fv, ky_rcv, List.map_cons, List.map_nil, List.drop_succ_cons, List.drop_zero, Value.category, Nat.reduceAdd, Nat.reduceSub, true_and, and_true, true_or, or_true, reduceCtorEq, ite_true, ite_false, eq_self, Nat.reduceEqDiff, Nat.reduceLeDiff, nI_add, nI_1, nI_leI, nI_ltI, nI_eq, nI_clamp, kz_m1, kz_mn, kz_mn2, kz_n0, kz_0n, kz_0, kz_le0, kz_0lt, false_implies, true_implies, not_false_eq_true, not_true_eq_false, Nat.zero_le, kb_0, kz_10, kz_of, ky_sw, kz_mx, kz_mi, hF, hT, eq_false e]) | (refine ⟨vp_in_nI (by omega) (by omega), ?_⟩) | (refine ⟨fun zc => ?_, fun zc => ?_⟩ <;> try (exfalso; omega)) | fail)
        exact hq
  refine ⟨Nat.le_of_ble_eq_true rfl, fun z => absurd z (by decide), ?_⟩; show ky_ok adK 196 0 [some (.ref (a i)), some (.int (nI b)), some (.ref (a j)), some (.int (nI t)), some (.int (nI m)), none] [] f 0 0 _
  repeat' (first | (refine loop m 0 (Nat.zero_add m) (fun x h => absurd h (Nat.not_lt_zero x))) | (refine ky_ok_stp rfl ?_; simp (disch := first | omega | assumption) only [ky_stp, ky_inv, ky_ldi, ky_ldl, ky_ldd, ky_lda, ky_cl2, ky_st1, ky_st2, ky_s1i, ky_s2i, ky_s1l, ky_s2l, ky_sli, ky_s1f, ky_s2f, ky_s1d, ky_s2d, ky_sr, ky_sai, ky_sasi, ky_sasl, ky_sasr, ky_svr, ky_sv, ky_sv2, ky_s1, ky_cs, ky_pop, ky_nth, ky_snt, ky_obj, ky_ari, ky_arl, ky_arr, ky_arn, ky_fv, ky_rcv, List.map_cons, List.map_nil, List.drop_succ_cons, List.drop_zero, Value.category, Nat.reduceAdd, Nat.reduceSub, true_and, and_true, true_or, or_true, reduceCtorEq, ite_true, ite_false, eq_self, Nat.reduceEqDiff, Nat.reduceLeDiff, nI_add, nI_1, nI_leI, nI_ltI, nI_eq, nI_clamp, kz_m1, kz_mn, kz_mn2, kz_n0, kz_0n, kz_0, kz_le0, kz_0lt, false_implies, true_implies, not_false_eq_true, not_true_eq_false, Nat.zero_le, kb_0, kz_10, kz_of, ky_sw, kz_mx, kz_mi]) | (refine ⟨vp_in_nI (by omega) (by omega), ?_⟩) | (refine ⟨fun zc => ?_, fun zc => ?_⟩ <;> try (exfalso; omega)) | fail)
end KXM
