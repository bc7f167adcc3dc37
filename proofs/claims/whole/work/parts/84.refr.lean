/-! ## the reference: headings and styles read -/
/-- a row more -/
theorem kRw_in {r r' : Nat → Int32} {z : kZ} {w : List Nat} {l : Nat} {p q : Int32} (h : kRw r z) (hn : z.n < 60) (hw : kWd w) (h0 : r' 0 = nI (z.n + 1)) (hl : r' (28 + 6 * z.n) = nI l) (hp : r' (28 + 6 * z.n + 1) = p) (hq : r' (28 + 6 * z.n + 2) = q) (h3 : r' (28 + 6 * z.n + 3) = kHf w 0) (h4 : r' (28 + 6 * z.n + 4) = kHf w 4)
    (ho : ∀ t, t ≠ 0 → (t < 28 + 6 * z.n ∨ 28 + 6 * z.n + 5 ≤ t) → r' t = r t) : kRw r' (kZh z w l p q) := by
  obtain ⟨a0, a1, a2⟩ := h
  refine ⟨h0, fun i hi => ?_, fun c l hc h1 h6 => ?_⟩
  · have hi' : i < z.n + 1 := hi
    by_cases e : i = z.n
    · subst e
      have es : (kZh z w l p q).R z.n = (kNW w, nI l, p, q) := kru_s _ _ _
      unfold kL kPl kFo kN
      rw [es]
      exact ⟨hl, hp, hq, w, rfl, hw, h3, h4⟩
    · have eo : (kZh z w l p q).R i = z.R i := kru_o _ _ e
      unfold kL kPl kFo kN
      rw [eo, ho _ (by omega) (by omega), ho _ (by omega) (by omega), ho _ (by omega) (by omega), ho _ (by omega) (by omega), ho _ (by omega) (by omega)]
      exact a1 i (by omega)
  · rw [ho _ (by omega) (by omega)]
    exact a2 c l hc h1 h6
/-- a style more -/
theorem kRw_st {r r' : Nat → Int32} {z : kZ} {y : Nat × Nat × Nat × Int32 × Nat × Int32 × Int32} (h : kRw r z) (hl : 1 ≤ y.2.2.1 ∧ y.2.2.1 ≤ 6) (h0 : r' (3 + y.2.2.1) = y.2.2.2.1) (h1 : r' (3 + 6 + y.2.2.1) = nI y.2.2.2.2.1) (h2 : r' (3 + 12 + y.2.2.1) = y.2.2.2.2.2.1) (h3 : r' (3 + 18 + y.2.2.1) = y.2.2.2.2.2.2)
    (ho : ∀ t, t ≠ 3 + y.2.2.1 → t ≠ 3 + 6 + y.2.2.1 → t ≠ 3 + 12 + y.2.2.1 → t ≠ 3 + 18 + y.2.2.1 → r' t = r t) : kRw r' (kZy z y) := by
  obtain ⟨a0, a1, a2⟩ := h
  refine ⟨by rw [ho _ (by omega) (by omega) (by omega) (by omega)]; exact a0, fun i hi => ?_, fun c l hc w1 w6 => ?_⟩
  · have hi' : i < z.n := hi
    rw [ho _ (by omega) (by omega) (by omega) (by omega), ho _ (by omega) (by omega) (by omega) (by omega), ho _ (by omega) (by omega) (by omega) (by omega), ho _ (by omega) (by omega) (by omega) (by omega), ho _ (by omega) (by omega) (by omega) (by omega)]
    exact a1 i hi'
  · show r' _ = kSw z.S y c l
    obtain ⟨s0, s1, s2, s3⟩ := kSw_s (S := z.S) (r := y)
    by_cases e : l = y.2.2.1
    · subst e
      match c, hc with
      | 0, _ => rw [s0]; exact h0
      | 1, _ => rw [s1, ← h1]
      | 2, _ => rw [s2, ← h2]
      | 3, _ => rw [s3, ← h3]
    · rw [kSw_o e, ho _ (by omega) (by omega) (by omega) (by omega)]
      exact a2 c l hc w1 w6
theorem kTw_e {c : Nat → Nat} {L s : Nat} (hs : s ≤ L) : kTw c L s = [] ↔ ¬ (kTk c L s = 1 ∧ kTe c L s - s ≤ 8) := by
  unfold kTw
  constructor
  · intro h w
    rw [if_pos w] at h
    have hl := congrArg List.length h
    rw [kTl_len] at hl
    have hlt : s < L := by
      by_cases e : s < L
      · exact e
      · have := w.1
        rw [kTk, if_neg e] at this
        omega
    have := kTe_lt (c := c) hlt
    simp at hl
    omega
  · intro h
    rw [if_neg h]
theorem kTk_lt {c : Nat → Nat} {L s : Nat} (h : kTk c L s = 1) : s < L ∧ ∀ k, k < kTe c L s - s → klt (c (s + k)) := by
  have hs : s < L := by
    by_cases e : s < L
    · exact e
    · rw [kTk, if_neg e] at h; omega
  have hl : klt (c s) := by
    by_cases e : klt (c s)
    · exact e
    · rw [kTk, if_pos hs, if_neg e] at h
      split at h
      · omega
      · split at h
        · omega
        · split at h <;> omega
  refine ⟨hs, fun k hk => ?_⟩
  have he : kTe c L s = kRn klt c s (L - s) := by rw [kTe, if_pos hs, if_pos hl]
  exact kRn_in klt c (L - s) s (s + k) (by omega) (by omega)
/-- what a reader of the reference leaves: the made rows -/
def kGQ (a : Nat → Nat) (f : ky_H) (g : Nat → Int32) (L : Nat) (c : Nat → Nat) (s : Nat) (z : kZ) (Q : ky_Q) : Prop := ∀ f' g' r', kMt a f' g' L c → kTq g' c L s → f' (a 173) = some (.inl (1, 388, .inl r')) → kRw r' z → (∀ j, j < 4 ∨ 10 < j → g' j = g j) → kfr a f f' (fun j => j = 170 ∨ j = 173) → Q (.inl (some (.int 1))) f'
theorem kMt_u {a : Nat → Nat} {f : ky_H} {g : Nat → Int32} {L : Nat} {c : Nat → Nat} {e : ky_E} (ha : kI a) (h : kMt a f g L c) : kMt a (ky_up f (a 173) e) g L c := by
  obtain ⟨h0, h1, h2, T, h3, h4⟩ := h
  have hF : kfr a f (ky_up f (a 173) e) (fun j => j = 173) := kfr_up ha kfr_rf rfl
  exact ⟨(hF 170 (by decide)).trans h0, h1, h2, T, (hF 182 (by decide)).trans h3, h4⟩
section KXM
variable {adK a : Nat → Nat} {f : ky_H} {Q : ky_Q} {g r : Nat → Int32} {p w n l i j t L s : Nat} {x y v : Int32} {z : kZ} {c : Nat → Nat}
theorem kPQ_tr {f1 : ky_H} {g1 : Nat → Int32} {P : (Nat → Int32) → Prop} {v : Option Value} (h : kPQ a f g L c P Q v) (hg : ∀ j, j < 4 ∨ 10 < j → g1 j = g j) (hF : kfr a f f1 (fun j => j = 170)) : kPQ a f1 g1 L c P Q v := fun f' g' w1 w2 w3 w4 => h f' g' w1 w2 (fun j hj => (w3 j hj).trans (hg j hj)) (kfr_tr hF w4 fun j hj => ⟨hj, hj⟩)
theorem kx215 (ha : kI a) (hM : kMt a f g L c) (hs : s ≤ L) (hT : kTq g c L s) (hr : f (a 173) = some (.inl (1, 388, .inl r))) (hR : kRw r z) (ho : kZo z) (h1 : z.n = 60 → kPQ a f g L c (kEr 4 s) Q (some (.int 0)))
    (h2 : z.n ≠ 60 → (kSr c L (kGl z + 1) 7 0 s).1 ≠ 0 → kPQ a f g L c (kEr (kSr c L (kGl z + 1) 7 0 s).1 (kSr c L (kGl z + 1) 7 0 s).2.2) Q (some (.int 0)))
    (h3 : z.n ≠ 60 → (kSr c L (kGl z + 1) 7 0 s).1 = 0 → kTw c L (kSr c L (kGl z + 1) 7 0 s).2.2 = [] → kPQ a f g L c (kEr 1 (kSr c L (kGl z + 1) 7 0 s).2.2) Q (some (.int 0)))
    (h4 : z.n ≠ 60 → (kSr c L (kGl z + 1) 7 0 s).1 = 0 → ¬ kTw c L (kSr c L (kGl z + 1) 7 0 s).2.2 = [] → kGQ a f g L c (kNx c L kwF (kNx c L kwP (kTn c L (kSr c L (kGl z + 1) 7 0 s).2.2))) (kZh z (kTw c L (kSr c L (kGl z + 1) 7 0 s).2.2) (kSr c L (kGl z + 1) 7 0 s).2.1 (if kTw c L (kTn c L (kSr c L (kGl z + 1) 7 0 s).2.2) = kwP then 1 else 0) (if kTw c L (kNx c L kwP (kTn c L (kSr c L (kGl z + 1) 7 0 s).2.2)) = kwF then 1 else 0)) Q) : ky_cl adK 215 [.ref (a 170)] f Q := by
  have h60 := ho.n60
  have e60 : (60 : Int32) = nI 60 := rfl
  have e28 : (28 : Int32) = nI 28 := rfl
  have e4 : (4 : Int32) = nI 4 := rfl
  have e3 : (3 : Int32) = nI 3 := rfl
  have e2 : (2 : Int32) = nI 2 := rfl
  have e1 : (1 : Int32) = nI 1 := rfl
  have e6 : (6 : Int32) = nI 6 := rfl
  have e8 : (8 : Int32) = nI 8 := rfl
  have mh := hM.1
  unfold kMo at mh
  have r0 := hR.1
  by_cases hn : z.n = 60
  · have hq := h1 hn
    have r0' : r 0 = nI 60 := by rw [r0, hn]
    refine ⟨Nat.le_of_ble_eq_true rfl, fun z => absurd z (by decide), ?_⟩; show ky_ok adK 215 0 [some (.ref (a 170)), none, none, none, none] [] f 0 0 _
    repeat' (first | (refine ⟨vp_in_nI (n := 0) (by omega) (by omega), ?_⟩) | (refine kx206 (w := 4) ha hM hT.2.1 hT.1.1 ?_) | (refine ky_ok_stp rfl ?_; simp (disch := first | omega | assumption) only [ky_stp, ky_inv, ky_ldi, ky_ldl, ky_ldd, ky_lda, ky_cl2, ky_st1, ky_st2, ky_s1i, ky_s2i, ky_s1l, ky_s2l, ky_sli, ky_s1f, ky_s2f, ky_s1d, ky_s2d, ky_sr, ky_sai, ky_sasi, ky_sasl, ky_sasr, ky_svr, ky_sv, ky_sv2, ky_s1, ky_cs, ky_pop, ky_nth, ky_snt, ky_obj, ky_ari, ky_arl, ky_arr, ky_arn, ky_fv, ky_rcv, List.map_cons, List.map_nil, List.drop_succ_cons, List.drop_zero, Value.category, Nat.reduceAdd, Nat.reduceSub, true_and, and_true, true_or, or_true, reduceCtorEq, ite_true, ite_false, eq_self, Nat.reduceEqDiff, Nat.reduceLeDiff, nI_add, nI_1, nI_leI, nI_ltI, nI_eq, nI_clamp, kz_m1, kz_mn, kz_mn2, kz_n0, kz_0n, kz_0, kz_le0, kz_0lt, false_implies, true_implies, not_false_eq_true, not_true_eq_false, Nat.zero_le, kb_0, kz_10, kz_of, ky_sw, kz_mx, kz_mi, mh, hr, kz_c0, r0', e60, e4]) | (refine ⟨vp_in_nI (by omega) (by omega), ?_⟩) | (refine ⟨fun zc => ?_, fun zc => ?_⟩ <;> try (exfalso; omega)) | fail)
    intro f' g' w1 w2 w3 w4
    (try simp only [ky_aft, ky_vl, Nat.reduceAdd])
    repeat' (first | (refine ky_ok_stp rfl ?_; simp (disch := first | omega | assumption) only [ky_stp, ky_inv, ky_ldi, ky_ldl, ky_ldd, ky_lda, ky_cl2, ky_st1, ky_st2, ky_s1i, ky_s2i, ky_s1l, ky_s2l, ky_sli, ky_s1f, ky_s2f, ky_s1d, ky_s2d, ky_sr, ky_sai, ky_sasi, ky_sasl, ky_sasr, ky_svr, ky_sv, ky_sv2, ky_s1, ky_cs, ky_pop, ky_nth, ky_snt, ky_obj, ky_ari, ky_arl, ky_arr, ky_arn, ky_fv, ky_rcv, List.map_cons, List.map_nil, List.drop_succ_cons, List.drop_zero, Value.category, Nat.reduceAdd, Nat.reduceSub, true_and, and_true, true_or, or_true, reduceCtorEq, ite_true, ite_false, eq_self, Nat.reduceEqDiff, Nat.reduceLeDiff, nI_add, nI_1, nI_leI, nI_ltI, nI_eq, nI_clamp, kz_m1, kz_mn, kz_mn2, kz_n0, kz_0n, kz_0, kz_le0, kz_0lt, false_implies, true_implies, not_false_eq_true, not_true_eq_false, Nat.zero_le, kb_0, kz_10, kz_of, ky_sw, kz_mx, kz_mi]) | (refine ⟨vp_in_nI (by omega) (by omega), ?_⟩) | (refine ⟨fun zc => ?_, fun zc => ?_⟩ <;> try (exfalso; omega)) | fail)
    (first | exact hq f' g' w1 w2 w3 w4 | exact ⟨by decide, hq f' g' w1 w2 w3 w4⟩)
  have hG6 := (kZe_Gl (kZe_rf z) ho).2
  -- behind the second word
  have stD : ∀ f5 g5 R5 p1 p2 l w s4, kMt a f5 g5 L c → kTq g5 c L s4 → f5 (a 173) = some (.inl (1, 388, .inl R5)) → kWd w → R5 (28 + 6 * z.n) = nI l → R5 (28 + 6 * z.n + 1) = p1 → R5 (28 + 6 * z.n + 3) = kHf w 0 → R5 (28 + 6 * z.n + 4) = kHf w 4 → (∀ t, (t < 28 + 6 * z.n ∨ 28 + 6 * z.n + 5 ≤ t) → R5 t = r t) → k01 p2 → (∀ j, j < 4 ∨ 10 < j → g5 j = g j) → kfr a f f5 (fun j => j = 170 ∨ j = 173) → kGQ a f g L c s4 (kZh z w l p1 p2) Q → ky_ok adK 215 221 [some (.ref (a 170)), some (.int (nI z.n)), some (.int (nI (kGl z))), some (.int (nI l)), some (.int (nI (28 + 6 * z.n)))] [.int p2, .int (nI (28 + 6 * z.n + 2)), .ref (a 173)] f5 0 0 Q := by
    intro f5 g5 R5 p1 p2 l w s4 hM5 hT5 h173 hw q0 q1 q3 q4 qo hp2 hg hF hq
    have mh5 := hM5.1
    unfold kMo at mh5
    have u0 : R5 0 = nI z.n := (qo 0 (by omega)).trans r0
    have hup : ∀ v : Int32, v = p2 → Q (.inl (some (.int 1))) (ky_up (ky_up f5 (a 173) (.inl (1, 388, .inl (upd R5 (28 + 6 * z.n + 2) v)))) (a 173) (.inl (1, 388, .inl (upd (upd R5 (28 + 6 * z.n + 2) v) 0 (nI (z.n + 1)))))) := by
      intro v hv
      subst hv
      refine hq _ g5 _ (kMt_u ha (kMt_u ha hM5)) hT5 kz_same (kRw_in hR (by omega) hw (by rw [pk_us]) ?_ ?_ ?_ ?_ ?_ ?_) hg (kfr_up ha (kfr_up ha hF (Or.inr rfl)) (Or.inr rfl))
      · rw [pk_un (by omega), pk_un (by omega)]; exact q0
      · rw [pk_un (by omega), pk_un (by omega)]; exact q1
      · rw [pk_un (by omega), pk_us]
      · rw [pk_un (by omega), pk_un (by omega)]; exact q3
      · rw [pk_un (by omega), pk_un (by omega)]; exact q4
      · intro t ht0 ht
        rw [pk_un ht0, pk_un (by omega)]
        exact qo t ht
    have u2 : ∀ v, upd R5 (28 + 6 * z.n + 2) v 0 = nI z.n := fun v => (pk_un (by omega)).trans u0
    rcases hp2 with rfl | rfl
    · have hh := hup 0 rfl
      repeat' (first | (refine ⟨vp_in_nI (n := 0) (by omega) (by omega), ?_⟩) | (refine ky_ok_stp rfl ?_; simp (disch := first | omega | assumption) only [ky_stp, ky_inv, ky_ldi, ky_ldl, ky_ldd, ky_lda, ky_cl2, ky_st1, ky_st2, ky_s1i, ky_s2i, ky_s1l, ky_s2l, ky_sli, ky_s1f, ky_s2f, ky_s1d, ky_s2d, ky_sr, ky_sai, ky_sasi, ky_sasl, ky_sasr, ky_svr, ky_sv, ky_sv2, ky_s1, ky_cs, ky_pop, ky_nth, ky_snt, ky_obj, ky_ari, ky_arl, ky_arr, ky_arn, ky_fv, ky_rcv, List.map_cons, List.map_nil, List.drop_succ_cons, List.drop_zero, Value.category, Nat.reduceAdd, Nat.reduceSub, true_and, and_true, true_or, or_true, reduceCtorEq, ite_true, ite_false, eq_self, Nat.reduceEqDiff, Nat.reduceLeDiff, nI_add, nI_1, nI_leI, nI_ltI, nI_eq, nI_clamp, kz_m1, kz_mn, kz_mn2, kz_n0, kz_0n, kz_0, kz_le0, kz_0lt, false_implies, true_implies, not_false_eq_true, not_true_eq_false, Nat.zero_le, kb_0, kz_10, kz_of, ky_sw, kz_mx, kz_mi, mh5, kz_up, kI_ne ha, h173, u2, kz_c0]) | (refine ⟨vp_in_nI (by omega) (by omega), ?_⟩) | (refine ⟨fun zc => ?_, fun zc => ?_⟩ <;> try (exfalso; omega)) | fail)
      (first | exact hh | exact ⟨by decide, hh⟩)
    · have hh := hup 1 rfl
      repeat' (first | (refine ⟨vp_in_nI (n := 0) (by omega) (by omega), ?_⟩) | (refine ky_ok_stp rfl ?_; simp (disch := first | omega | assumption) only [ky_stp, ky_inv, ky_ldi, ky_ldl, ky_ldd, ky_lda, ky_cl2, ky_st1, ky_st2, ky_s1i, ky_s2i, ky_s1l, ky_s2l, ky_sli, ky_s1f, ky_s2f, ky_s1d, ky_s2d, ky_sr, ky_sai, ky_sasi, ky_sasl, ky_sasr, ky_svr, ky_sv, ky_sv2, ky_s1, ky_cs, ky_pop, ky_nth, ky_snt, ky_obj, ky_ari, ky_arl, ky_arr, ky_arn, ky_fv, ky_rcv, List.map_cons, List.map_nil, List.drop_succ_cons, List.drop_zero, Value.category, Nat.reduceAdd, Nat.reduceSub, true_and, and_true, true_or, or_true, reduceCtorEq, ite_true, ite_false, eq_self, Nat.reduceEqDiff, Nat.reduceLeDiff, nI_add, nI_1, nI_leI, nI_ltI, nI_eq, nI_clamp, kz_m1, kz_mn, kz_mn2, kz_n0, kz_0n, kz_0, kz_le0, kz_0lt, false_implies, true_implies, not_false_eq_true, not_true_eq_false, Nat.zero_le, kb_0, kz_10, kz_of, ky_sw, kz_mx, kz_mi, mh5, kz_up, kI_ne ha, h173, u2, kz_c0]) | (refine ⟨vp_in_nI (by omega) (by omega), ?_⟩) | (refine ⟨fun zc => ?_, fun zc => ?_⟩ <;> try (exfalso; omega)) | fail)
      (first | exact hh | exact ⟨by decide, hh⟩)
  -- behind the first word
  have stC : ∀ f3 g3 R3 p1 l w s3, kMt a f3 g3 L c → s3 ≤ L → kTq g3 c L s3 → f3 (a 173) = some (.inl (1, 388, .inl R3)) → kWd w → R3 (28 + 6 * z.n) = nI l → R3 (28 + 6 * z.n + 3) = kHf w 0 → R3 (28 + 6 * z.n + 4) = kHf w 4 → (∀ t, (t < 28 + 6 * z.n ∨ 28 + 6 * z.n + 5 ≤ t) → R3 t = r t) → k01 p1 → (∀ j, j < 4 ∨ 10 < j → g3 j = g j) → kfr a f f3 (fun j => j = 170 ∨ j = 173) → kGQ a f g L c (kNx c L kwF s3) (kZh z w l p1 (if kTw c L s3 = kwF then 1 else 0)) Q → ky_ok adK 215 198 [some (.ref (a 170)), some (.int (nI z.n)), some (.int (nI (kGl z))), some (.int (nI l)), some (.int (nI (28 + 6 * z.n)))] [.int p1, .int (nI (28 + 6 * z.n + 1)), .ref (a 173)] f3 0 0 Q := by
    intro f3 g3 R3 p1 l w s3 hM3 hs3 hT3 h173 hw q0 q3 q4 qo hp1 hg hF hq
    have mh3 := hM3.1
    unfold kMo at mh3
    have cont : ∀ v : Int32, v = p1 → ∀ f4, f4 = ky_up f3 (a 173) (.inl (1, 388, .inl (upd R3 (28 + 6 * z.n + 1) v))) → kPQ a f4 g3 L c (fun g' => kTq g' c L (kNx c L kwF s3) ∧ g' 10 = g3 10) (fun o f' => o = .inl (some (.int (if kTw c L s3 = kwF then 1 else 0))) → ky_ok adK 215 221 [some (.ref (a 170)), some (.int (nI z.n)), some (.int (nI (kGl z))), some (.int (nI l)), some (.int (nI (28 + 6 * z.n)))] [.int (if kTw c L s3 = kwF then 1 else 0), .int (nI (28 + 6 * z.n + 2)), .ref (a 173)] f' 0 0 Q) (some (.int (if kTw c L s3 = kwF then 1 else 0))) := by
      rintro v rfl f4 rfl f5 g5 w1 w2 w3 w4 -
      refine stD f5 g5 (upd R3 (28 + 6 * z.n + 1) v) v _ l w _ w1 w2.1 ((w4 173 (by omega)).trans kz_same) hw ?_ pk_us ?_ ?_ (fun t ht => by rw [pk_un (by omega)]; exact qo t ht) kp01 (fun j hj => (w3 j hj).trans (hg j hj)) (kfr_tr (kfr_up ha hF (Or.inr rfl)) w4 fun j hj => ⟨hj, fun w => hj (Or.inl w)⟩) hq
      · rw [pk_un (by omega)]; exact q0
      · rw [pk_un (by omega)]; exact q3
      · rw [pk_un (by omega)]; exact q4
    rcases hp1 with rfl | rfl
    · have hh := cont 0 rfl _ rfl
      repeat' (first | (refine kx205 (t := 1) (W := kwF) ha (kMt_u ha hM3) hs3 hT3 (by decide) rfl (by decide) (by decide) ?_) | (refine ky_ok_stp rfl ?_; simp (disch := first | omega | assumption) only [ky_stp, ky_inv, ky_ldi, ky_ldl, ky_ldd, ky_lda, ky_cl2, ky_st1, ky_st2, ky_s1i, ky_s2i, ky_s1l, ky_s2l, ky_sli, ky_s1f, ky_s2f, ky_s1d, ky_s2d, ky_sr, ky_sai, ky_sasi, ky_sasl, ky_sasr, ky_svr, ky_sv, ky_sv2, ky_s1, ky_cs, ky_pop, ky_nth, ky_snt, ky_obj, ky_ari, ky_arl, ky_arr, ky_arn, ky_fv, ky_rcv, List.map_cons, List.map_nil, List.drop_succ_cons, List.drop_zero, Value.category, Nat.reduceAdd, Nat.reduceSub, true_and, and_true, true_or, or_true, reduceCtorEq, ite_true, ite_false, eq_self, Nat.reduceEqDiff, Nat.reduceLeDiff, nI_add, nI_1, nI_leI, nI_ltI, nI_eq, nI_clamp, kz_m1, kz_mn, kz_mn2, kz_n0, kz_0n, kz_0, kz_le0, kz_0lt, false_implies, true_implies, not_false_eq_true, not_true_eq_false, Nat.zero_le, kb_0, kz_10, kz_of, ky_sw, kz_mx, kz_mi, mh3, kz_up, kI_ne ha, h173, e2]) | (refine ⟨vp_in_nI (by omega) (by omega), ?_⟩) | (refine ⟨fun zc => ?_, fun zc => ?_⟩ <;> try (exfalso; omega)) | fail)
      intro f5 g5 w1 w2 w3 w4
      (try simp only [ky_aft, ky_vl, Nat.reduceAdd])
      exact hh f5 g5 w1 w2 w3 w4 rfl
    · have hh := cont 1 rfl _ rfl
      repeat' (first | (refine kx205 (t := 1) (W := kwF) ha (kMt_u ha hM3) hs3 hT3 (by decide) rfl (by decide) (by decide) ?_) | (refine ky_ok_stp rfl ?_; simp (disch := first | omega | assumption) only [ky_stp, ky_inv, ky_ldi, ky_ldl, ky_ldd, ky_lda, ky_cl2, ky_st1, ky_st2, ky_s1i, ky_s2i, ky_s1l, ky_s2l, ky_sli, ky_s1f, ky_s2f, ky_s1d, ky_s2d, ky_sr, ky_sai, ky_sasi, ky_sasl, ky_sasr, ky_svr, ky_sv, ky_sv2, ky_s1, ky_cs, ky_pop, ky_nth, ky_snt, ky_obj, ky_ari, ky_arl, ky_arr, ky_arn, ky_fv, ky_rcv, List.map_cons, List.map_nil, List.drop_succ_cons, List.drop_zero, Value.category, Nat.reduceAdd, Nat.reduceSub, true_and, and_true, true_or, or_true, reduceCtorEq, ite_true, ite_false, eq_self, Nat.reduceEqDiff, Nat.reduceLeDiff, nI_add, nI_1, nI_leI, nI_ltI, nI_eq, nI_clamp, kz_m1, kz_mn, kz_mn2, kz_n0, kz_0n, kz_0, kz_le0, kz_0lt, false_implies, true_implies, not_false_eq_true, not_true_eq_false, Nat.zero_le, kb_0, kz_10, kz_of, ky_sw, kz_mx, kz_mi, mh3, kz_up, kI_ne ha, h173, e2]) | (refine ⟨vp_in_nI (by omega) (by omega), ?_⟩) | (refine ⟨fun zc => ?_, fun zc => ?_⟩ <;> try (exfalso; omega)) | fail)
      intro f5 g5 w1 w2 w3 w4
      (try simp only [ky_aft, ky_vl, Nat.reduceAdd])
      exact hh f5 g5 w1 w2 w3 w4 rfl
  -- behind the stars
  have tail : ∀ f1 g1 l st, kMt a f1 g1 L c → kTq g1 c L st → st ≤ L → l ≤ 6 → kSr c L (kGl z + 1) 7 0 s = (0, l, st) → ¬ kTk c L st = 3 → (∀ j, j < 4 ∨ 10 < j → g1 j = g j) → kfr a f f1 (fun j => j = 170) → ky_ok adK 215 89 [some (.ref (a 170)), some (.int (nI z.n)), some (.int (nI (kGl z))), some (.int (nI l)), none] [] f1 0 0 Q := by
    intro f1 g1 l st hM1 hT1 hst hl hS hk hg hF
    rw [hS] at h3 h4
    have mh1 := hM1.1
    unfold kMo at mh1
    have hr1 : f1 (a 173) = _ := (hF 173 (by decide)).trans hr
    have hte := kTe_le (c := c) hst
    obtain ⟨q4, q5, q6, -⟩ := hT1.1
    have hL7 := hM1.2.2.1
    have hk5 := kTk_5 c L st
    obtain ⟨m0, hm0⟩ : ∃ m0, kTe c L st = st + m0 := ⟨kTe c L st - st, by omega⟩
    have e9 : nI (st + m0) - nI st = nI m0 := by rw [nI_sub (by omega), Nat.add_sub_cancel_left]
    have hTe := kTw_e (c := c) hst
    rw [hm0, Nat.add_sub_cancel_left] at hTe
    rw [hm0] at q5
    have e11 : (nI 1 = (1 : Int32)) = True := eq_true rfl
    by_cases hw : kTw c L st = []
    · have hq := kPQ_tr (h3 hn rfl hw) hg hF
      have hw' := hTe.mp hw
      by_cases hk1 : kTk c L st = 1
      · repeat' (first | (refine kx206 (w := 1) ha hM1 hT1.2.1 q4 ?_) | (refine ky_ok_stp rfl ?_; simp (disch := first | omega | assumption) only [ky_stp, ky_inv, ky_ldi, ky_ldl, ky_ldd, ky_lda, ky_cl2, ky_st1, ky_st2, ky_s1i, ky_s2i, ky_s1l, ky_s2l, ky_sli, ky_s1f, ky_s2f, ky_s1d, ky_s2d, ky_sr, ky_sai, ky_sasi, ky_sasl, ky_sasr, ky_svr, ky_sv, ky_sv2, ky_s1, ky_cs, ky_pop, ky_nth, ky_snt, ky_obj, ky_ari, ky_arl, ky_arr, ky_arn, ky_fv, ky_rcv, List.map_cons, List.map_nil, List.drop_succ_cons, List.drop_zero, Value.category, Nat.reduceAdd, Nat.reduceSub, true_and, and_true, true_or, or_true, reduceCtorEq, ite_true, ite_false, eq_self, Nat.reduceEqDiff, Nat.reduceLeDiff, nI_add, nI_1, nI_leI, nI_ltI, nI_eq, nI_clamp, kz_m1, kz_mn, kz_mn2, kz_n0, kz_0n, kz_0, kz_le0, kz_0lt, false_implies, true_implies, not_false_eq_true, not_true_eq_false, Nat.zero_le, kb_0, kz_10, kz_of, ky_sw, kz_mx, kz_mi, mh1, q4, q5, q6, e8, e9, hk1, e11, eq_false (show ¬ m0 ≤ 8 from fun w => hw' ⟨hk1, w⟩)]) | (refine ⟨vp_in_nI (by omega) (by omega), ?_⟩) | (refine ⟨fun zc => ?_, fun zc => ?_⟩ <;> try (exfalso; omega)) | fail)
        intro f' g' w1 w2 w3 w4
        (try simp only [ky_aft, ky_vl, Nat.reduceAdd])
        repeat' (first | (refine ky_ok_stp rfl ?_; simp (disch := first | omega | assumption) only [ky_stp, ky_inv, ky_ldi, ky_ldl, ky_ldd, ky_lda, ky_cl2, ky_st1, ky_st2, ky_s1i, ky_s2i, ky_s1l, ky_s2l, ky_sli, ky_s1f, ky_s2f, ky_s1d, ky_s2d, ky_sr, ky_sai, ky_sasi, ky_sasl, ky_sasr, ky_svr, ky_sv, ky_sv2, ky_s1, ky_cs, ky_pop, ky_nth, ky_snt, ky_obj, ky_ari, ky_arl, ky_arr, ky_arn, ky_fv, ky_rcv, List.map_cons, List.map_nil, List.drop_succ_cons, List.drop_zero, Value.category, Nat.reduceAdd, Nat.reduceSub, true_and, and_true, true_or, or_true, reduceCtorEq, ite_true, ite_false, eq_self, Nat.reduceEqDiff, Nat.reduceLeDiff, nI_add, nI_1, nI_leI, nI_ltI, nI_eq, nI_clamp, kz_m1, kz_mn, kz_mn2, kz_n0, kz_0n, kz_0, kz_le0, kz_0lt, false_implies, true_implies, not_false_eq_true, not_true_eq_false, Nat.zero_le, kb_0, kz_10, kz_of, ky_sw, kz_mx, kz_mi]) | (refine ⟨vp_in_nI (by omega) (by omega), ?_⟩) | (refine ⟨fun zc => ?_, fun zc => ?_⟩ <;> try (exfalso; omega)) | fail)
        (first | exact hq f' g' w1 w2 w3 w4 | exact ⟨by decide, hq f' g' w1 w2 w3 w4⟩)
      · have e6' : (nI (kTk c L st) = 1) = False := by rw [show (1 : Int32) = nI 1 from rfl, nI_eq (by omega) (by omega)]; exact eq_false hk1
        repeat' (first | (refine kx206 (w := 1) ha hM1 hT1.2.1 q4 ?_) | (refine ky_ok_stp rfl ?_; simp (disch := first | omega | assumption) only [ky_stp, ky_inv, ky_ldi, ky_ldl, ky_ldd, ky_lda, ky_cl2, ky_st1, ky_st2, ky_s1i, ky_s2i, ky_s1l, ky_s2l, ky_sli, ky_s1f, ky_s2f, ky_s1d, ky_s2d, ky_sr, ky_sai, ky_sasi, ky_sasl, ky_sasr, ky_svr, ky_sv, ky_sv2, ky_s1, ky_cs, ky_pop, ky_nth, ky_snt, ky_obj, ky_ari, ky_arl, ky_arr, ky_arn, ky_fv, ky_rcv, List.map_cons, List.map_nil, List.drop_succ_cons, List.drop_zero, Value.category, Nat.reduceAdd, Nat.reduceSub, true_and, and_true, true_or, or_true, reduceCtorEq, ite_true, ite_false, eq_self, Nat.reduceEqDiff, Nat.reduceLeDiff, nI_add, nI_1, nI_leI, nI_ltI, nI_eq, nI_clamp, kz_m1, kz_mn, kz_mn2, kz_n0, kz_0n, kz_0, kz_le0, kz_0lt, false_implies, true_implies, not_false_eq_true, not_true_eq_false, Nat.zero_le, kb_0, kz_10, kz_of, ky_sw, kz_mx, kz_mi, mh1, q4, q5, q6, e6']) | (refine ⟨vp_in_nI (by omega) (by omega), ?_⟩) | (refine ⟨fun zc => ?_, fun zc => ?_⟩ <;> try (exfalso; omega)) | fail)
        intro f' g' w1 w2 w3 w4
        (try simp only [ky_aft, ky_vl, Nat.reduceAdd])
        repeat' (first | (refine ky_ok_stp rfl ?_; simp (disch := first | omega | assumption) only [ky_stp, ky_inv, ky_ldi, ky_ldl, ky_ldd, ky_lda, ky_cl2, ky_st1, ky_st2, ky_s1i, ky_s2i, ky_s1l, ky_s2l, ky_sli, ky_s1f, ky_s2f, ky_s1d, ky_s2d, ky_sr, ky_sai, ky_sasi, ky_sasl, ky_sasr, ky_svr, ky_sv, ky_sv2, ky_s1, ky_cs, ky_pop, ky_nth, ky_snt, ky_obj, ky_ari, ky_arl, ky_arr, ky_arn, ky_fv, ky_rcv, List.map_cons, List.map_nil, List.drop_succ_cons, List.drop_zero, Value.category, Nat.reduceAdd, Nat.reduceSub, true_and, and_true, true_or, or_true, reduceCtorEq, ite_true, ite_false, eq_self, Nat.reduceEqDiff, Nat.reduceLeDiff, nI_add, nI_1, nI_leI, nI_ltI, nI_eq, nI_clamp, kz_m1, kz_mn, kz_mn2, kz_n0, kz_0n, kz_0, kz_le0, kz_0lt, false_implies, true_implies, not_false_eq_true, not_true_eq_false, Nat.zero_le, kb_0, kz_10, kz_of, ky_sw, kz_mx, kz_mi]) | (refine ⟨vp_in_nI (by omega) (by omega), ?_⟩) | (refine ⟨fun zc => ?_, fun zc => ?_⟩ <;> try (exfalso; omega)) | fail)
        (first | exact hq f' g' w1 w2 w3 w4 | exact ⟨by decide, hq f' g' w1 w2 w3 w4⟩)
    · have hq := h4 hn rfl hw
      obtain ⟨hk1, hm8⟩ : kTk c L st = 1 ∧ m0 ≤ 8 := Classical.byContradiction fun w => hw (hTe.mpr w)
      obtain ⟨hlt, hlet⟩ := kTk_lt hk1
      rw [hm0, Nat.add_sub_cancel_left] at hlet
      have ew : kTw c L st = kTl c st m0 := by rw [kTw, hm0, Nat.add_sub_cancel_left, if_pos ⟨hk1, hm8⟩]
      have hwd : kWd (kTl c st m0) := by
        refine ⟨fun w => hw (ew.trans w), by rw [kTl_len]; exact hm8, fun b hb => ?_⟩
        unfold kTl at hb
        obtain ⟨k, hk, rfl⟩ := List.mem_map.mp hb
        exact hlet k (List.mem_range.mp hk)
      have hn1 := kTn_le (c := c) hst
      rw [ew] at hq
      have z3 : ∀ v, upd r (28 + 6 * z.n) v 0 = r 0 := fun v => pk_un (by omega)
      repeat' (first | ((refine kx212 (b := st) (t := 0) (m := m0) (kMt_u ha hM1) (by omega) hlet (by decide) ?_; simp only [ky_aft, ky_vl, Nat.reduceAdd])) | ((refine kx212 (b := st) (t := 4) (m := m0) (kMt_u ha (kMt_u ha hM1)) (by omega) hlet (by decide) ?_; simp only [ky_aft, ky_vl, Nat.reduceAdd])) | (refine kx203q ha (kMt_u ha (kMt_u ha (kMt_u ha hM1))) hst hT1 ?_) | (refine ky_ok_stp rfl ?_; simp (disch := first | omega | assumption) only [ky_stp, ky_inv, ky_ldi, ky_ldl, ky_ldd, ky_lda, ky_cl2, ky_st1, ky_st2, ky_s1i, ky_s2i, ky_s1l, ky_s2l, ky_sli, ky_s1f, ky_s2f, ky_s1d, ky_s2d, ky_sr, ky_sai, ky_sasi, ky_sasl, ky_sasr, ky_svr, ky_sv, ky_sv2, ky_s1, ky_cs, ky_pop, ky_nth, ky_snt, ky_obj, ky_ari, ky_arl, ky_arr, ky_arn, ky_fv, ky_rcv, List.map_cons, List.map_nil, List.drop_succ_cons, List.drop_zero, Value.category, Nat.reduceAdd, Nat.reduceSub, true_and, and_true, true_or, or_true, reduceCtorEq, ite_true, ite_false, eq_self, Nat.reduceEqDiff, Nat.reduceLeDiff, nI_add, nI_1, nI_leI, nI_ltI, nI_eq, nI_clamp, kz_m1, kz_mn, kz_mn2, kz_n0, kz_0n, kz_0, kz_le0, kz_0lt, false_implies, true_implies, not_false_eq_true, not_true_eq_false, Nat.zero_le, kb_0, kz_10, kz_of, ky_sw, kz_mx, kz_mi, mh1, q4, q5, q6, e8, e28, kz_6, nI_mul, e9, hk1, e11, hm8, hr1, kz_up, kI_ne ha, Int32.add_zero, e3, e4]) | (refine ⟨vp_in_nI (by omega) (by omega), ?_⟩) | (refine ⟨fun zc => ?_, fun zc => ?_⟩ <;> try (exfalso; omega)) | fail)
      intro f2 g2 w1 w2 w3 w4
      (try simp only [ky_aft, ky_vl, Nat.reduceAdd])
      have mh2 := w1.1
      unfold kMo at mh2
      have h173 := (w4 173 (by omega)).trans kz_same
      have hF2 : kfr a f f2 (fun j => j = 170 ∨ j = 173) := kfr_tr (kfr_up ha (kfr_up ha (kfr_up ha (kfr_tr (T := fun j => j = 170 ∨ j = 173) hF kfr_rf fun j hj => ⟨fun w => hj (Or.inl w), fun w => w⟩) (Or.inr rfl)) (Or.inr rfl)) (Or.inr rfl)) w4 fun j hj => ⟨hj, fun w => hj (Or.inl w)⟩
      repeat' (first | (refine kx205 (t := 0) (W := kwP) ha w1 hn1.2 w2.1 (by decide) rfl (by decide) (by decide) ?_) | (refine ky_ok_stp rfl ?_; simp (disch := first | omega | assumption) only [ky_stp, ky_inv, ky_ldi, ky_ldl, ky_ldd, ky_lda, ky_cl2, ky_st1, ky_st2, ky_s1i, ky_s2i, ky_s1l, ky_s2l, ky_sli, ky_s1f, ky_s2f, ky_s1d, ky_s2d, ky_sr, ky_sai, ky_sasi, ky_sasl, ky_sasr, ky_svr, ky_sv, ky_sv2, ky_s1, ky_cs, ky_pop, ky_nth, ky_snt, ky_obj, ky_ari, ky_arl, ky_arr, ky_arn, ky_fv, ky_rcv, List.map_cons, List.map_nil, List.drop_succ_cons, List.drop_zero, Value.category, Nat.reduceAdd, Nat.reduceSub, true_and, and_true, true_or, or_true, reduceCtorEq, ite_true, ite_false, eq_self, Nat.reduceEqDiff, Nat.reduceLeDiff, nI_add, nI_1, nI_leI, nI_ltI, nI_eq, nI_clamp, kz_m1, kz_mn, kz_mn2, kz_n0, kz_0n, kz_0, kz_le0, kz_0lt, false_implies, true_implies, not_false_eq_true, not_true_eq_false, Nat.zero_le, kb_0, kz_10, kz_of, ky_sw, kz_mx, kz_mi, mh2, e28, Int32.add_zero]) | (refine ⟨vp_in_nI (by omega) (by omega), ?_⟩) | (refine ⟨fun zc => ?_, fun zc => ?_⟩ <;> try (exfalso; omega)) | fail)
      intro f3 g3 u1 u2 u3 u4
      (try simp only [ky_aft, ky_vl, Nat.reduceAdd])
      have hn2 := kNx_le (c := c) (W := kwP) hn1.2
      have hh := stC f3 g3 _ (if kTw c L (kTn c L st) = kwP then 1 else 0) l (kTl c st m0) _ u1 hn2.2 u2.1 ((u4 173 (by omega)).trans h173) hwd ?_ ?_ ?_ ?_ kp01 (fun j hj => (u3 j hj).trans ((w3 j hj).trans (hg j hj))) (kfr_tr hF2 u4 fun j hj => ⟨hj, fun w => hj (Or.inl w)⟩) hq
      · exact hh
      · rw [pk_un (by omega), pk_un (by omega), pk_us]
      · rw [pk_un (by omega), pk_us]
      · exact pk_us
      · intro t ht
        rw [pk_un (by omega), pk_un (by omega), pk_un (by omega)]
  -- the stars
  have lp : ∀ m l st f1 g1, l + m = 7 → l ≤ 6 → kSr c L (kGl z + 1) 7 0 s = kSr c L (kGl z + 1) m l st → st ≤ L → kMt a f1 g1 L c → kTq g1 c L st → (∀ j, j < 4 ∨ 10 < j → g1 j = g j) → kfr a f f1 (fun j => j = 170) → ky_ok adK 215 46 [some (.ref (a 170)), some (.int (nI z.n)), some (.int (nI (kGl z))), some (.int (nI l)), none] [] f1 0 0 Q := by
    intro m
    induction m with
    | zero => intro l st f1 g1 hl; omega
    | succ m ih =>
      intro l st f1 g1 hl hl6 hS hst hM1 hT1 hg hF
      rw [show kSr c L (kGl z + 1) (m + 1) l st = (if kTk c L st = 3 then (if 6 < l + 1 then (2, l + 1, st) else if kGl z + 1 < l + 1 then (3, l + 1, st) else kSr c L (kGl z + 1) m (l + 1) (kTn c L st)) else (0, l, st)) from rfl] at hS
      have mh1 := hM1.1
      unfold kMo at mh1
      obtain ⟨q4, q5, q6, -⟩ := hT1.1
      have hk5 := kTk_5 c L st
      by_cases hk : kTk c L st = 3
      · rw [if_pos hk] at hS
        by_cases c6 : 6 < l + 1
        · rw [if_pos c6] at hS
          rw [hS] at h2
          have hq := kPQ_tr (h2 hn (show (2 : Nat) ≠ 0 by decide)) hg hF
          repeat' (first | (refine kx206 (w := 2) ha hM1 hT1.2.1 q4 ?_) | (refine ky_ok_stp rfl ?_; simp (disch := first | omega | assumption) only [ky_stp, ky_inv, ky_ldi, ky_ldl, ky_ldd, ky_lda, ky_cl2, ky_st1, ky_st2, ky_s1i, ky_s2i, ky_s1l, ky_s2l, ky_sli, ky_s1f, ky_s2f, ky_s1d, ky_s2d, ky_sr, ky_sai, ky_sasi, ky_sasl, ky_sasr, ky_svr, ky_sv, ky_sv2, ky_s1, ky_cs, ky_pop, ky_nth, ky_snt, ky_obj, ky_ari, ky_arl, ky_arr, ky_arn, ky_fv, ky_rcv, List.map_cons, List.map_nil, List.drop_succ_cons, List.drop_zero, Value.category, Nat.reduceAdd, Nat.reduceSub, true_and, and_true, true_or, or_true, reduceCtorEq, ite_true, ite_false, eq_self, Nat.reduceEqDiff, Nat.reduceLeDiff, nI_add, nI_1, nI_leI, nI_ltI, nI_eq, nI_clamp, kz_m1, kz_mn, kz_mn2, kz_n0, kz_0n, kz_0, kz_le0, kz_0lt, false_implies, true_implies, not_false_eq_true, not_true_eq_false, Nat.zero_le, kb_0, kz_10, kz_of, ky_sw, kz_mx, kz_mi, mh1, q6, hk, e3, e6]) | (refine ⟨vp_in_nI (by omega) (by omega), ?_⟩) | (refine ⟨fun zc => ?_, fun zc => ?_⟩ <;> try (exfalso; omega)) | fail)
          intro f' g' w1 w2 w3 w4
          (try simp only [ky_aft, ky_vl, Nat.reduceAdd])
          repeat' (first | (refine ky_ok_stp rfl ?_; simp (disch := first | omega | assumption) only [ky_stp, ky_inv, ky_ldi, ky_ldl, ky_ldd, ky_lda, ky_cl2, ky_st1, ky_st2, ky_s1i, ky_s2i, ky_s1l, ky_s2l, ky_sli, ky_s1f, ky_s2f, ky_s1d, ky_s2d, ky_sr, ky_sai, ky_sasi, ky_sasl, ky_sasr, ky_svr, ky_sv, ky_sv2, ky_s1, ky_cs, ky_pop, ky_nth, ky_snt, ky_obj, ky_ari, ky_arl, ky_arr, ky_arn, ky_fv, ky_rcv, List.map_cons, List.map_nil, List.drop_succ_cons, List.drop_zero, Value.category, Nat.reduceAdd, Nat.reduceSub, true_and, and_true, true_or, or_true, reduceCtorEq, ite_true, ite_false, eq_self, Nat.reduceEqDiff, Nat.reduceLeDiff, nI_add, nI_1, nI_leI, nI_ltI, nI_eq, nI_clamp, kz_m1, kz_mn, kz_mn2, kz_n0, kz_0n, kz_0, kz_le0, kz_0lt, false_implies, true_implies, not_false_eq_true, not_true_eq_false, Nat.zero_le, kb_0, kz_10, kz_of, ky_sw, kz_mx, kz_mi]) | (refine ⟨vp_in_nI (by omega) (by omega), ?_⟩) | (refine ⟨fun zc => ?_, fun zc => ?_⟩ <;> try (exfalso; omega)) | fail)
          (first | exact hq f' g' w1 w2 w3 w4 | exact ⟨by decide, hq f' g' w1 w2 w3 w4⟩)
        · rw [if_neg c6] at hS
          by_cases cg : kGl z + 1 < l + 1
          · rw [if_pos cg] at hS
            rw [hS] at h2
            have hq := kPQ_tr (h2 hn (show (3 : Nat) ≠ 0 by decide)) hg hF
            repeat' (first | (refine kx206 (w := 3) ha hM1 hT1.2.1 q4 ?_) | (refine ky_ok_stp rfl ?_; simp (disch := first | omega | assumption) only [ky_stp, ky_inv, ky_ldi, ky_ldl, ky_ldd, ky_lda, ky_cl2, ky_st1, ky_st2, ky_s1i, ky_s2i, ky_s1l, ky_s2l, ky_sli, ky_s1f, ky_s2f, ky_s1d, ky_s2d, ky_sr, ky_sai, ky_sasi, ky_sasl, ky_sasr, ky_svr, ky_sv, ky_sv2, ky_s1, ky_cs, ky_pop, ky_nth, ky_snt, ky_obj, ky_ari, ky_arl, ky_arr, ky_arn, ky_fv, ky_rcv, List.map_cons, List.map_nil, List.drop_succ_cons, List.drop_zero, Value.category, Nat.reduceAdd, Nat.reduceSub, true_and, and_true, true_or, or_true, reduceCtorEq, ite_true, ite_false, eq_self, Nat.reduceEqDiff, Nat.reduceLeDiff, nI_add, nI_1, nI_leI, nI_ltI, nI_eq, nI_clamp, kz_m1, kz_mn, kz_mn2, kz_n0, kz_0n, kz_0, kz_le0, kz_0lt, false_implies, true_implies, not_false_eq_true, not_true_eq_false, Nat.zero_le, kb_0, kz_10, kz_of, ky_sw, kz_mx, kz_mi, mh1, q6, hk, e3, e6]) | (refine ⟨vp_in_nI (by omega) (by omega), ?_⟩) | (refine ⟨fun zc => ?_, fun zc => ?_⟩ <;> try (exfalso; omega)) | fail)
            intro f' g' w1 w2 w3 w4
            (try simp only [ky_aft, ky_vl, Nat.reduceAdd])
            repeat' (first | (refine ky_ok_stp rfl ?_; simp (disch := first | omega | assumption) only [ky_stp, ky_inv, ky_ldi, ky_ldl, ky_ldd, ky_lda, ky_cl2, ky_st1, ky_st2, ky_s1i, ky_s2i, ky_s1l, ky_s2l, ky_sli, ky_s1f, ky_s2f, ky_s1d, ky_s2d, ky_sr, ky_sai, ky_sasi, ky_sasl, ky_sasr, ky_svr, ky_sv, ky_sv2, ky_s1, ky_cs, ky_pop, ky_nth, ky_snt, ky_obj, ky_ari, ky_arl, ky_arr, ky_arn, ky_fv, ky_rcv, List.map_cons, List.map_nil, List.drop_succ_cons, List.drop_zero, Value.category, Nat.reduceAdd, Nat.reduceSub, true_and, and_true, true_or, or_true, reduceCtorEq, ite_true, ite_false, eq_self, Nat.reduceEqDiff, Nat.reduceLeDiff, nI_add, nI_1, nI_leI, nI_ltI, nI_eq, nI_clamp, kz_m1, kz_mn, kz_mn2, kz_n0, kz_0n, kz_0, kz_le0, kz_0lt, false_implies, true_implies, not_false_eq_true, not_true_eq_false, Nat.zero_le, kb_0, kz_10, kz_of, ky_sw, kz_mx, kz_mi]) | (refine ⟨vp_in_nI (by omega) (by omega), ?_⟩) | (refine ⟨fun zc => ?_, fun zc => ?_⟩ <;> try (exfalso; omega)) | fail)
            (first | exact hq f' g' w1 w2 w3 w4 | exact ⟨by decide, hq f' g' w1 w2 w3 w4⟩)
          · rw [if_neg cg] at hS
            have hi := fun f' g' w1 w2 w3 w4 => ih (l + 1) (kTn c L st) f' g' (by omega) (by omega) hS (kTn_le (c := c) hst).2 w1 w2 w3 w4
            repeat' (first | (refine kx203q ha hM1 hst hT1 ?_) | (refine ky_ok_stp rfl ?_; simp (disch := first | omega | assumption) only [ky_stp, ky_inv, ky_ldi, ky_ldl, ky_ldd, ky_lda, ky_cl2, ky_st1, ky_st2, ky_s1i, ky_s2i, ky_s1l, ky_s2l, ky_sli, ky_s1f, ky_s2f, ky_s1d, ky_s2d, ky_sr, ky_sai, ky_sasi, ky_sasl, ky_sasr, ky_svr, ky_sv, ky_sv2, ky_s1, ky_cs, ky_pop, ky_nth, ky_snt, ky_obj, ky_ari, ky_arl, ky_arr, ky_arn, ky_fv, ky_rcv, List.map_cons, List.map_nil, List.drop_succ_cons, List.drop_zero, Value.category, Nat.reduceAdd, Nat.reduceSub, true_and, and_true, true_or, or_true, reduceCtorEq, ite_true, ite_false, eq_self, Nat.reduceEqDiff, Nat.reduceLeDiff, nI_add, nI_1, nI_leI, nI_ltI, nI_eq, nI_clamp, kz_m1, kz_mn, kz_mn2, kz_n0, kz_0n, kz_0, kz_le0, kz_0lt, false_implies, true_implies, not_false_eq_true, not_true_eq_false, Nat.zero_le, kb_0, kz_10, kz_of, ky_sw, kz_mx, kz_mi, mh1, q6, hk, e3, e6]) | (refine ⟨vp_in_nI (by omega) (by omega), ?_⟩) | (refine ⟨fun zc => ?_, fun zc => ?_⟩ <;> try (exfalso; omega)) | fail)
            intro f' g' w1 w2 w3 w4
            (try simp only [ky_aft, ky_vl, Nat.reduceAdd])
            have hi2 := hi f' g' w1 w2.1 (fun j hj => (w3 j hj).trans (hg j hj)) (kfr_tr hF w4 fun j hj => ⟨hj, hj⟩)
            repeat' (first | (exact hi2) | (refine ky_ok_stp rfl ?_; simp (disch := first | omega | assumption) only [ky_stp, ky_inv, ky_ldi, ky_ldl, ky_ldd, ky_lda, ky_cl2, ky_st1, ky_st2, ky_s1i, ky_s2i, ky_s1l, ky_s2l, ky_sli, ky_s1f, ky_s2f, ky_s1d, ky_s2d, ky_sr, ky_sai, ky_sasi, ky_sasl, ky_sasr, ky_svr, ky_sv, ky_sv2, ky_s1, ky_cs, ky_pop, ky_nth, ky_snt, ky_obj, ky_ari, ky_arl, ky_arr, ky_arn, ky_fv, ky_rcv, List.map_cons, List.map_nil, List.drop_succ_cons, List.drop_zero, Value.category, Nat.reduceAdd, Nat.reduceSub, true_and, and_true, true_or, or_true, reduceCtorEq, ite_true, ite_false, eq_self, Nat.reduceEqDiff, Nat.reduceLeDiff, nI_add, nI_1, nI_leI, nI_ltI, nI_eq, nI_clamp, kz_m1, kz_mn, kz_mn2, kz_n0, kz_0n, kz_0, kz_le0, kz_0lt, false_implies, true_implies, not_false_eq_true, not_true_eq_false, Nat.zero_le, kb_0, kz_10, kz_of, ky_sw, kz_mx, kz_mi]) | (refine ⟨vp_in_nI (by omega) (by omega), ?_⟩) | (refine ⟨fun zc => ?_, fun zc => ?_⟩ <;> try (exfalso; omega)) | fail)
      · rw [if_neg hk] at hS
        have ht := tail f1 g1 l st hM1 hT1 hst hl6 hS hk hg hF
        repeat' (first | (exact ht) | (refine ky_ok_stp rfl ?_; simp (disch := first | omega | assumption) only [ky_stp, ky_inv, ky_ldi, ky_ldl, ky_ldd, ky_lda, ky_cl2, ky_st1, ky_st2, ky_s1i, ky_s2i, ky_s1l, ky_s2l, ky_sli, ky_s1f, ky_s2f, ky_s1d, ky_s2d, ky_sr, ky_sai, ky_sasi, ky_sasl, ky_sasr, ky_svr, ky_sv, ky_sv2, ky_s1, ky_cs, ky_pop, ky_nth, ky_snt, ky_obj, ky_ari, ky_arl, ky_arr, ky_arn, ky_fv, ky_rcv, List.map_cons, List.map_nil, List.drop_succ_cons, List.drop_zero, Value.category, Nat.reduceAdd, Nat.reduceSub, true_and, and_true, true_or, or_true, reduceCtorEq, ite_true, ite_false, eq_self, Nat.reduceEqDiff, Nat.reduceLeDiff, nI_add, nI_1, nI_leI, nI_ltI, nI_eq, nI_clamp, kz_m1, kz_mn, kz_mn2, kz_n0, kz_0n, kz_0, kz_le0, kz_0lt, false_implies, true_implies, not_false_eq_true, not_true_eq_false, Nat.zero_le, kb_0, kz_10, kz_of, ky_sw, kz_mx, kz_mi, mh1, q6, e3, eq_false hk]) | (refine ⟨vp_in_nI (by omega) (by omega), ?_⟩) | (refine ⟨fun zc => ?_, fun zc => ?_⟩ <;> try (exfalso; omega)) | fail)
  have hl := lp 7 0 s f g rfl (by omega) rfl hs hM hT (fun _ _ => rfl) kfr_rf
  by_cases hn0 : z.n = 0
  · have eg : kGl z = 0 := if_pos hn0
    rw [eg, hn0] at hl
    rw [hn0] at r0
    refine ⟨Nat.le_of_ble_eq_true rfl, fun z => absurd z (by decide), ?_⟩; show ky_ok adK 215 0 [some (.ref (a 170)), none, none, none, none] [] f 0 0 _
    repeat' (first | (refine ⟨vp_in_nI (n := 0) (by omega) (by omega), ?_⟩) | (exact hl) | (refine ky_ok_stp rfl ?_; simp (disch := first | omega | assumption) only [ky_stp, ky_inv, ky_ldi, ky_ldl, ky_ldd, ky_lda, ky_cl2, ky_st1, ky_st2, ky_s1i, ky_s2i, ky_s1l, ky_s2l, ky_sli, ky_s1f, ky_s2f, ky_s1d, ky_s2d, ky_sr, ky_sai, ky_sasi, ky_sasl, ky_sasr, ky_svr, ky_sv, ky_sv2, ky_s1, ky_cs, ky_pop, ky_nth, ky_snt, ky_obj, ky_ari, ky_arl, ky_arr, ky_arn, ky_fv, ky_rcv, List.map_cons, List.map_nil, List.drop_succ_cons, List.drop_zero, Value.category, Nat.reduceAdd, Nat.reduceSub, true_and, and_true, true_or, or_true, reduceCtorEq, ite_true, ite_false, eq_self, Nat.reduceEqDiff, Nat.reduceLeDiff, nI_add, nI_1, nI_leI, nI_ltI, nI_eq, nI_clamp, kz_m1, kz_mn, kz_mn2, kz_n0, kz_0n, kz_0, kz_le0, kz_0lt, false_implies, true_implies, not_false_eq_true, not_true_eq_false, Nat.zero_le, kb_0, kz_10, kz_of, ky_sw, kz_mx, kz_mi, mh, hr, kz_c0, r0, e60]) | (refine ⟨vp_in_nI (by omega) (by omega), ?_⟩) | (refine ⟨fun zc => ?_, fun zc => ?_⟩ <;> try (exfalso; omega)) | fail)
  · have eg : kGl z = kV z.R (z.n - 1) := if_neg hn0
    have hrl : r (28 + 6 * (z.n - 1)) = nI (kGl z) := by
      rw [(hR.2.1 (z.n - 1) (by omega)).1, eg]
      exact (ho.lv _ (by omega)).1
    have e1s : nI z.n - nI 1 = nI (z.n - 1) := nI_sub (by omega)
    refine ⟨Nat.le_of_ble_eq_true rfl, fun z => absurd z (by decide), ?_⟩; show ky_ok adK 215 0 [some (.ref (a 170)), none, none, none, none] [] f 0 0 _
    repeat' (first | (refine ⟨vp_in_nI (n := 0) (by omega) (by omega), ?_⟩) | (exact hl) | (refine ky_ok_stp rfl ?_; simp (disch := first | omega | assumption) only [ky_stp, ky_inv, ky_ldi, ky_ldl, ky_ldd, ky_lda, ky_cl2, ky_st1, ky_st2, ky_s1i, ky_s2i, ky_s1l, ky_s2l, ky_sli, ky_s1f, ky_s2f, ky_s1d, ky_s2d, ky_sr, ky_sai, ky_sasi, ky_sasl, ky_sasr, ky_svr, ky_sv, ky_sv2, ky_s1, ky_cs, ky_pop, ky_nth, ky_snt, ky_obj, ky_ari, ky_arl, ky_arr, ky_arn, ky_fv, ky_rcv, List.map_cons, List.map_nil, List.drop_succ_cons, List.drop_zero, Value.category, Nat.reduceAdd, Nat.reduceSub, true_and, and_true, true_or, or_true, reduceCtorEq, ite_true, ite_false, eq_self, Nat.reduceEqDiff, Nat.reduceLeDiff, nI_add, nI_1, nI_leI, nI_ltI, nI_eq, nI_clamp, kz_m1, kz_mn, kz_mn2, kz_n0, kz_0n, kz_0, kz_le0, kz_0lt, false_implies, true_implies, not_false_eq_true, not_true_eq_false, Nat.zero_le, kb_0, kz_10, kz_of, ky_sw, kz_mx, kz_mi, mh, hr, kz_c0, r0, e60, e28, e1, e1s, kz_6, nI_mul, Int32.add_zero, hrl, eq_false hn0, eq_false hn]) | (refine ⟨vp_in_nI (by omega) (by omega), ?_⟩) | (refine ⟨fun zc => ?_, fun zc => ?_⟩ <;> try (exfalso; omega)) | fail)
end KXM
