-- deps: 28.read
/-! ## styles read -/
def kRf (c : Nat → Nat) (L l : Nat) (kd : Int32) (st s : Nat) : Nat × Nat × Nat × Int32 × Nat × Int32 × Int32 :=
  (if kTk c L (kNx c L kwN (kNx c L kwO s)) = 4 then 0 else 1, if kTk c L (kNx c L kwN (kNx c L kwO s)) = 4 then kTn c L (kNx c L kwN (kNx c L kwO s)) else kNx c L kwN (kNx c L kwO s), l, kd, st, if kTw c L s = kwO then 1 else 0, if kTw c L (kNx c L kwO s) = kwN then 1 else 0)
/-- a style's text: error, place, level, style, start, own, on -/
def kRy (c : Nat → Nat) (L s : Nat) : Nat × Nat × Nat × Int32 × Nat × Int32 × Int32 :=
  if ¬ kTw c L s = kwS then (1, s, 0, 0, 0, 0, 0)
  else if ¬ kTk c L (kTn c L s) = 2 then (1, kTn c L s, 0, 0, 0, 0, 0)
  else if kTv c L (kTn c L s) < 1 ∨ 6 < kTv c L (kTn c L s) then (2, kTn c L s, 0, 0, 0, 0, 0)
  else if kIw kWst (kTw c L (kTn c L (kTn c L s))) 0 = -1 then (1, kTn c L (kTn c L s), 0, 0, 0, 0, 0)
  else if kTw c L (kTn c L (kTn c L (kTn c L s))) = kwM then
    (if ¬ kTk c L (kTn c L (kTn c L (kTn c L (kTn c L s)))) = 2 then (1, kTn c L (kTn c L (kTn c L (kTn c L s))), 0, 0, 0, 0, 0)
    else if kTv c L (kTn c L (kTn c L (kTn c L (kTn c L s)))) < 1 ∨ 99 < kTv c L (kTn c L (kTn c L (kTn c L (kTn c L s)))) then (2, kTn c L (kTn c L (kTn c L (kTn c L s))), 0, 0, 0, 0, 0)
    else kRf c L (kTv c L (kTn c L s)) (kIw kWst (kTw c L (kTn c L (kTn c L s))) 0) (kTv c L (kTn c L (kTn c L (kTn c L (kTn c L s))))) (kTn c L (kTn c L (kTn c L (kTn c L (kTn c L s))))))
  else kRf c L (kTv c L (kTn c L s)) (kIw kWst (kTw c L (kTn c L (kTn c L s))) 0) 1 (kTn c L (kTn c L (kTn c L s)))
theorem kIw_r : ∀ (Ws : List (List Nat)) (w : List Nat) (i : Nat), kIw Ws w i = -1 ∨ ∃ j, i ≤ j ∧ j < i + Ws.length ∧ kIw Ws w i = nI j
  | [], w, i => Or.inl rfl
  | W :: r, w, i => by
    rw [kIw]
    by_cases e : w = W
    · rw [if_pos e]; exact Or.inr ⟨i, Nat.le_refl _, by simp, rfl⟩
    · rw [if_neg e]
      rcases kIw_r r w (i + 1) with h | ⟨j, h1, h2, h3⟩
      · exact Or.inl h
      · exact Or.inr ⟨j, by omega, by rw [List.length_cons]; omega, h3⟩
theorem kTv_le (c : Nat → Nat) (L s : Nat) : kTv c L s ≤ 1000 := by
  unfold kTv; split
  · exact kVc_le c _ _ _ (by decide)
  · omega
def kSw (S : Nat → Nat → Int32) (r : Nat × Nat × Nat × Int32 × Nat × Int32 × Int32) : Nat → Nat → Int32 := ksu (ksu (ksu (ksu S 0 r.2.2.1 r.2.2.2.1) 1 r.2.2.1 (nI r.2.2.2.2.1)) 2 r.2.2.1 r.2.2.2.2.2.1) 3 r.2.2.1 r.2.2.2.2.2.2
section KXY
variable {adK a : Nat → Nat} {L s t n g : Nat} {f : ky_H} {c : Nat → Nat} {Q : ky_Q} {W : List Nat} {R : Nat → kR} {G : Nat → Int32} {S : Nat → Nat → Int32}
theorem kp01 {p : Prop} [Decidable p] : k01 (if p then 1 else 0) := by
  by_cases h : p
  · rw [if_pos h]; exact Or.inr rfl
  · rw [if_neg h]; exact Or.inl rfl
theorem kx87y (ha : kI a) (hB : kB a 40 f 700 L c) (hs : s ≤ L) (ht : t < ky_tx.length) (he : ky_tx.getD t [] = W) (hW : ([W].all fun w => decide (w.length ≤ 8) && w.all fun b => decide (0 < b ∧ b < 256 ∧ b ≠ 32)) = true) (hl : ((ky_tx.getD t []).all fun b => decide (b < 256)) = true) (hln : (ky_tx.getD t []).length < 1000) (hT : kTo a f c L s) (e : kTw c L s = W) (hQ : ∀ f', kTo a f' c L (kTn c L s) → kfr a f f' (fun j => j = 46) → Q (.inl (some (.int 1))) f') : ky_cl adK 87 [.ref (a 46), .ref (adK t)] f Q :=
  kx87 ha hB hs ht he hW hl hln hT (fun _ f' w1 w2 => hQ f' w1 w2) (fun z => absurd e z)
theorem kx87n (ha : kI a) (hB : kB a 40 f 700 L c) (hs : s ≤ L) (ht : t < ky_tx.length) (he : ky_tx.getD t [] = W) (hW : ([W].all fun w => decide (w.length ≤ 8) && w.all fun b => decide (0 < b ∧ b < 256 ∧ b ≠ 32)) = true) (hl : ((ky_tx.getD t []).all fun b => decide (b < 256)) = true) (hln : (ky_tx.getD t []).length < 1000) (hT : kTo a f c L s) (e : ¬ kTw c L s = W) (hQ : Q (.inl (some (.int 0))) f) : ky_cl adK 87 [.ref (a 46), .ref (adK t)] f Q :=
  kx87 ha hB hs ht he hW hl hln hT (fun z => absurd z e) (fun _ => hQ)
theorem kx55 (ha : kI a) (hB : kB a 40 f 700 L c) (hs : s ≤ L) (hrd : f (a 47) = some (.inr (4, [.ref (a 46)]))) (hT : kTo a f c L s) (hW : kW a 12 f n R G) (hS : kS a 12 f S)
    (hQ : ∀ f', kTo a f' c L (kRy c L s).2.1 → kfr a f f' kRF → ((kRy c L s).1 = 0 → kW a 12 f' n R G ∧ kS a 12 f' (kSw S (kRy c L s))) → (∃ z, kZb a 12 f' z) → Q (.inl (some (.int (nI (kRy c L s).1)))) f') :
    ky_cl adK 55 [.ref (a 47), .ref (a 12)] f Q := by
  have tail : ∀ f l kd st s', kRy c L s = kRf c L l kd st s' → s' ≤ L → 1 ≤ l → l ≤ 6 → kB a 40 f 700 L c → f (a 47) = some (.inr (4, [.ref (a 46)])) → kTo a f c L s' → kW a 12 f n R G → kS a 12 f S → ∀ v2,
      (∀ f', kTo a f' c L (kRy c L s).2.1 → kfr a f f' kRF → ((kRy c L s).1 = 0 → kW a 12 f' n R G ∧ kS a 12 f' (kSw S (kRy c L s))) → (∃ z, kZb a 12 f' z) → Q (.inl (some (.int (nI (kRy c L s).1)))) f') →
      ky_ok adK 55 120 [some (.ref (a 47)), some (.ref (a 12)), v2, some (.int (nI l)), some (.int kd), some (.int (nI st)), none, none] [] f 0 0 Q := by
    intro f l kd st s' e hs' l1 l6 hB hrd hT hW hS v2 hQ
    rw [e] at hQ
    have hx1 := kNx_le (c := c) (W := kwO) hs'
    have hx2 := kNx_le (c := c) (W := kwN) hx1.2
    have hT' := hT
    unfold kTo at hT'
    repeat' (first | (refine kx87c ha hB hs' (t := 5) (W := kwO) (by decide) rfl (by decide) (by decide) (by decide) hT ?_) | (refine ky_ok_stp rfl ?_; simp (disch := first | omega | assumption) only [ky_stp, ky_inv, ky_ldi, ky_ldl, ky_ldd, ky_lda, ky_cl2, ky_st1, ky_st2, ky_s1i, ky_s2i, ky_s1l, ky_s2l, ky_sli, ky_s1f, ky_s2f, ky_s1d, ky_s2d, ky_sr, ky_sai, ky_sasi, ky_sasl, ky_sasr, ky_svr, ky_sv, ky_sv2, ky_s1, ky_cs, ky_pop, ky_nth, ky_snt, ky_obj, ky_ari, ky_arl, ky_arr, ky_arn, ky_fv, ky_rcv, List.map_cons, List.map_nil, List.drop_succ_cons, List.drop_zero, Value.category, Nat.reduceAdd, Nat.reduceSub, true_and, and_true, true_or, or_true, reduceCtorEq, ite_true, ite_false, eq_self, Nat.reduceEqDiff, Nat.reduceLeDiff, nI_add, nI_1, nI_leI, nI_ltI, nI_eq, nI_clamp, kz_m1, kz_mn, kz_mn2, kz_n0, kz_0n, kz_0, kz_le0, kz_0lt, false_implies, true_implies, not_false_eq_true, not_true_eq_false, Nat.zero_le, kb_0, kz_10, kz_of, ky_sw, kz_mx, kz_mi, hrd, hT']) | (refine ⟨vp_in_nI (by omega) (by omega), ?_⟩) | (refine ⟨fun zc => ?_, fun zc => ?_⟩ <;> try (exfalso; omega)) | fail)
    intro f2 hT2 hF2
    simp only [ky_aft, ky_vl, Nat.reduceAdd]
    have hB2 := kB40 hB (kf46 hF2)
    have hrd2 : f2 (a 47) = _ := (hF2 47 (by omega)).trans hrd
    have hT2' := hT2
    unfold kTo at hT2'
    repeat' (first | (refine kx87c ha hB2 hx1.2 (t := 6) (W := kwN) (by decide) rfl (by decide) (by decide) (by decide) hT2 ?_) | (refine ky_ok_stp rfl ?_; simp (disch := first | omega | assumption) only [ky_stp, ky_inv, ky_ldi, ky_ldl, ky_ldd, ky_lda, ky_cl2, ky_st1, ky_st2, ky_s1i, ky_s2i, ky_s1l, ky_s2l, ky_sli, ky_s1f, ky_s2f, ky_s1d, ky_s2d, ky_sr, ky_sai, ky_sasi, ky_sasl, ky_sasr, ky_svr, ky_sv, ky_sv2, ky_s1, ky_cs, ky_pop, ky_nth, ky_snt, ky_obj, ky_ari, ky_arl, ky_arr, ky_arn, ky_fv, ky_rcv, List.map_cons, List.map_nil, List.drop_succ_cons, List.drop_zero, Value.category, Nat.reduceAdd, Nat.reduceSub, true_and, and_true, true_or, or_true, reduceCtorEq, ite_true, ite_false, eq_self, Nat.reduceEqDiff, Nat.reduceLeDiff, nI_add, nI_1, nI_leI, nI_ltI, nI_eq, nI_clamp, kz_m1, kz_mn, kz_mn2, kz_n0, kz_0n, kz_0, kz_le0, kz_0lt, false_implies, true_implies, not_false_eq_true, not_true_eq_false, Nat.zero_le, kb_0, kz_10, kz_of, ky_sw, kz_mx, kz_mi, hrd2, hT2']) | (refine ⟨vp_in_nI (by omega) (by omega), ?_⟩) | (refine ⟨fun zc => ?_, fun zc => ?_⟩ <;> try (exfalso; omega)) | fail)
    intro f3 hT3 hF3
    simp only [ky_aft, ky_vl, Nat.reduceAdd]
    have hB3 := kB40 hB2 (kf46 hF3)
    have hW3 := kW46 (kW46 hW hF2) hF3
    have hS3 := kS46 (kS46 hS hF2) hF3
    have hrd3 : f3 (a 47) = _ := (hF3 47 (by omega)).trans hrd2
    have y3 := kW_lv hW3
    have g3 := hS3.1
    repeat' (first | (refine kx69 ha hS3 l1 l6 ?_) | (refine ky_ok_stp rfl ?_; simp (disch := first | omega | assumption) only [ky_stp, ky_inv, ky_ldi, ky_ldl, ky_ldd, ky_lda, ky_cl2, ky_st1, ky_st2, ky_s1i, ky_s2i, ky_s1l, ky_s2l, ky_sli, ky_s1f, ky_s2f, ky_s1d, ky_s2d, ky_sr, ky_sai, ky_sasi, ky_sasl, ky_sasr, ky_svr, ky_sv, ky_sv2, ky_s1, ky_cs, ky_pop, ky_nth, ky_snt, ky_obj, ky_ari, ky_arl, ky_arr, ky_arn, ky_fv, ky_rcv, List.map_cons, List.map_nil, List.drop_succ_cons, List.drop_zero, Value.category, Nat.reduceAdd, Nat.reduceSub, true_and, and_true, true_or, or_true, reduceCtorEq, ite_true, ite_false, eq_self, Nat.reduceEqDiff, Nat.reduceLeDiff, nI_add, nI_1, nI_leI, nI_ltI, nI_eq, nI_clamp, kz_m1, kz_mn, kz_mn2, kz_n0, kz_0n, kz_0, kz_le0, kz_0lt, false_implies, true_implies, not_false_eq_true, not_true_eq_false, Nat.zero_le, kb_0, kz_10, kz_of, ky_sw, kz_mx, kz_mi, hrd3, y3, g3]) | (refine ⟨vp_in_nI (by omega) (by omega), ?_⟩) | (refine ⟨fun zc => ?_, fun zc => ?_⟩ <;> try (exfalso; omega)) | fail)
    intro f4 hS4 hF4
    simp only [ky_aft, ky_vl, Nat.reduceAdd]
    have hW4 := kW_sb hW3 hF4
    have y4 := kW_lv hW4
    have g4 := hS4.1
    repeat' (first | (refine kx70 ha hS4 l1 l6 kp01 kp01 ?_) | (refine ky_ok_stp rfl ?_; simp (disch := first | omega | assumption) only [ky_stp, ky_inv, ky_ldi, ky_ldl, ky_ldd, ky_lda, ky_cl2, ky_st1, ky_st2, ky_s1i, ky_s2i, ky_s1l, ky_s2l, ky_sli, ky_s1f, ky_s2f, ky_s1d, ky_s2d, ky_sr, ky_sai, ky_sasi, ky_sasl, ky_sasr, ky_svr, ky_sv, ky_sv2, ky_s1, ky_cs, ky_pop, ky_nth, ky_snt, ky_obj, ky_ari, ky_arl, ky_arr, ky_arn, ky_fv, ky_rcv, List.map_cons, List.map_nil, List.drop_succ_cons, List.drop_zero, Value.category, Nat.reduceAdd, Nat.reduceSub, true_and, and_true, true_or, or_true, reduceCtorEq, ite_true, ite_false, eq_self, Nat.reduceEqDiff, Nat.reduceLeDiff, nI_add, nI_1, nI_leI, nI_ltI, nI_eq, nI_clamp, kz_m1, kz_mn, kz_mn2, kz_n0, kz_0n, kz_0, kz_le0, kz_0lt, false_implies, true_implies, not_false_eq_true, not_true_eq_false, Nat.zero_le, kb_0, kz_10, kz_of, ky_sw, kz_mx, kz_mi, y4, g4]) | (refine ⟨vp_in_nI (by omega) (by omega), ?_⟩) | (refine ⟨fun zc => ?_, fun zc => ?_⟩ <;> try (exfalso; omega)) | fail)
    intro f5 hS5 hF5
    simp only [ky_aft, ky_vl, Nat.reduceAdd]
    have hW5 := kW_sb hW4 hF5
    have hT5 : kTo a f5 c L _ := kTo_rb (kTo_rb hT3 (hF4 46 (by unfold kSB; omega))) (hF5 46 (by unfold kSB; omega))
    have hB5 : kB a 40 f5 700 L c := kB_fr (kB_fr hB3 (hF4 40 (by unfold kSB; omega)) (hF4 41 (by unfold kSB; omega))) (hF5 40 (by unfold kSB; omega)) (hF5 41 (by unfold kSB; omega))
    have hrd5 : f5 (a 47) = _ := (hF5 47 (by unfold kSB; omega)).trans ((hF4 47 (by unfold kSB; omega)).trans hrd3)
    have hF4' : kfr a f3 f4 kRF := fun j hj => hF4 j (by unfold kSB; unfold kRF at hj; omega)
    have hF5' : kfr a f4 f5 kRF := fun j hj => hF5 j (by unfold kSB; unfold kRF at hj; omega)
    have hT5' := hT5
    unfold kTo at hT5'
    repeat' (first | (refine kx86c ha hB5 hx2.2 hT5 ?_) | (refine ky_ok_stp rfl ?_; simp (disch := first | omega | assumption) only [ky_stp, ky_inv, ky_ldi, ky_ldl, ky_ldd, ky_lda, ky_cl2, ky_st1, ky_st2, ky_s1i, ky_s2i, ky_s1l, ky_s2l, ky_sli, ky_s1f, ky_s2f, ky_s1d, ky_s2d, ky_sr, ky_sai, ky_sasi, ky_sasl, ky_sasr, ky_svr, ky_sv, ky_sv2, ky_s1, ky_cs, ky_pop, ky_nth, ky_snt, ky_obj, ky_ari, ky_arl, ky_arr, ky_arn, ky_fv, ky_rcv, List.map_cons, List.map_nil, List.drop_succ_cons, List.drop_zero, Value.category, Nat.reduceAdd, Nat.reduceSub, true_and, and_true, true_or, or_true, reduceCtorEq, ite_true, ite_false, eq_self, Nat.reduceEqDiff, Nat.reduceLeDiff, nI_add, nI_1, nI_leI, nI_ltI, nI_eq, nI_clamp, kz_m1, kz_mn, kz_mn2, kz_n0, kz_0n, kz_0, kz_le0, kz_0lt, false_implies, true_implies, not_false_eq_true, not_true_eq_false, Nat.zero_le, kb_0, kz_10, kz_of, ky_sw, kz_mx, kz_mi, hrd5, hT5']) | (refine ⟨vp_in_nI (by omega) (by omega), ?_⟩) | (refine ⟨fun zc => ?_, fun zc => ?_⟩ <;> try (exfalso; omega)) | fail)
    intro f7 hT7 hF7
    simp only [ky_aft, ky_vl, Nat.reduceAdd]
    repeat' (first | (refine ky_ok_stp rfl ?_; simp (disch := first | omega | assumption) only [ky_stp, ky_inv, ky_ldi, ky_ldl, ky_ldd, ky_lda, ky_cl2, ky_st1, ky_st2, ky_s1i, ky_s2i, ky_s1l, ky_s2l, ky_sli, ky_s1f, ky_s2f, ky_s1d, ky_s2d, ky_sr, ky_sai, ky_sasi, ky_sasl, ky_sasr, ky_svr, ky_sv, ky_sv2, ky_s1, ky_cs, ky_pop, ky_nth, ky_snt, ky_obj, ky_ari, ky_arl, ky_arr, ky_arn, ky_fv, ky_rcv, List.map_cons, List.map_nil, List.drop_succ_cons, List.drop_zero, Value.category, Nat.reduceAdd, Nat.reduceSub, true_and, and_true, true_or, or_true, reduceCtorEq, ite_true, ite_false, eq_self, Nat.reduceEqDiff, Nat.reduceLeDiff, nI_add, nI_1, nI_leI, nI_ltI, nI_eq, nI_clamp, kz_m1, kz_mn, kz_mn2, kz_n0, kz_0n, kz_0, kz_le0, kz_0lt, false_implies, true_implies, not_false_eq_true, not_true_eq_false, Nat.zero_le, kb_0, kz_10, kz_of, ky_sw, kz_mx, kz_mi]) | (refine ⟨vp_in_nI (by omega) (by omega), ?_⟩) | (refine ⟨fun zc => ?_, fun zc => ?_⟩ <;> try (exfalso; omega)) | fail)
    have hW7 := kW46 hW5 hF7
    have hS7 := kS46 hS5 hF7
    exact hQ f7 hT7 (kfRR (kf46 hF2) (kfRR (kf46 hF3) (kfRR hF4' (kfRR hF5' (kf46 hF7))))) (fun _ => ⟨hW7, hS7⟩) ⟨⟨_, _, _⟩, ⟨_, hW7⟩, hS7⟩
  have hz : ∀ {f}, kW a 12 f n R G → kS a 12 f S → ∃ z, kZb a 12 f z := fun {f} h1 h2 => ⟨⟨n, R, S⟩, ⟨G, h1⟩, h2⟩
  have hT' := hT
  unfold kTo at hT'
  have hn1 := kTn_le (c := c) hs
  have hn2 := kTn_le (c := c) hn1.2
  have hn3 := kTn_le (c := c) hn2.2
  have hn4 := kTn_le (c := c) hn3.2
  have hn5 := kTn_le (c := c) hn4.2
  have hv1 := kTv_le c L (kTn c L s)
  have hv4 := kTv_le c L (kTn c L (kTn c L (kTn c L (kTn c L s))))
  refine ⟨Nat.le_of_ble_eq_true rfl, fun z => absurd z (by decide), ?_⟩; show ky_ok adK 55 0 [some (.ref (a 47)), some (.ref (a 12)), none, none, none, none, none, none] [] f 0 0 _
  by_cases e0 : kTw c L s = kwS
  case neg =>
    have e : kRy c L s = (1, s, 0, 0, 0, 0, 0) := by rw [kRy, if_pos e0]
    rw [e] at hQ
    repeat' (first | (refine kx87n ha hB hs (t := 2) (W := kwS) (by decide) rfl (by decide) (by decide) (by decide) hT e0 ?_; simp only [ky_aft, ky_vl, Nat.reduceAdd]) | (refine ky_ok_stp rfl ?_; simp (disch := first | omega | assumption) only [ky_stp, ky_inv, ky_ldi, ky_ldl, ky_ldd, ky_lda, ky_cl2, ky_st1, ky_st2, ky_s1i, ky_s2i, ky_s1l, ky_s2l, ky_sli, ky_s1f, ky_s2f, ky_s1d, ky_s2d, ky_sr, ky_sai, ky_sasi, ky_sasl, ky_sasr, ky_svr, ky_sv, ky_sv2, ky_s1, ky_cs, ky_pop, ky_nth, ky_snt, ky_obj, ky_ari, ky_arl, ky_arr, ky_arn, ky_fv, ky_rcv, List.map_cons, List.map_nil, List.drop_succ_cons, List.drop_zero, Value.category, Nat.reduceAdd, Nat.reduceSub, true_and, and_true, true_or, or_true, reduceCtorEq, ite_true, ite_false, eq_self, Nat.reduceEqDiff, Nat.reduceLeDiff, nI_add, nI_1, nI_leI, nI_ltI, nI_eq, nI_clamp, kz_m1, kz_mn, kz_mn2, kz_n0, kz_0n, kz_0, kz_le0, kz_0lt, false_implies, true_implies, not_false_eq_true, not_true_eq_false, Nat.zero_le, kb_0, kz_10, kz_of, ky_sw, kz_mx, kz_mi, hrd, hT']) | (refine ⟨vp_in_nI (by omega) (by omega), ?_⟩) | (refine ⟨fun zc => ?_, fun zc => ?_⟩ <;> try (exfalso; omega)) | fail)
    exact hQ f hT kfr_rf (fun z => by simp at z) (hz hW hS)
  repeat' (first | (refine kx87y ha hB hs (t := 2) (W := kwS) (by decide) rfl (by decide) (by decide) (by decide) hT e0 ?_) | (refine ky_ok_stp rfl ?_; simp (disch := first | omega | assumption) only [ky_stp, ky_inv, ky_ldi, ky_ldl, ky_ldd, ky_lda, ky_cl2, ky_st1, ky_st2, ky_s1i, ky_s2i, ky_s1l, ky_s2l, ky_sli, ky_s1f, ky_s2f, ky_s1d, ky_s2d, ky_sr, ky_sai, ky_sasi, ky_sasl, ky_sasr, ky_svr, ky_sv, ky_sv2, ky_s1, ky_cs, ky_pop, ky_nth, ky_snt, ky_obj, ky_ari, ky_arl, ky_arr, ky_arn, ky_fv, ky_rcv, List.map_cons, List.map_nil, List.drop_succ_cons, List.drop_zero, Value.category, Nat.reduceAdd, Nat.reduceSub, true_and, and_true, true_or, or_true, reduceCtorEq, ite_true, ite_false, eq_self, Nat.reduceEqDiff, Nat.reduceLeDiff, nI_add, nI_1, nI_leI, nI_ltI, nI_eq, nI_clamp, kz_m1, kz_mn, kz_mn2, kz_n0, kz_0n, kz_0, kz_le0, kz_0lt, false_implies, true_implies, not_false_eq_true, not_true_eq_false, Nat.zero_le, kb_0, kz_10, kz_of, ky_sw, kz_mx, kz_mi, hrd, hT']) | (refine ⟨vp_in_nI (by omega) (by omega), ?_⟩) | (refine ⟨fun zc => ?_, fun zc => ?_⟩ <;> try (exfalso; omega)) | fail)
  intro f1 hT1 hF1
  simp only [ky_aft, ky_vl, Nat.reduceAdd]
  change kTo a f1 c L (kTn c L s) at hT1
  have hB1 := kB40 hB (kf46 hF1)
  have hW1 := kW46 hW hF1
  have hS1 := kS46 hS hF1
  have hrd1 : f1 (a 47) = _ := (hF1 47 (by omega)).trans hrd
  have hT1' := hT1
  unfold kTo at hT1'
  by_cases e1 : kTk c L (kTn c L s) = 2
  case neg =>
    have e : kRy c L s = (1, kTn c L s, 0, 0, 0, 0, 0) := by rw [kRy, if_neg (fun z => z e0), if_pos e1]
    rw [e] at hQ
    repeat' (first | (refine kx85 (lo := 1) (hi := 6) hT1 (by decide) (by decide) ?_; simp only [ky_aft, ky_vl, Nat.reduceAdd]) | (refine ky_ok_stp rfl ?_; simp (disch := first | omega | assumption) only [ky_stp, ky_inv, ky_ldi, ky_ldl, ky_ldd, ky_lda, ky_cl2, ky_st1, ky_st2, ky_s1i, ky_s2i, ky_s1l, ky_s2l, ky_sli, ky_s1f, ky_s2f, ky_s1d, ky_s2d, ky_sr, ky_sai, ky_sasi, ky_sasl, ky_sasr, ky_svr, ky_sv, ky_sv2, ky_s1, ky_cs, ky_pop, ky_nth, ky_snt, ky_obj, ky_ari, ky_arl, ky_arr, ky_arn, ky_fv, ky_rcv, List.map_cons, List.map_nil, List.drop_succ_cons, List.drop_zero, Value.category, Nat.reduceAdd, Nat.reduceSub, true_and, and_true, true_or, or_true, reduceCtorEq, ite_true, ite_false, eq_self, Nat.reduceEqDiff, Nat.reduceLeDiff, nI_add, nI_1, nI_leI, nI_ltI, nI_eq, nI_clamp, kz_m1, kz_mn, kz_mn2, kz_n0, kz_0n, kz_0, kz_le0, kz_0lt, false_implies, true_implies, not_false_eq_true, not_true_eq_false, Nat.zero_le, kb_0, kz_10, kz_of, ky_sw, kz_mx, kz_mi, hrd1, hT1', if_pos e1, kz_1, kz_6]) | (refine ⟨vp_in_nI (by omega) (by omega), ?_⟩) | (refine ⟨fun zc => ?_, fun zc => ?_⟩ <;> try (exfalso; omega)) | fail)
    exact hQ f1 hT1 (kf46 hF1) (fun z => by simp at z) (hz hW1 hS1)
  by_cases e2 : kTv c L (kTn c L s) < 1 ∨ 6 < kTv c L (kTn c L s)
  case pos =>
    have e : kRy c L s = (2, kTn c L s, 0, 0, 0, 0, 0) := by rw [kRy, if_neg (fun z => z e0), if_neg (fun z => z e1), if_pos e2]
    rw [e] at hQ
    repeat' (first | (refine kx85 (lo := 1) (hi := 6) hT1 (by decide) (by decide) ?_; simp only [ky_aft, ky_vl, Nat.reduceAdd]) | (refine ky_ok_stp rfl ?_; simp (disch := first | omega | assumption) only [ky_stp, ky_inv, ky_ldi, ky_ldl, ky_ldd, ky_lda, ky_cl2, ky_st1, ky_st2, ky_s1i, ky_s2i, ky_s1l, ky_s2l, ky_sli, ky_s1f, ky_s2f, ky_s1d, ky_s2d, ky_sr, ky_sai, ky_sasi, ky_sasl, ky_sasr, ky_svr, ky_sv, ky_sv2, ky_s1, ky_cs, ky_pop, ky_nth, ky_snt, ky_obj, ky_ari, ky_arl, ky_arr, ky_arn, ky_fv, ky_rcv, List.map_cons, List.map_nil, List.drop_succ_cons, List.drop_zero, Value.category, Nat.reduceAdd, Nat.reduceSub, true_and, and_true, true_or, or_true, reduceCtorEq, ite_true, ite_false, eq_self, Nat.reduceEqDiff, Nat.reduceLeDiff, nI_add, nI_1, nI_leI, nI_ltI, nI_eq, nI_clamp, kz_m1, kz_mn, kz_mn2, kz_n0, kz_0n, kz_0, kz_le0, kz_0lt, false_implies, true_implies, not_false_eq_true, not_true_eq_false, Nat.zero_le, kb_0, kz_10, kz_of, ky_sw, kz_mx, kz_mi, hrd1, hT1', if_neg (fun z : ¬ kTk c L (kTn c L s) = 2 => z e1), if_pos e2, kz_1, kz_6]) | (refine ⟨vp_in_nI (by omega) (by omega), ?_⟩) | (refine ⟨fun zc => ?_, fun zc => ?_⟩ <;> try (exfalso; omega)) | fail)
    exact hQ f1 hT1 (kf46 hF1) (fun z => by simp at z) (hz hW1 hS1)
  repeat' (first | (refine kx85 (lo := 1) (hi := 6) hT1 (by decide) (by decide) ?_; simp only [ky_aft, ky_vl, Nat.reduceAdd]) | (refine kx77 ha hB1 (kTe_le (c := c) hn1.2).2 (kTo_b hT1) ?_) | (refine ky_ok_stp rfl ?_; simp (disch := first | omega | assumption) only [ky_stp, ky_inv, ky_ldi, ky_ldl, ky_ldd, ky_lda, ky_cl2, ky_st1, ky_st2, ky_s1i, ky_s2i, ky_s1l, ky_s2l, ky_sli, ky_s1f, ky_s2f, ky_s1d, ky_s2d, ky_sr, ky_sai, ky_sasi, ky_sasl, ky_sasr, ky_svr, ky_sv, ky_sv2, ky_s1, ky_cs, ky_pop, ky_nth, ky_snt, ky_obj, ky_ari, ky_arl, ky_arr, ky_arn, ky_fv, ky_rcv, List.map_cons, List.map_nil, List.drop_succ_cons, List.drop_zero, Value.category, Nat.reduceAdd, Nat.reduceSub, true_and, and_true, true_or, or_true, reduceCtorEq, ite_true, ite_false, eq_self, Nat.reduceEqDiff, Nat.reduceLeDiff, nI_add, nI_1, nI_leI, nI_ltI, nI_eq, nI_clamp, kz_m1, kz_mn, kz_mn2, kz_n0, kz_0n, kz_0, kz_le0, kz_0lt, false_implies, true_implies, not_false_eq_true, not_true_eq_false, Nat.zero_le, kb_0, kz_10, kz_of, ky_sw, kz_mx, kz_mi, hrd1, hT1', if_neg (fun z : ¬ kTk c L (kTn c L s) = 2 => z e1), if_neg e2, kz_1, kz_6]) | (refine ⟨vp_in_nI (by omega) (by omega), ?_⟩) | (refine ⟨fun zc => ?_, fun zc => ?_⟩ <;> try (exfalso; omega)) | fail)
  intro f2 hT2 hF2
  simp only [ky_aft, ky_vl, Nat.reduceAdd]
  change kTo a f2 c L (kTn c L (kTn c L s)) at hT2
  have hF2' := kfRR (kf46 hF1) (kf46 hF2)
  have hB2 := kB40 hB1 (kf46 hF2)
  have hW2 := kW46 hW1 hF2
  have hS2 := kS46 hS1 hF2
  have hrd2 : f2 (a 47) = _ := (hF2 47 (by omega)).trans hrd1
  have hT2' := hT2
  unfold kTo at hT2'
  by_cases e3 : kIw kWst (kTw c L (kTn c L (kTn c L s))) 0 = -1
  case pos =>
    have e : kRy c L s = (1, kTn c L (kTn c L s), 0, 0, 0, 0, 0) := by rw [kRy, if_neg (fun z => z e0), if_neg (fun z => z e1), if_neg e2, if_pos e3]
    rw [e] at hQ
    repeat' (first | (refine kx84w (Ws := kWst) (t := 3) (by decide) rfl (by decide) (by decide) (by decide) (by decide) hT2 ?_; simp only [ky_aft, ky_vl, Nat.reduceAdd]) | (refine ky_ok_stp rfl ?_; simp (disch := first | omega | assumption) only [ky_stp, ky_inv, ky_ldi, ky_ldl, ky_ldd, ky_lda, ky_cl2, ky_st1, ky_st2, ky_s1i, ky_s2i, ky_s1l, ky_s2l, ky_sli, ky_s1f, ky_s2f, ky_s1d, ky_s2d, ky_sr, ky_sai, ky_sasi, ky_sasl, ky_sasr, ky_svr, ky_sv, ky_sv2, ky_s1, ky_cs, ky_pop, ky_nth, ky_snt, ky_obj, ky_ari, ky_arl, ky_arr, ky_arn, ky_fv, ky_rcv, List.map_cons, List.map_nil, List.drop_succ_cons, List.drop_zero, Value.category, Nat.reduceAdd, Nat.reduceSub, true_and, and_true, true_or, or_true, reduceCtorEq, ite_true, ite_false, eq_self, Nat.reduceEqDiff, Nat.reduceLeDiff, nI_add, nI_1, nI_leI, nI_ltI, nI_eq, nI_clamp, kz_m1, kz_mn, kz_mn2, kz_n0, kz_0n, kz_0, kz_le0, kz_0lt, false_implies, true_implies, not_false_eq_true, not_true_eq_false, Nat.zero_le, kb_0, kz_10, kz_of, ky_sw, kz_mx, kz_mi, hrd2, hT2', eq_true e3]) | (refine ⟨vp_in_nI (by omega) (by omega), ?_⟩) | (refine ⟨fun zc => ?_, fun zc => ?_⟩ <;> try (exfalso; omega)) | fail)
    exact hQ f2 hT2 hF2' (fun z => by simp at z) (hz hW2 hS2)
  repeat' (first | (refine kx84w (Ws := kWst) (t := 3) (by decide) rfl (by decide) (by decide) (by decide) (by decide) hT2 ?_; simp only [ky_aft, ky_vl, Nat.reduceAdd]) | (refine kx77 ha hB2 (kTe_le (c := c) hn2.2).2 (kTo_b hT2) ?_) | (refine ky_ok_stp rfl ?_; simp (disch := first | omega | assumption) only [ky_stp, ky_inv, ky_ldi, ky_ldl, ky_ldd, ky_lda, ky_cl2, ky_st1, ky_st2, ky_s1i, ky_s2i, ky_s1l, ky_s2l, ky_sli, ky_s1f, ky_s2f, ky_s1d, ky_s2d, ky_sr, ky_sai, ky_sasi, ky_sasl, ky_sasr, ky_svr, ky_sv, ky_sv2, ky_s1, ky_cs, ky_pop, ky_nth, ky_snt, ky_obj, ky_ari, ky_arl, ky_arr, ky_arn, ky_fv, ky_rcv, List.map_cons, List.map_nil, List.drop_succ_cons, List.drop_zero, Value.category, Nat.reduceAdd, Nat.reduceSub, true_and, and_true, true_or, or_true, reduceCtorEq, ite_true, ite_false, eq_self, Nat.reduceEqDiff, Nat.reduceLeDiff, nI_add, nI_1, nI_leI, nI_ltI, nI_eq, nI_clamp, kz_m1, kz_mn, kz_mn2, kz_n0, kz_0n, kz_0, kz_le0, kz_0lt, false_implies, true_implies, not_false_eq_true, not_true_eq_false, Nat.zero_le, kb_0, kz_10, kz_of, ky_sw, kz_mx, kz_mi, hrd2, hT2', eq_false e3]) | (refine ⟨vp_in_nI (by omega) (by omega), ?_⟩) | (refine ⟨fun zc => ?_, fun zc => ?_⟩ <;> try (exfalso; omega)) | fail)
  intro f3 hT3 hF3
  simp only [ky_aft, ky_vl, Nat.reduceAdd]
  change kTo a f3 c L (kTn c L (kTn c L (kTn c L s))) at hT3
  have hF3' := kfRR hF2' (kf46 hF3)
  have hB3 := kB40 hB2 (kf46 hF3)
  have hW3 := kW46 hW2 hF3
  have hS3 := kS46 hS2 hF3
  have hrd3 : f3 (a 47) = _ := (hF3 47 (by omega)).trans hrd2
  have hT3' := hT3
  unfold kTo at hT3'
  by_cases e4 : kTw c L (kTn c L (kTn c L (kTn c L s))) = kwM
  case neg =>
    have e : kRy c L s = kRf c L (kTv c L (kTn c L s)) (kIw kWst (kTw c L (kTn c L (kTn c L s))) 0) 1 (kTn c L (kTn c L (kTn c L s))) := by rw [kRy, if_neg (fun z => z e0), if_neg (fun z => z e1), if_neg e2, if_neg e3, if_neg e4]
    repeat' (first | (refine kx87n ha hB3 hn3.2 (t := 4) (W := kwM) (by decide) rfl (by decide) (by decide) (by decide) hT3 e4 ?_; simp only [ky_aft, ky_vl, Nat.reduceAdd]) | (refine tail f3 _ _ 1 _ e hn3.2 (by omega) (by omega) hB3 hrd3 hT3 hW3 hS3 _ ?_) | (refine ky_ok_stp rfl ?_; simp (disch := first | omega | assumption) only [ky_stp, ky_inv, ky_ldi, ky_ldl, ky_ldd, ky_lda, ky_cl2, ky_st1, ky_st2, ky_s1i, ky_s2i, ky_s1l, ky_s2l, ky_sli, ky_s1f, ky_s2f, ky_s1d, ky_s2d, ky_sr, ky_sai, ky_sasi, ky_sasl, ky_sasr, ky_svr, ky_sv, ky_sv2, ky_s1, ky_cs, ky_pop, ky_nth, ky_snt, ky_obj, ky_ari, ky_arl, ky_arr, ky_arn, ky_fv, ky_rcv, List.map_cons, List.map_nil, List.drop_succ_cons, List.drop_zero, Value.category, Nat.reduceAdd, Nat.reduceSub, true_and, and_true, true_or, or_true, reduceCtorEq, ite_true, ite_false, eq_self, Nat.reduceEqDiff, Nat.reduceLeDiff, nI_add, nI_1, nI_leI, nI_ltI, nI_eq, nI_clamp, kz_m1, kz_mn, kz_mn2, kz_n0, kz_0n, kz_0, kz_le0, kz_0lt, false_implies, true_implies, not_false_eq_true, not_true_eq_false, Nat.zero_le, kb_0, kz_10, kz_of, ky_sw, kz_mx, kz_mi, hrd3, hT3']) | (refine ⟨vp_in_nI (by omega) (by omega), ?_⟩) | (refine ⟨fun zc => ?_, fun zc => ?_⟩ <;> try (exfalso; omega)) | fail)
    intro f' w1 w2 w3 w4
    exact hQ f' w1 (kfRR hF3' w2) w3 w4
  repeat' (first | (refine kx87y ha hB3 hn3.2 (t := 4) (W := kwM) (by decide) rfl (by decide) (by decide) (by decide) hT3 e4 ?_) | (refine ky_ok_stp rfl ?_; simp (disch := first | omega | assumption) only [ky_stp, ky_inv, ky_ldi, ky_ldl, ky_ldd, ky_lda, ky_cl2, ky_st1, ky_st2, ky_s1i, ky_s2i, ky_s1l, ky_s2l, ky_sli, ky_s1f, ky_s2f, ky_s1d, ky_s2d, ky_sr, ky_sai, ky_sasi, ky_sasl, ky_sasr, ky_svr, ky_sv, ky_sv2, ky_s1, ky_cs, ky_pop, ky_nth, ky_snt, ky_obj, ky_ari, ky_arl, ky_arr, ky_arn, ky_fv, ky_rcv, List.map_cons, List.map_nil, List.drop_succ_cons, List.drop_zero, Value.category, Nat.reduceAdd, Nat.reduceSub, true_and, and_true, true_or, or_true, reduceCtorEq, ite_true, ite_false, eq_self, Nat.reduceEqDiff, Nat.reduceLeDiff, nI_add, nI_1, nI_leI, nI_ltI, nI_eq, nI_clamp, kz_m1, kz_mn, kz_mn2, kz_n0, kz_0n, kz_0, kz_le0, kz_0lt, false_implies, true_implies, not_false_eq_true, not_true_eq_false, Nat.zero_le, kb_0, kz_10, kz_of, ky_sw, kz_mx, kz_mi, hrd3, hT3']) | (refine ⟨vp_in_nI (by omega) (by omega), ?_⟩) | (refine ⟨fun zc => ?_, fun zc => ?_⟩ <;> try (exfalso; omega)) | fail)
  intro f4 hT4 hF4
  simp only [ky_aft, ky_vl, Nat.reduceAdd]
  change kTo a f4 c L (kTn c L (kTn c L (kTn c L (kTn c L s)))) at hT4
  have hF4' := kfRR hF3' (kf46 hF4)
  have hB4 := kB40 hB3 (kf46 hF4)
  have hW4 := kW46 hW3 hF4
  have hS4 := kS46 hS3 hF4
  have hrd4 : f4 (a 47) = _ := (hF4 47 (by omega)).trans hrd3
  have hT4' := hT4
  unfold kTo at hT4'
  have e99 : (99 : Int32) = nI 99 := rfl
  by_cases e5 : kTk c L (kTn c L (kTn c L (kTn c L (kTn c L s)))) = 2
  case neg =>
    have e : kRy c L s = (1, kTn c L (kTn c L (kTn c L (kTn c L s))), 0, 0, 0, 0, 0) := by rw [kRy, if_neg (fun z => z e0), if_neg (fun z => z e1), if_neg e2, if_neg e3, if_pos e4, if_pos e5]
    rw [e] at hQ
    repeat' (first | (refine kx85 (lo := 1) (hi := 99) hT4 (by decide) (by decide) ?_; simp only [ky_aft, ky_vl, Nat.reduceAdd]) | (refine ky_ok_stp rfl ?_; simp (disch := first | omega | assumption) only [ky_stp, ky_inv, ky_ldi, ky_ldl, ky_ldd, ky_lda, ky_cl2, ky_st1, ky_st2, ky_s1i, ky_s2i, ky_s1l, ky_s2l, ky_sli, ky_s1f, ky_s2f, ky_s1d, ky_s2d, ky_sr, ky_sai, ky_sasi, ky_sasl, ky_sasr, ky_svr, ky_sv, ky_sv2, ky_s1, ky_cs, ky_pop, ky_nth, ky_snt, ky_obj, ky_ari, ky_arl, ky_arr, ky_arn, ky_fv, ky_rcv, List.map_cons, List.map_nil, List.drop_succ_cons, List.drop_zero, Value.category, Nat.reduceAdd, Nat.reduceSub, true_and, and_true, true_or, or_true, reduceCtorEq, ite_true, ite_false, eq_self, Nat.reduceEqDiff, Nat.reduceLeDiff, nI_add, nI_1, nI_leI, nI_ltI, nI_eq, nI_clamp, kz_m1, kz_mn, kz_mn2, kz_n0, kz_0n, kz_0, kz_le0, kz_0lt, false_implies, true_implies, not_false_eq_true, not_true_eq_false, Nat.zero_le, kb_0, kz_10, kz_of, ky_sw, kz_mx, kz_mi, hrd4, hT4', if_pos e5, kz_1, e99]) | (refine ⟨vp_in_nI (by omega) (by omega), ?_⟩) | (refine ⟨fun zc => ?_, fun zc => ?_⟩ <;> try (exfalso; omega)) | fail)
    exact hQ f4 hT4 hF4' (fun z => by simp at z) (hz hW4 hS4)
  by_cases e6 : kTv c L (kTn c L (kTn c L (kTn c L (kTn c L s)))) < 1 ∨ 99 < kTv c L (kTn c L (kTn c L (kTn c L (kTn c L s))))
  case pos =>
    have e : kRy c L s = (2, kTn c L (kTn c L (kTn c L (kTn c L s))), 0, 0, 0, 0, 0) := by rw [kRy, if_neg (fun z => z e0), if_neg (fun z => z e1), if_neg e2, if_neg e3, if_pos e4, if_neg (fun z => z e5), if_pos e6]
    rw [e] at hQ
    repeat' (first | (refine kx85 (lo := 1) (hi := 99) hT4 (by decide) (by decide) ?_; simp only [ky_aft, ky_vl, Nat.reduceAdd]) | (refine ky_ok_stp rfl ?_; simp (disch := first | omega | assumption) only [ky_stp, ky_inv, ky_ldi, ky_ldl, ky_ldd, ky_lda, ky_cl2, ky_st1, ky_st2, ky_s1i, ky_s2i, ky_s1l, ky_s2l, ky_sli, ky_s1f, ky_s2f, ky_s1d, ky_s2d, ky_sr, ky_sai, ky_sasi, ky_sasl, ky_sasr, ky_svr, ky_sv, ky_sv2, ky_s1, ky_cs, ky_pop, ky_nth, ky_snt, ky_obj, ky_ari, ky_arl, ky_arr, ky_arn, ky_fv, ky_rcv, List.map_cons, List.map_nil, List.drop_succ_cons, List.drop_zero, Value.category, Nat.reduceAdd, Nat.reduceSub, true_and, and_true, true_or, or_true, reduceCtorEq, ite_true, ite_false, eq_self, Nat.reduceEqDiff, Nat.reduceLeDiff, nI_add, nI_1, nI_leI, nI_ltI, nI_eq, nI_clamp, kz_m1, kz_mn, kz_mn2, kz_n0, kz_0n, kz_0, kz_le0, kz_0lt, false_implies, true_implies, not_false_eq_true, not_true_eq_false, Nat.zero_le, kb_0, kz_10, kz_of, ky_sw, kz_mx, kz_mi, hrd4, hT4', if_neg (fun z : ¬ kTk c L (kTn c L (kTn c L (kTn c L (kTn c L s)))) = 2 => z e5), if_pos e6, kz_1, e99]) | (refine ⟨vp_in_nI (by omega) (by omega), ?_⟩) | (refine ⟨fun zc => ?_, fun zc => ?_⟩ <;> try (exfalso; omega)) | fail)
    exact hQ f4 hT4 hF4' (fun z => by simp at z) (hz hW4 hS4)
  have e : kRy c L s = kRf c L (kTv c L (kTn c L s)) (kIw kWst (kTw c L (kTn c L (kTn c L s))) 0) (kTv c L (kTn c L (kTn c L (kTn c L (kTn c L s))))) (kTn c L (kTn c L (kTn c L (kTn c L (kTn c L s))))) := by rw [kRy, if_neg (fun z => z e0), if_neg (fun z => z e1), if_neg e2, if_neg e3, if_pos e4, if_neg (fun z => z e5), if_neg e6]
  repeat' (first | (refine kx85 (lo := 1) (hi := 99) hT4 (by decide) (by decide) ?_; simp only [ky_aft, ky_vl, Nat.reduceAdd]) | (refine kx77 ha hB4 (kTe_le (c := c) hn4.2).2 (kTo_b hT4) ?_) | (refine ky_ok_stp rfl ?_; simp (disch := first | omega | assumption) only [ky_stp, ky_inv, ky_ldi, ky_ldl, ky_ldd, ky_lda, ky_cl2, ky_st1, ky_st2, ky_s1i, ky_s2i, ky_s1l, ky_s2l, ky_sli, ky_s1f, ky_s2f, ky_s1d, ky_s2d, ky_sr, ky_sai, ky_sasi, ky_sasl, ky_sasr, ky_svr, ky_sv, ky_sv2, ky_s1, ky_cs, ky_pop, ky_nth, ky_snt, ky_obj, ky_ari, ky_arl, ky_arr, ky_arn, ky_fv, ky_rcv, List.map_cons, List.map_nil, List.drop_succ_cons, List.drop_zero, Value.category, Nat.reduceAdd, Nat.reduceSub, true_and, and_true, true_or, or_true, reduceCtorEq, ite_true, ite_false, eq_self, Nat.reduceEqDiff, Nat.reduceLeDiff, nI_add, nI_1, nI_leI, nI_ltI, nI_eq, nI_clamp, kz_m1, kz_mn, kz_mn2, kz_n0, kz_0n, kz_0, kz_le0, kz_0lt, false_implies, true_implies, not_false_eq_true, not_true_eq_false, Nat.zero_le, kb_0, kz_10, kz_of, ky_sw, kz_mx, kz_mi, hrd4, hT4', if_neg (fun z : ¬ kTk c L (kTn c L (kTn c L (kTn c L (kTn c L s)))) = 2 => z e5), if_neg e6, kz_1, e99]) | (refine ⟨vp_in_nI (by omega) (by omega), ?_⟩) | (refine ⟨fun zc => ?_, fun zc => ?_⟩ <;> try (exfalso; omega)) | fail)
  intro f5 hT5 hF5
  simp only [ky_aft, ky_vl, Nat.reduceAdd]
  repeat' (first | (refine tail f5 _ _ _ _ e hn5.2 (by omega) (by omega) (kB40 hB4 (kf46 hF5)) ((hF5 47 (by omega)).trans hrd4) hT5 (kW46 hW4 hF5) (kS46 hS4 hF5) _ ?_) | (refine ky_ok_stp rfl ?_; simp (disch := first | omega | assumption) only [ky_stp, ky_inv, ky_ldi, ky_ldl, ky_ldd, ky_lda, ky_cl2, ky_st1, ky_st2, ky_s1i, ky_s2i, ky_s1l, ky_s2l, ky_sli, ky_s1f, ky_s2f, ky_s1d, ky_s2d, ky_sr, ky_sai, ky_sasi, ky_sasl, ky_sasr, ky_svr, ky_sv, ky_sv2, ky_s1, ky_cs, ky_pop, ky_nth, ky_snt, ky_obj, ky_ari, ky_arl, ky_arr, ky_arn, ky_fv, ky_rcv, List.map_cons, List.map_nil, List.drop_succ_cons, List.drop_zero, Value.category, Nat.reduceAdd, Nat.reduceSub, true_and, and_true, true_or, or_true, reduceCtorEq, ite_true, ite_false, eq_self, Nat.reduceEqDiff, Nat.reduceLeDiff, nI_add, nI_1, nI_leI, nI_ltI, nI_eq, nI_clamp, kz_m1, kz_mn, kz_mn2, kz_n0, kz_0n, kz_0, kz_le0, kz_0lt, false_implies, true_implies, not_false_eq_true, not_true_eq_false, Nat.zero_le, kb_0, kz_10, kz_of, ky_sw, kz_mx, kz_mi]) | (refine ⟨vp_in_nI (by omega) (by omega), ?_⟩) | (refine ⟨fun zc => ?_, fun zc => ?_⟩ <;> try (exfalso; omega)) | fail)
  intro f' w1 w2 w3 w4
  exact hQ f' w1 (kfRR (kfRR hF4' (kf46 hF5)) w2) w3 w4
/-- an outline's text from a heading or style on: error and place, or the outline -/
def kRdg (c : Nat → Nat) (L : Nat) : Nat → kZ → Nat → (Nat × Nat) ⊕ kZ
  | 0, z, _ => .inr z
  | m + 1, z, s => if kTk c L s = 0 then .inr z
    else if kTk c L s = 3 then (if (kRh c L z.n (if z.n = 0 then 0 else kV z.R (z.n - 1)) s).1 = 0 then kRdg c L m ⟨z.n + 1, kru z.R z.n (kNW (kRh c L z.n (if z.n = 0 then 0 else kV z.R (z.n - 1)) s).2.2.1, nI (kRh c L z.n (if z.n = 0 then 0 else kV z.R (z.n - 1)) s).2.2.2.1, (kRh c L z.n (if z.n = 0 then 0 else kV z.R (z.n - 1)) s).2.2.2.2.1, (kRh c L z.n (if z.n = 0 then 0 else kV z.R (z.n - 1)) s).2.2.2.2.2), z.S⟩ (kRh c L z.n (if z.n = 0 then 0 else kV z.R (z.n - 1)) s).2.1
      else .inl ((kRh c L z.n (if z.n = 0 then 0 else kV z.R (z.n - 1)) s).1, (kRh c L z.n (if z.n = 0 then 0 else kV z.R (z.n - 1)) s).2.1))
    else (if (kRy c L s).1 = 0 then kRdg c L m ⟨z.n, z.R, kSw z.S (kRy c L s)⟩ (kRy c L s).2.1 else .inl ((kRy c L s).1, (kRy c L s).2.1))
end KXY
