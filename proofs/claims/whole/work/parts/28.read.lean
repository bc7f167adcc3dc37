-- deps: 27.toks 26.kqry
/-! ## outlines read -/
def kTn (c : Nat → Nat) (L s : Nat) : Nat := kTs c L (kTe c L s)
def kNx (c : Nat → Nat) (L : Nat) (W : List Nat) (s : Nat) : Nat := if kTw c L s = W then kTn c L s else s
def kwP : List Nat := [112, 108, 97, 105, 110]
def kwF : List Nat := [102, 111, 108, 100, 101, 100]
def kwS : List Nat := [115, 116, 121, 108, 101]
def kwM : List Nat := [102, 114, 111, 109]
def kwO : List Nat := [111, 119, 110]
def kwN : List Nat := [111, 110]
theorem kTn_le {c : Nat → Nat} {L s : Nat} (h : s ≤ L) : s ≤ kTn c L s ∧ kTn c L s ≤ L := by
  have h1 := kTe_le (c := c) h
  have h2 := kTs_le (c := c) h1.2
  unfold kTn; omega
theorem kTn_lt {c : Nat → Nat} {L s : Nat} (h : s < L) : s < kTn c L s := by
  have h1 := kTe_lt (c := c) h
  have h2 := kTs_le (c := c) (kTe_le (c := c) (Nat.le_of_lt h)).2
  unfold kTn; omega
theorem kNx_le {c : Nat → Nat} {L s : Nat} {W : List Nat} (h : s ≤ L) : s ≤ kNx c L W s ∧ kNx c L W s ≤ L := by
  have := kTn_le (c := c) h
  unfold kNx; split <;> omega
/-- the stars: error, level, place -/
def kSr (c : Nat → Nat) (L g : Nat) : Nat → Nat → Nat → Nat × Nat × Nat
  | 0, l, s => (0, l, s)
  | m + 1, l, s => if kTk c L s = 3 then (if 6 < l + 1 then (2, l + 1, s) else if g < l + 1 then (3, l + 1, s) else kSr c L g m (l + 1) (kTn c L s)) else (0, l, s)
theorem kSr_le {c : Nat → Nat} {L g : Nat} : ∀ m l s, s ≤ L → s ≤ (kSr c L g m l s).2.2 ∧ (kSr c L g m l s).2.2 ≤ L
  | 0, l, s, h => ⟨Nat.le_refl _, h⟩
  | m + 1, l, s, h => by
    have h1 := kTn_le (c := c) h
    have h2 := kSr_le (c := c) (g := g) m (l + 1) _ h1.2
    rw [kSr]
    split
    · split
      · exact ⟨Nat.le_refl _, h⟩
      · split
        · exact ⟨Nat.le_refl _, h⟩
        · omega
    · exact ⟨Nat.le_refl _, h⟩
/-- a heading's text: error, place, word, level, plain, folded -/
def kRh (c : Nat → Nat) (L n g s : Nat) : Nat × Nat × List Nat × Nat × Int32 × Int32 :=
  if n = 60 then (4, s, [], 0, 0, 0)
  else if (kSr c L (g + 1) 7 0 s).1 ≠ 0 then ((kSr c L (g + 1) 7 0 s).1, (kSr c L (g + 1) 7 0 s).2.2, [], 0, 0, 0)
  else if kTw c L (kSr c L (g + 1) 7 0 s).2.2 = [] then (1, (kSr c L (g + 1) 7 0 s).2.2, [], 0, 0, 0)
  else (if kTk c L (kNx c L kwF (kNx c L kwP (kTn c L (kSr c L (g + 1) 7 0 s).2.2))) = 4 then 0 else 1,
    if kTk c L (kNx c L kwF (kNx c L kwP (kTn c L (kSr c L (g + 1) 7 0 s).2.2))) = 4 then kTn c L (kNx c L kwF (kNx c L kwP (kTn c L (kSr c L (g + 1) 7 0 s).2.2))) else kNx c L kwF (kNx c L kwP (kTn c L (kSr c L (g + 1) 7 0 s).2.2)),
    kTw c L (kSr c L (g + 1) 7 0 s).2.2, (kSr c L (g + 1) 7 0 s).2.1,
    if kTw c L (kTn c L (kSr c L (g + 1) 7 0 s).2.2) = kwP then 1 else 0, if kTw c L (kNx c L kwP (kTn c L (kSr c L (g + 1) 7 0 s).2.2)) = kwF then 1 else 0)
/-- the reader's footprint -/
def kRF (j : Nat) : Prop := 12 ≤ j ∧ j ≤ 22 ∨ j = 46
section KXR
variable {adK a : Nat → Nat} {L s t n g : Nat} {f : ky_H} {c : Nat → Nat} {Q : ky_Q} {W : List Nat} {R : Nat → kR} {G : Nat → Int32} {S : Nat → Nat → Int32}
theorem kx87c (ha : kI a) (hB : kB a 40 f 700 L c) (hs : s ≤ L) (ht : t < ky_tx.length) (he : ky_tx.getD t [] = W) (hW : ([W].all fun w => decide (w.length ≤ 8) && w.all fun b => decide (0 < b ∧ b < 256 ∧ b ≠ 32)) = true) (hl : ((ky_tx.getD t []).all fun b => decide (b < 256)) = true) (hln : (ky_tx.getD t []).length < 1000) (hT : kTo a f c L s)
    (hQ : ∀ f', kTo a f' c L (kNx c L W s) → kfr a f f' (fun j => j = 46) → Q (.inl (some (.int (if kTw c L s = W then 1 else 0)))) f') : ky_cl adK 87 [.ref (a 46), .ref (adK t)] f Q := by
  refine kx87 ha hB hs ht he hW hl hln hT (fun e f' w1 w2 => ?_) (fun e => ?_)
  · have := hQ f' (by rw [kNx, if_pos e]; exact w1) w2
    rw [if_pos e] at this; exact this
  · have := hQ f (by rw [kNx, if_neg e]; exact hT) kfr_rf
    rw [if_neg e] at this; exact this
theorem kx86c (ha : kI a) (hB : kB a 40 f 700 L c) (hs : s ≤ L) (hT : kTo a f c L s)
    (hQ : ∀ f', kTo a f' c L (if kTk c L s = 4 then kTn c L s else s) → kfr a f f' (fun j => j = 46) → Q (.inl (some (.int (nI (if kTk c L s = 4 then 0 else 1))))) f') : ky_cl adK 86 [.ref (a 46)] f Q := by
  refine kx86 ha hB hs hT (fun e f' w1 w2 => ?_) (fun e => ?_)
  · have := hQ f' (by rw [if_pos e]; exact w1) w2
    rw [if_pos e] at this; exact this
  · have := hQ f (by rw [if_neg e]; exact hT) kfr_rf
    rw [if_neg e] at this; exact this
theorem kB40 {f f' : ky_H} (hB : kB a 40 f 700 L c) (hF : kfr a f f' kRF) : kB a 40 f' 700 L c := kB_fr hB (hF 40 (by unfold kRF; omega)) (hF 41 (by unfold kRF; omega))
theorem kf46 {f f' : ky_H} (h : kfr a f f' (fun j => j = 46)) : kfr a f f' kRF := fun j hj => h j fun e => hj (by unfold kRF; omega)
theorem kfRR {f f' f'' : ky_H} (h : kfr a f f' kRF) (h' : kfr a f' f'' kRF) : kfr a f f'' kRF := kfr_tr h h' fun j hj => ⟨hj, hj⟩
theorem kW46 {f f' : ky_H} (h : kW a 12 f n R G) (hF : kfr a f f' (fun j => j = 46)) : kW a 12 f' n R G := kW_fr h fun j z1 z2 => hF j (by omega)
theorem kS46 {f f' : ky_H} (h : kS a 12 f S) (hF : kfr a f f' (fun j => j = 46)) : kS a 12 f' S := kS_fr h fun j z1 z2 => hF j (by omega)
theorem kTo_rb {f f' : ky_H} (h : kTo a f c L s) (hF : f' (a 46) = f (a 46)) : kTo a f' c L s := hF.trans h
theorem kTk_le (c : Nat → Nat) (L s : Nat) : kTk c L s ≤ 5 := by
  unfold kTk
  split
  · split
    · omega
    · split
      · omega
      · split
        · omega
        · split <;> omega
  · omega
theorem kz_tk {k : Nat} (hk : k < 100) : (nI (kTk c L s) = nI k) = (kTk c L s = k) := propext (nI_eq (by have := kTk_le c L s; omega) (by omega))
theorem kTw_0 : (kNW (kTw c L s) = 0) = (kTw c L s = []) := by
  rw [← kNW_0]
  refine propext ⟨fun z => kNW_inj (kTw_ok c L s).1 (fun b hb => by have := (kTw_ok c L s).2 b hb; omega) (by simp) (fun b hb => by cases hb) z, fun z => by rw [z]⟩
theorem kx54 (ha : kI a) (hB : kB a 40 f 700 L c) (hs : s ≤ L) (hrd : f (a 47) = some (.inr (4, [.ref (a 46)]))) (hT : kTo a f c L s) (hW : kW a 12 f n R G) (hS : kS a 12 f S) (hn : n ≤ 60) (hg : kLv (kL R) n = nI g) (hg6 : g ≤ 6)
    (hQ : ∀ f', kTo a f' c L (kRh c L n g s).2.1 → kfr a f f' kRF → ((kRh c L n g s).1 = 0 → (∃ G', kW a 12 f' (n + 1) (kru R n (kNW (kRh c L n g s).2.2.1, nI (kRh c L n g s).2.2.2.1, (kRh c L n g s).2.2.2.2.1, (kRh c L n g s).2.2.2.2.2)) G') ∧ kS a 12 f' S) → (∃ z, kZb a 12 f' z) → Q (.inl (some (.int (nI (kRh c L n g s).1)))) f') :
    ky_cl adK 54 [.ref (a 47), .ref (a 12)] f Q := by
  by_cases hn60 : n = 60
  · have e : kRh c L n g s = (4, s, [], 0, 0, 0) := by rw [kRh, if_pos hn60]
    rw [e] at hQ
    have y0 := kW_lv hW
    rw [hn60] at y0
    refine ⟨Nat.le_of_ble_eq_true rfl, fun z => absurd z (by decide), ?_⟩; show ky_ok adK 54 0 [some (.ref (a 47)), some (.ref (a 12)), none, none, none] [] f 0 0 _
    repeat' (first | (refine ky_ok_stp rfl ?_; simp (disch := first | omega | assumption) only [ky_stp, ky_inv, ky_ldi, ky_ldl, ky_ldd, ky_lda, ky_cl2, ky_st1, ky_st2, ky_s1i, ky_s2i, ky_s1l, ky_s2l, ky_sli, ky_s1f, ky_s2f, ky_s1d, ky_s2d, ky_sr, ky_sai, ky_sasi, ky_sasl, ky_sasr, ky_svr, ky_sv, ky_sv2, ky_s1, ky_cs, ky_pop, ky_nth, ky_snt, ky_obj, ky_ari, ky_arl, ky_arr, ky_arn, ky_fv, ky_rcv, List.map_cons, List.map_nil, List.drop_succ_cons, List.drop_zero, Value.category, Nat.reduceAdd, Nat.reduceSub, true_and, and_true, true_or, or_true, reduceCtorEq, ite_true, ite_false, eq_self, Nat.reduceEqDiff, Nat.reduceLeDiff, nI_add, nI_1, nI_leI, nI_ltI, nI_eq, nI_clamp, kz_m1, kz_mn, kz_mn2, kz_n0, kz_0n, kz_0, kz_le0, kz_0lt, false_implies, true_implies, not_false_eq_true, not_true_eq_false, Nat.zero_le, kb_0, kz_10, kz_of, ky_sw, kz_mx, kz_mi, y0, kz_60]) | (refine ⟨vp_in_nI (by omega) (by omega), ?_⟩) | (refine ⟨fun zc => ?_, fun zc => ?_⟩ <;> try (exfalso; omega)) | fail)
    exact hQ f hT kfr_rf (fun z => by simp at z) ⟨⟨n, R, S⟩, ⟨G, hW⟩, hS⟩
  · have hr := kSr_le (c := c) (g := g + 1) 7 0 s hs
    have tail : ∀ f l s', (kSr c L (g + 1) 7 0 s) = (0, l, s') → s' ≤ L → l ≤ 6 → kfr a (f) f (fun _ => False) → kB a 40 f 700 L c → f (a 47) = some (.inr (4, [.ref (a 46)])) → kTo a f c L s' → kW a 12 f n R G → kS a 12 f S →
        (∀ f', kTo a f' c L (kRh c L n g s).2.1 → kfr a f f' kRF → ((kRh c L n g s).1 = 0 → (∃ G', kW a 12 f' (n + 1) (kru R n (kNW (kRh c L n g s).2.2.1, nI (kRh c L n g s).2.2.2.1, (kRh c L n g s).2.2.2.2.1, (kRh c L n g s).2.2.2.2.2)) G') ∧ kS a 12 f' S) → (∃ z, kZb a 12 f' z) → Q (.inl (some (.int (nI (kRh c L n g s).1)))) f') →
        ky_ok adK 54 71 [some (.ref (a 47)), some (.ref (a 12)), some (.int (nI (g + 1))), some (.int (nI l)), none] [] f 0 0 Q := by
      intro f l s' hsr hs' hl6 _ hB hrd hT hW hS hQ
      have y0 := kW_lv hW
      have hT' := hT
      unfold kTo at hT'
      by_cases hw : kTw c L s' = []
      · have e : kRh c L n g s = (1, s', [], 0, 0, 0) := by rw [kRh, if_neg hn60, hsr, if_neg (by simp), if_pos hw]
        rw [e] at hQ
        repeat' (first | (refine ky_ok_stp rfl ?_; simp (disch := first | omega | assumption) only [ky_stp, ky_inv, ky_ldi, ky_ldl, ky_ldd, ky_lda, ky_cl2, ky_st1, ky_st2, ky_s1i, ky_s2i, ky_s1l, ky_s2l, ky_sli, ky_s1f, ky_s2f, ky_s1d, ky_s2d, ky_sr, ky_sai, ky_sasi, ky_sasl, ky_sasr, ky_svr, ky_sv, ky_sv2, ky_s1, ky_cs, ky_pop, ky_nth, ky_snt, ky_obj, ky_ari, ky_arl, ky_arr, ky_arn, ky_fv, ky_rcv, List.map_cons, List.map_nil, List.drop_succ_cons, List.drop_zero, Value.category, Nat.reduceAdd, Nat.reduceSub, true_and, and_true, true_or, or_true, reduceCtorEq, ite_true, ite_false, eq_self, Nat.reduceEqDiff, Nat.reduceLeDiff, nI_add, nI_1, nI_leI, nI_ltI, nI_eq, nI_clamp, kz_m1, kz_mn, kz_mn2, kz_n0, kz_0n, kz_0, kz_le0, kz_0lt, false_implies, true_implies, not_false_eq_true, not_true_eq_false, Nat.zero_le, kb_0, kz_10, kz_of, ky_sw, kz_mx, kz_mi, hrd, hT', kz_cmp0, kTw_0, eq_true hw]) | (refine ⟨vp_in_nI (by omega) (by omega), ?_⟩) | (refine ⟨fun zc => ?_, fun zc => ?_⟩ <;> try (exfalso; omega)) | fail)
        exact hQ f hT kfr_rf (fun z => by simp at z) ⟨⟨n, R, S⟩, ⟨G, hW⟩, hS⟩
      · have e : kRh c L n g s = (if kTk c L (kNx c L kwF (kNx c L kwP (kTn c L s'))) = 4 then 0 else 1, if kTk c L (kNx c L kwF (kNx c L kwP (kTn c L s'))) = 4 then kTn c L (kNx c L kwF (kNx c L kwP (kTn c L s'))) else kNx c L kwF (kNx c L kwP (kTn c L s')), kTw c L s', l, if kTw c L (kTn c L s') = kwP then 1 else 0, if kTw c L (kNx c L kwP (kTn c L s')) = kwF then 1 else 0) := by rw [kRh, if_neg hn60, hsr, if_neg (by simp), if_neg hw]
        rw [e] at hQ
        have hp01 : ∀ {p : Prop} [Decidable p], k01 (if p then 1 else 0) := fun {p} _ => by
          by_cases h : p
          · rw [if_pos h]; exact Or.inr rfl
          · rw [if_neg h]; exact Or.inl rfl
        have hn1 := kTn_le (c := c) hs'
        have hx1 := kNx_le (c := c) (W := kwP) hn1.2
        have hx2 := kNx_le (c := c) (W := kwF) hx1.2
        repeat' (first | (refine kx48 ha hW (by omega) ?_) | (refine ky_ok_stp rfl ?_; simp (disch := first | omega | assumption) only [ky_stp, ky_inv, ky_ldi, ky_ldl, ky_ldd, ky_lda, ky_cl2, ky_st1, ky_st2, ky_s1i, ky_s2i, ky_s1l, ky_s2l, ky_sli, ky_s1f, ky_s2f, ky_s1d, ky_s2d, ky_sr, ky_sai, ky_sasi, ky_sasl, ky_sasr, ky_svr, ky_sv, ky_sv2, ky_s1, ky_cs, ky_pop, ky_nth, ky_snt, ky_obj, ky_ari, ky_arl, ky_arr, ky_arn, ky_fv, ky_rcv, List.map_cons, List.map_nil, List.drop_succ_cons, List.drop_zero, Value.category, Nat.reduceAdd, Nat.reduceSub, true_and, and_true, true_or, or_true, reduceCtorEq, ite_true, ite_false, eq_self, Nat.reduceEqDiff, Nat.reduceLeDiff, nI_add, nI_1, nI_leI, nI_ltI, nI_eq, nI_clamp, kz_m1, kz_mn, kz_mn2, kz_n0, kz_0n, kz_0, kz_le0, kz_0lt, false_implies, true_implies, not_false_eq_true, not_true_eq_false, Nat.zero_le, kb_0, kz_10, kz_of, ky_sw, kz_mx, kz_mi, hrd, hT', y0, kz_cmp0, kTw_0, eq_false hw]) | (refine ⟨vp_in_nI (by omega) (by omega), ?_⟩) | (refine ⟨fun zc => ?_, fun zc => ?_⟩ <;> try (exfalso; omega)) | fail)
        intro f1 hW1 hF1
        simp only [ky_aft, ky_vl, Nat.reduceAdd]
        have hT1 : kTo a f1 c L s' := kTo_rb hT (hF1 46 (by unfold kRB; omega))
        have hB1 : kB a 40 f1 700 L c := kB_fr hB (hF1 40 (by unfold kRB; omega)) (hF1 41 (by unfold kRB; omega))
        have hS1 := kS_rb hS hF1
        have hrd1 : f1 (a 47) = _ := (hF1 47 (by unfold kRB; omega)).trans hrd
        have hF1' : kfr a f f1 kRF := fun j hj => hF1 j (by unfold kRB; unfold kRF at hj; omega)
        have y1 := kW_lv hW1
        have hT1' := hT1
        unfold kTo at hT1'
        repeat' (first | (refine kx77 ha hB1 (kTe_le (c := c) hs').2 (kTo_b hT1) ?_) | (refine ky_ok_stp rfl ?_; simp (disch := first | omega | assumption) only [ky_stp, ky_inv, ky_ldi, ky_ldl, ky_ldd, ky_lda, ky_cl2, ky_st1, ky_st2, ky_s1i, ky_s2i, ky_s1l, ky_s2l, ky_sli, ky_s1f, ky_s2f, ky_s1d, ky_s2d, ky_sr, ky_sai, ky_sasi, ky_sasl, ky_sasr, ky_svr, ky_sv, ky_sv2, ky_s1, ky_cs, ky_pop, ky_nth, ky_snt, ky_obj, ky_ari, ky_arl, ky_arr, ky_arn, ky_fv, ky_rcv, List.map_cons, List.map_nil, List.drop_succ_cons, List.drop_zero, Value.category, Nat.reduceAdd, Nat.reduceSub, true_and, and_true, true_or, or_true, reduceCtorEq, ite_true, ite_false, eq_self, Nat.reduceEqDiff, Nat.reduceLeDiff, nI_add, nI_1, nI_leI, nI_ltI, nI_eq, nI_clamp, kz_m1, kz_mn, kz_mn2, kz_n0, kz_0n, kz_0, kz_le0, kz_0lt, false_implies, true_implies, not_false_eq_true, not_true_eq_false, Nat.zero_le, kb_0, kz_10, kz_of, ky_sw, kz_mx, kz_mi, hrd1, hT1', y1]) | (refine ⟨vp_in_nI (by omega) (by omega), ?_⟩) | (refine ⟨fun zc => ?_, fun zc => ?_⟩ <;> try (exfalso; omega)) | fail)
        intro f2 hT2 hF2
        simp only [ky_aft, ky_vl, Nat.reduceAdd]
        have hB2 := kB40 hB1 (kf46 hF2)
        have hW2 := kW46 hW1 hF2
        have hS2 := kS46 hS1 hF2
        have hrd2 : f2 (a 47) = _ := (hF2 47 (by omega)).trans hrd1
        have y2 := kW_lv hW2
        have hT2' := hT2
        unfold kTo at hT2'
        change kTo a f2 c L (kTn c L s') at hT2
        repeat' (first | (refine kx87c ha hB2 hn1.2 (t := 0) (W := kwP) (by decide) rfl (by decide) (by decide) (by decide) hT2 ?_) | (refine ky_ok_stp rfl ?_; simp (disch := first | omega | assumption) only [ky_stp, ky_inv, ky_ldi, ky_ldl, ky_ldd, ky_lda, ky_cl2, ky_st1, ky_st2, ky_s1i, ky_s2i, ky_s1l, ky_s2l, ky_sli, ky_s1f, ky_s2f, ky_s1d, ky_s2d, ky_sr, ky_sai, ky_sasi, ky_sasl, ky_sasr, ky_svr, ky_sv, ky_sv2, ky_s1, ky_cs, ky_pop, ky_nth, ky_snt, ky_obj, ky_ari, ky_arl, ky_arr, ky_arn, ky_fv, ky_rcv, List.map_cons, List.map_nil, List.drop_succ_cons, List.drop_zero, Value.category, Nat.reduceAdd, Nat.reduceSub, true_and, and_true, true_or, or_true, reduceCtorEq, ite_true, ite_false, eq_self, Nat.reduceEqDiff, Nat.reduceLeDiff, nI_add, nI_1, nI_leI, nI_ltI, nI_eq, nI_clamp, kz_m1, kz_mn, kz_mn2, kz_n0, kz_0n, kz_0, kz_le0, kz_0lt, false_implies, true_implies, not_false_eq_true, not_true_eq_false, Nat.zero_le, kb_0, kz_10, kz_of, ky_sw, kz_mx, kz_mi, hrd2, hT2', y2]) | (refine ⟨vp_in_nI (by omega) (by omega), ?_⟩) | (refine ⟨fun zc => ?_, fun zc => ?_⟩ <;> try (exfalso; omega)) | fail)
        intro f3 hT3 hF3
        simp only [ky_aft, ky_vl, Nat.reduceAdd]
        have hB3 := kB40 hB2 (kf46 hF3)
        have hW3 := kW46 hW2 hF3
        have hS3 := kS46 hS2 hF3
        have hrd3 : f3 (a 47) = _ := (hF3 47 (by omega)).trans hrd2
        have y3 := kW_lv hW3
        repeat' (first | (refine kx45 ha hW3 (by omega) (show n < n + 1 by omega) hp01 ?_) | (refine ky_ok_stp rfl ?_; simp (disch := first | omega | assumption) only [ky_stp, ky_inv, ky_ldi, ky_ldl, ky_ldd, ky_lda, ky_cl2, ky_st1, ky_st2, ky_s1i, ky_s2i, ky_s1l, ky_s2l, ky_sli, ky_s1f, ky_s2f, ky_s1d, ky_s2d, ky_sr, ky_sai, ky_sasi, ky_sasl, ky_sasr, ky_svr, ky_sv, ky_sv2, ky_s1, ky_cs, ky_pop, ky_nth, ky_snt, ky_obj, ky_ari, ky_arl, ky_arr, ky_arn, ky_fv, ky_rcv, List.map_cons, List.map_nil, List.drop_succ_cons, List.drop_zero, Value.category, Nat.reduceAdd, Nat.reduceSub, true_and, and_true, true_or, or_true, reduceCtorEq, ite_true, ite_false, eq_self, Nat.reduceEqDiff, Nat.reduceLeDiff, nI_add, nI_1, nI_leI, nI_ltI, nI_eq, nI_clamp, kz_m1, kz_mn, kz_mn2, kz_n0, kz_0n, kz_0, kz_le0, kz_0lt, false_implies, true_implies, not_false_eq_true, not_true_eq_false, Nat.zero_le, kb_0, kz_10, kz_of, ky_sw, kz_mx, kz_mi, hrd3, y3]) | (refine ⟨vp_in_nI (by omega) (by omega), ?_⟩) | (refine ⟨fun zc => ?_, fun zc => ?_⟩ <;> try (exfalso; omega)) | fail)
        intro f4 hW4 hF4
        simp only [ky_aft, ky_vl, Nat.reduceAdd]
        have hT4 : kTo a f4 c L _ := kTo_rb hT3 (hF4 46 (by unfold kRB; omega))
        have hB4 : kB a 40 f4 700 L c := kB_fr hB3 (hF4 40 (by unfold kRB; omega)) (hF4 41 (by unfold kRB; omega))
        have hS4 := kS_rb hS3 hF4
        have hrd4 : f4 (a 47) = _ := (hF4 47 (by unfold kRB; omega)).trans hrd3
        have hF4' : kfr a f3 f4 kRF := fun j hj => hF4 j (by unfold kRB; unfold kRF at hj; omega)
        have y4 := kW_lv hW4
        have hT4' := hT4
        unfold kTo at hT4'
        repeat' (first | (refine kx87c ha hB4 hx1.2 (t := 1) (W := kwF) (by decide) rfl (by decide) (by decide) (by decide) hT4 ?_) | (refine ky_ok_stp rfl ?_; simp (disch := first | omega | assumption) only [ky_stp, ky_inv, ky_ldi, ky_ldl, ky_ldd, ky_lda, ky_cl2, ky_st1, ky_st2, ky_s1i, ky_s2i, ky_s1l, ky_s2l, ky_sli, ky_s1f, ky_s2f, ky_s1d, ky_s2d, ky_sr, ky_sai, ky_sasi, ky_sasl, ky_sasr, ky_svr, ky_sv, ky_sv2, ky_s1, ky_cs, ky_pop, ky_nth, ky_snt, ky_obj, ky_ari, ky_arl, ky_arr, ky_arn, ky_fv, ky_rcv, List.map_cons, List.map_nil, List.drop_succ_cons, List.drop_zero, Value.category, Nat.reduceAdd, Nat.reduceSub, true_and, and_true, true_or, or_true, reduceCtorEq, ite_true, ite_false, eq_self, Nat.reduceEqDiff, Nat.reduceLeDiff, nI_add, nI_1, nI_leI, nI_ltI, nI_eq, nI_clamp, kz_m1, kz_mn, kz_mn2, kz_n0, kz_0n, kz_0, kz_le0, kz_0lt, false_implies, true_implies, not_false_eq_true, not_true_eq_false, Nat.zero_le, kb_0, kz_10, kz_of, ky_sw, kz_mx, kz_mi, hrd4, hT4', y4]) | (refine ⟨vp_in_nI (by omega) (by omega), ?_⟩) | (refine ⟨fun zc => ?_, fun zc => ?_⟩ <;> try (exfalso; omega)) | fail)
        intro f5 hT5 hF5
        simp only [ky_aft, ky_vl, Nat.reduceAdd]
        have hB5 := kB40 hB4 (kf46 hF5)
        have hW5 := kW46 hW4 hF5
        have hS5 := kS46 hS4 hF5
        have hrd5 : f5 (a 47) = _ := (hF5 47 (by omega)).trans hrd4
        have y5 := kW_lv hW5
        repeat' (first | (refine kx46 ha hW5 (by omega) (show n < n + 1 by omega) hp01 ?_) | (refine ky_ok_stp rfl ?_; simp (disch := first | omega | assumption) only [ky_stp, ky_inv, ky_ldi, ky_ldl, ky_ldd, ky_lda, ky_cl2, ky_st1, ky_st2, ky_s1i, ky_s2i, ky_s1l, ky_s2l, ky_sli, ky_s1f, ky_s2f, ky_s1d, ky_s2d, ky_sr, ky_sai, ky_sasi, ky_sasl, ky_sasr, ky_svr, ky_sv, ky_sv2, ky_s1, ky_cs, ky_pop, ky_nth, ky_snt, ky_obj, ky_ari, ky_arl, ky_arr, ky_arn, ky_fv, ky_rcv, List.map_cons, List.map_nil, List.drop_succ_cons, List.drop_zero, Value.category, Nat.reduceAdd, Nat.reduceSub, true_and, and_true, true_or, or_true, reduceCtorEq, ite_true, ite_false, eq_self, Nat.reduceEqDiff, Nat.reduceLeDiff, nI_add, nI_1, nI_leI, nI_ltI, nI_eq, nI_clamp, kz_m1, kz_mn, kz_mn2, kz_n0, kz_0n, kz_0, kz_le0, kz_0lt, false_implies, true_implies, not_false_eq_true, not_true_eq_false, Nat.zero_le, kb_0, kz_10, kz_of, ky_sw, kz_mx, kz_mi, hrd5, y5]) | (refine ⟨vp_in_nI (by omega) (by omega), ?_⟩) | (refine ⟨fun zc => ?_, fun zc => ?_⟩ <;> try (exfalso; omega)) | fail)
        intro f6 hW6 hF6
        simp only [ky_aft, ky_vl, Nat.reduceAdd]
        have hT6 : kTo a f6 c L _ := kTo_rb hT5 (hF6 46 (by unfold kRB; omega))
        have hB6 : kB a 40 f6 700 L c := kB_fr hB5 (hF6 40 (by unfold kRB; omega)) (hF6 41 (by unfold kRB; omega))
        have hS6 := kS_rb hS5 hF6
        have hrd6 : f6 (a 47) = _ := (hF6 47 (by unfold kRB; omega)).trans hrd5
        have hF6' : kfr a f5 f6 kRF := fun j hj => hF6 j (by unfold kRB; unfold kRF at hj; omega)
        have hT6' := hT6
        unfold kTo at hT6'
        repeat' (first | (refine kx86c ha hB6 hx2.2 hT6 ?_) | (refine ky_ok_stp rfl ?_; simp (disch := first | omega | assumption) only [ky_stp, ky_inv, ky_ldi, ky_ldl, ky_ldd, ky_lda, ky_cl2, ky_st1, ky_st2, ky_s1i, ky_s2i, ky_s1l, ky_s2l, ky_sli, ky_s1f, ky_s2f, ky_s1d, ky_s2d, ky_sr, ky_sai, ky_sasi, ky_sasl, ky_sasr, ky_svr, ky_sv, ky_sv2, ky_s1, ky_cs, ky_pop, ky_nth, ky_snt, ky_obj, ky_ari, ky_arl, ky_arr, ky_arn, ky_fv, ky_rcv, List.map_cons, List.map_nil, List.drop_succ_cons, List.drop_zero, Value.category, Nat.reduceAdd, Nat.reduceSub, true_and, and_true, true_or, or_true, reduceCtorEq, ite_true, ite_false, eq_self, Nat.reduceEqDiff, Nat.reduceLeDiff, nI_add, nI_1, nI_leI, nI_ltI, nI_eq, nI_clamp, kz_m1, kz_mn, kz_mn2, kz_n0, kz_0n, kz_0, kz_le0, kz_0lt, false_implies, true_implies, not_false_eq_true, not_true_eq_false, Nat.zero_le, kb_0, kz_10, kz_of, ky_sw, kz_mx, kz_mi, hrd6, hT6']) | (refine ⟨vp_in_nI (by omega) (by omega), ?_⟩) | (refine ⟨fun zc => ?_, fun zc => ?_⟩ <;> try (exfalso; omega)) | fail)
        intro f7 hT7 hF7
        simp only [ky_aft, ky_vl, Nat.reduceAdd]
        repeat' (first | (refine ky_ok_stp rfl ?_; simp (disch := first | omega | assumption) only [ky_stp, ky_inv, ky_ldi, ky_ldl, ky_ldd, ky_lda, ky_cl2, ky_st1, ky_st2, ky_s1i, ky_s2i, ky_s1l, ky_s2l, ky_sli, ky_s1f, ky_s2f, ky_s1d, ky_s2d, ky_sr, ky_sai, ky_sasi, ky_sasl, ky_sasr, ky_svr, ky_sv, ky_sv2, ky_s1, ky_cs, ky_pop, ky_nth, ky_snt, ky_obj, ky_ari, ky_arl, ky_arr, ky_arn, ky_fv, ky_rcv, List.map_cons, List.map_nil, List.drop_succ_cons, List.drop_zero, Value.category, Nat.reduceAdd, Nat.reduceSub, true_and, and_true, true_or, or_true, reduceCtorEq, ite_true, ite_false, eq_self, Nat.reduceEqDiff, Nat.reduceLeDiff, nI_add, nI_1, nI_leI, nI_ltI, nI_eq, nI_clamp, kz_m1, kz_mn, kz_mn2, kz_n0, kz_0n, kz_0, kz_le0, kz_0lt, false_implies, true_implies, not_false_eq_true, not_true_eq_false, Nat.zero_le, kb_0, kz_10, kz_of, ky_sw, kz_mx, kz_mi]) | (refine ⟨vp_in_nI (by omega) (by omega), ?_⟩) | (refine ⟨fun zc => ?_, fun zc => ?_⟩ <;> try (exfalso; omega)) | fail)
        have eR : ∀ (r1 r2 r3 : kR), kru (kru (kru R n r1) n r2) n r3 = kru R n r3 := fun r1 r2 r3 => by
          funext j; unfold kru; split <;> rfl
        have hW7 := kW46 hW6 hF7
        rw [eR] at hW7
        simp only [kru_s] at hW7
        have hS7 := kS46 hS6 hF7
        exact hQ f7 hT7 (kfRR hF1' (kfRR (kf46 hF2) (kfRR (kf46 hF3) (kfRR hF4' (kfRR (kf46 hF5) (kfRR hF6' (kf46 hF7))))))) (fun _ => ⟨⟨_, hW7⟩, hS7⟩) ⟨⟨_, _, S⟩, ⟨_, hW7⟩, hS7⟩
    have loop : ∀ m f l s', l + m = 7 → kSr c L (g + 1) 7 0 s = kSr c L (g + 1) m l s' → s' ≤ L → l ≤ 6 → kB a 40 f 700 L c → f (a 47) = some (.inr (4, [.ref (a 46)])) → kTo a f c L s' → kW a 12 f n R G → kS a 12 f S →
        (∀ f', kTo a f' c L (kRh c L n g s).2.1 → kfr a f f' kRF → ((kRh c L n g s).1 = 0 → (∃ G', kW a 12 f' (n + 1) (kru R n (kNW (kRh c L n g s).2.2.1, nI (kRh c L n g s).2.2.2.1, (kRh c L n g s).2.2.2.2.1, (kRh c L n g s).2.2.2.2.2)) G') ∧ kS a 12 f' S) → (∃ z, kZb a 12 f' z) → Q (.inl (some (.int (nI (kRh c L n g s).1)))) f') →
        ky_ok adK 54 26 [some (.ref (a 47)), some (.ref (a 12)), some (.int (nI (g + 1))), some (.int (nI l)), none] [] f 0 0 Q := by
      intro m
      induction m with
      | zero => intro f l s' hl; omega
      | succ m ih =>
        intro f l s' hl hsr hs' hl6 hB hrd hT hW hS hQ
        have hT' := hT
        unfold kTo at hT'
        have y0 := kW_lv hW
        have hz : ∃ z, kZb a 12 f z := ⟨⟨n, R, S⟩, ⟨G, hW⟩, hS⟩
        conv at hsr => rhs; rw [kSr]
        (refine ky_ok_stp rfl ?_; simp (disch := first | omega | assumption) only [ky_stp, ky_inv, ky_ldi, ky_ldl, ky_ldd, ky_lda, ky_cl2, ky_st1, ky_st2, ky_s1i, ky_s2i, ky_s1l, ky_s2l, ky_sli, ky_s1f, ky_s2f, ky_s1d, ky_s2d, ky_sr, ky_sai, ky_sasi, ky_sasl, ky_sasr, ky_svr, ky_sv, ky_sv2, ky_s1, ky_cs, ky_pop, ky_nth, ky_snt, ky_obj, ky_ari, ky_arl, ky_arr, ky_arn, ky_fv, ky_rcv, List.map_cons, List.map_nil, List.drop_succ_cons, List.drop_zero, Value.category, Nat.reduceAdd, Nat.reduceSub, true_and, and_true, true_or, or_true, reduceCtorEq, ite_true, ite_false, eq_self, Nat.reduceEqDiff, Nat.reduceLeDiff, nI_add, nI_1, nI_leI, nI_ltI, nI_eq, nI_clamp, kz_m1, kz_mn, kz_mn2, kz_n0, kz_0n, kz_0, kz_le0, kz_0lt, false_implies, true_implies, not_false_eq_true, not_true_eq_false, Nat.zero_le, kb_0, kz_10, kz_of, ky_sw, kz_mx, kz_mi, hT'])
        by_cases e3 : kTk c L s' = 3
        · rw [if_pos e3] at hsr
          by_cases e6 : 6 < l + 1
          · rw [if_pos e6] at hsr
            have e : kRh c L n g s = (2, s', [], 0, 0, 0) := by rw [kRh, if_neg hn60, hsr, if_pos (by simp)]
            rw [e] at hQ
            repeat' (first | (refine ky_ok_stp rfl ?_; simp (disch := first | omega | assumption) only [ky_stp, ky_inv, ky_ldi, ky_ldl, ky_ldd, ky_lda, ky_cl2, ky_st1, ky_st2, ky_s1i, ky_s2i, ky_s1l, ky_s2l, ky_sli, ky_s1f, ky_s2f, ky_s1d, ky_s2d, ky_sr, ky_sai, ky_sasi, ky_sasl, ky_sasr, ky_svr, ky_sv, ky_sv2, ky_s1, ky_cs, ky_pop, ky_nth, ky_snt, ky_obj, ky_ari, ky_arl, ky_arr, ky_arn, ky_fv, ky_rcv, List.map_cons, List.map_nil, List.drop_succ_cons, List.drop_zero, Value.category, Nat.reduceAdd, Nat.reduceSub, true_and, and_true, true_or, or_true, reduceCtorEq, ite_true, ite_false, eq_self, Nat.reduceEqDiff, Nat.reduceLeDiff, nI_add, nI_1, nI_leI, nI_ltI, nI_eq, nI_clamp, kz_m1, kz_mn, kz_mn2, kz_n0, kz_0n, kz_0, kz_le0, kz_0lt, false_implies, true_implies, not_false_eq_true, not_true_eq_false, Nat.zero_le, kb_0, kz_10, kz_of, ky_sw, kz_mx, kz_mi, hrd, hT', kz_6, kz_3x, kz_tk, e3]) | (refine ⟨vp_in_nI (by omega) (by omega), ?_⟩) | (refine ⟨fun zc => ?_, fun zc => ?_⟩ <;> try (exfalso; omega)) | fail)
            exact hQ f hT kfr_rf (fun z => by simp at z) hz
          · rw [if_neg e6] at hsr
            by_cases eg : g + 1 < l + 1
            · rw [if_pos eg] at hsr
              have e : kRh c L n g s = (3, s', [], 0, 0, 0) := by rw [kRh, if_neg hn60, hsr, if_pos (by simp)]
              rw [e] at hQ
              repeat' (first | (refine ky_ok_stp rfl ?_; simp (disch := first | omega | assumption) only [ky_stp, ky_inv, ky_ldi, ky_ldl, ky_ldd, ky_lda, ky_cl2, ky_st1, ky_st2, ky_s1i, ky_s2i, ky_s1l, ky_s2l, ky_sli, ky_s1f, ky_s2f, ky_s1d, ky_s2d, ky_sr, ky_sai, ky_sasi, ky_sasl, ky_sasr, ky_svr, ky_sv, ky_sv2, ky_s1, ky_cs, ky_pop, ky_nth, ky_snt, ky_obj, ky_ari, ky_arl, ky_arr, ky_arn, ky_fv, ky_rcv, List.map_cons, List.map_nil, List.drop_succ_cons, List.drop_zero, Value.category, Nat.reduceAdd, Nat.reduceSub, true_and, and_true, true_or, or_true, reduceCtorEq, ite_true, ite_false, eq_self, Nat.reduceEqDiff, Nat.reduceLeDiff, nI_add, nI_1, nI_leI, nI_ltI, nI_eq, nI_clamp, kz_m1, kz_mn, kz_mn2, kz_n0, kz_0n, kz_0, kz_le0, kz_0lt, false_implies, true_implies, not_false_eq_true, not_true_eq_false, Nat.zero_le, kb_0, kz_10, kz_of, ky_sw, kz_mx, kz_mi, hrd, hT', kz_6, kz_3x, kz_tk, e3]) | (refine ⟨vp_in_nI (by omega) (by omega), ?_⟩) | (refine ⟨fun zc => ?_, fun zc => ?_⟩ <;> try (exfalso; omega)) | fail)
              exact hQ f hT kfr_rf (fun z => by simp at z) hz
            · rw [if_neg eg] at hsr
              repeat' (first | (refine kx77 ha hB (kTe_le (c := c) hs').2 (kTo_b hT) ?_) | (refine ky_ok_stp rfl ?_; simp (disch := first | omega | assumption) only [ky_stp, ky_inv, ky_ldi, ky_ldl, ky_ldd, ky_lda, ky_cl2, ky_st1, ky_st2, ky_s1i, ky_s2i, ky_s1l, ky_s2l, ky_sli, ky_s1f, ky_s2f, ky_s1d, ky_s2d, ky_sr, ky_sai, ky_sasi, ky_sasl, ky_sasr, ky_svr, ky_sv, ky_sv2, ky_s1, ky_cs, ky_pop, ky_nth, ky_snt, ky_obj, ky_ari, ky_arl, ky_arr, ky_arn, ky_fv, ky_rcv, List.map_cons, List.map_nil, List.drop_succ_cons, List.drop_zero, Value.category, Nat.reduceAdd, Nat.reduceSub, true_and, and_true, true_or, or_true, reduceCtorEq, ite_true, ite_false, eq_self, Nat.reduceEqDiff, Nat.reduceLeDiff, nI_add, nI_1, nI_leI, nI_ltI, nI_eq, nI_clamp, kz_m1, kz_mn, kz_mn2, kz_n0, kz_0n, kz_0, kz_le0, kz_0lt, false_implies, true_implies, not_false_eq_true, not_true_eq_false, Nat.zero_le, kb_0, kz_10, kz_of, ky_sw, kz_mx, kz_mi, hrd, hT', kz_6, kz_3x, kz_tk, e3]) | (refine ⟨vp_in_nI (by omega) (by omega), ?_⟩) | (refine ⟨fun zc => ?_, fun zc => ?_⟩ <;> try (exfalso; omega)) | fail)
              intro f2 hT2 hF2
              simp only [ky_aft, ky_vl, Nat.reduceAdd]
              repeat' (first | (refine ih f2 (l + 1) (kTn c L s') (by omega) hsr (kTn_le hs').2 (by omega) (kB40 hB (kf46 hF2)) ((hF2 47 (by omega)).trans hrd) hT2 (kW46 hW hF2) (kS46 hS hF2) ?_) | (refine ky_ok_stp rfl ?_; simp (disch := first | omega | assumption) only [ky_stp, ky_inv, ky_ldi, ky_ldl, ky_ldd, ky_lda, ky_cl2, ky_st1, ky_st2, ky_s1i, ky_s2i, ky_s1l, ky_s2l, ky_sli, ky_s1f, ky_s2f, ky_s1d, ky_s2d, ky_sr, ky_sai, ky_sasi, ky_sasl, ky_sasr, ky_svr, ky_sv, ky_sv2, ky_s1, ky_cs, ky_pop, ky_nth, ky_snt, ky_obj, ky_ari, ky_arl, ky_arr, ky_arn, ky_fv, ky_rcv, List.map_cons, List.map_nil, List.drop_succ_cons, List.drop_zero, Value.category, Nat.reduceAdd, Nat.reduceSub, true_and, and_true, true_or, or_true, reduceCtorEq, ite_true, ite_false, eq_self, Nat.reduceEqDiff, Nat.reduceLeDiff, nI_add, nI_1, nI_leI, nI_ltI, nI_eq, nI_clamp, kz_m1, kz_mn, kz_mn2, kz_n0, kz_0n, kz_0, kz_le0, kz_0lt, false_implies, true_implies, not_false_eq_true, not_true_eq_false, Nat.zero_le, kb_0, kz_10, kz_of, ky_sw, kz_mx, kz_mi]) | (refine ⟨vp_in_nI (by omega) (by omega), ?_⟩) | (refine ⟨fun zc => ?_, fun zc => ?_⟩ <;> try (exfalso; omega)) | fail)
              intro f' w1 w2 w3 w4
              exact hQ f' w1 (kfRR (kf46 hF2) w2) w3 w4
        · rw [if_neg e3] at hsr
          repeat' (first | (refine tail f l s' hsr hs' hl6 kfr_rf hB hrd hT hW hS hQ) | (refine ky_ok_stp rfl ?_; simp (disch := first | omega | assumption) only [ky_stp, ky_inv, ky_ldi, ky_ldl, ky_ldd, ky_lda, ky_cl2, ky_st1, ky_st2, ky_s1i, ky_s2i, ky_s1l, ky_s2l, ky_sli, ky_s1f, ky_s2f, ky_s1d, ky_s2d, ky_sr, ky_sai, ky_sasi, ky_sasl, ky_sasr, ky_svr, ky_sv, ky_sv2, ky_s1, ky_cs, ky_pop, ky_nth, ky_snt, ky_obj, ky_ari, ky_arl, ky_arr, ky_arn, ky_fv, ky_rcv, List.map_cons, List.map_nil, List.drop_succ_cons, List.drop_zero, Value.category, Nat.reduceAdd, Nat.reduceSub, true_and, and_true, true_or, or_true, reduceCtorEq, ite_true, ite_false, eq_self, Nat.reduceEqDiff, Nat.reduceLeDiff, nI_add, nI_1, nI_leI, nI_ltI, nI_eq, nI_clamp, kz_m1, kz_mn, kz_mn2, kz_n0, kz_0n, kz_0, kz_le0, kz_0lt, false_implies, true_implies, not_false_eq_true, not_true_eq_false, Nat.zero_le, kb_0, kz_10, kz_of, ky_sw, kz_mx, kz_mi, hrd, hT', kz_6, kz_3x, kz_tk, eq_false e3]) | (refine ⟨vp_in_nI (by omega) (by omega), ?_⟩) | (refine ⟨fun zc => ?_, fun zc => ?_⟩ <;> try (exfalso; omega)) | fail)
    have y0 := kW_lv hW
    refine ⟨Nat.le_of_ble_eq_true rfl, fun z => absurd z (by decide), ?_⟩; show ky_ok adK 54 0 [some (.ref (a 47)), some (.ref (a 12)), none, none, none] [] f 0 0 _
    repeat' (first | (refine kx27j hW.1 hn (Nat.le_refl n) ?_; simp only [ky_aft, ky_vl, Nat.reduceAdd]) | (refine loop 7 f 0 s rfl rfl hs (by decide) hB hrd hT hW hS hQ) | (refine ky_ok_stp rfl ?_; simp (disch := first | omega | assumption) only [ky_stp, ky_inv, ky_ldi, ky_ldl, ky_ldd, ky_lda, ky_cl2, ky_st1, ky_st2, ky_s1i, ky_s2i, ky_s1l, ky_s2l, ky_sli, ky_s1f, ky_s2f, ky_s1d, ky_s2d, ky_sr, ky_sai, ky_sasi, ky_sasl, ky_sasr, ky_svr, ky_sv, ky_sv2, ky_s1, ky_cs, ky_pop, ky_nth, ky_snt, ky_obj, ky_ari, ky_arl, ky_arr, ky_arn, ky_fv, ky_rcv, List.map_cons, List.map_nil, List.drop_succ_cons, List.drop_zero, Value.category, Nat.reduceAdd, Nat.reduceSub, true_and, and_true, true_or, or_true, reduceCtorEq, ite_true, ite_false, eq_self, Nat.reduceEqDiff, Nat.reduceLeDiff, nI_add, nI_1, nI_leI, nI_ltI, nI_eq, nI_clamp, kz_m1, kz_mn, kz_mn2, kz_n0, kz_0n, kz_0, kz_le0, kz_0lt, false_implies, true_implies, not_false_eq_true, not_true_eq_false, Nat.zero_le, kb_0, kz_10, kz_of, ky_sw, kz_mx, kz_mi, y0, kz_60, hg]) | (refine ⟨vp_in_nI (by omega) (by omega), ?_⟩) | (refine ⟨fun zc => ?_, fun zc => ?_⟩ <;> try (exfalso; omega)) | fail)
end KXR
