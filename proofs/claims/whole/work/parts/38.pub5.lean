/-! ## lines, names, what is found -/
def kLk (l : List Nat) (bl : Nat) (bc : Nat → Nat) : Prop := l.length = bl ∧ ∀ i, i < bl → l.getD i 0 = bc i
/-- the first (plus 1) from i on, of m; 0 if there is none -/
noncomputable def kFf (p : Nat → Prop) : Nat → Nat → Nat
  | _, 0 => 0
  | i, m + 1 => @ite _ (p i) (Classical.propDecidable _) (i + 1) (kFf p (i + 1) m)
noncomputable def kNme (z : kZ) (p : Nat) : List Nat := kWo (kN z.R p)
noncomputable def kLn (z : kZ) (p : Nat) : List Nat := List.replicate (kV z.R p - 1) 32 ++ ((if kCO z p = 0 then [] else kNO z p ++ [32]) ++ (kNme z p ++ ((if kFo z.R p = 0 then [] else [43]) ++ [10])))
noncomputable def kOut (z : kZ) : List Nat → List Nat
  | [] => []
  | p :: r => kLn z p ++ kOut z r
theorem kLn_le {z : kZ} {p : Nat} (ho : kZo z) (hp : p < z.n) : (kLn z p).length ≤ 71 := by
  have h1 := (ho.lv p hp).2.2
  have h2 := kNo_len (kZo_w ho) hp
  have h3 := (kWo_s (ho.wd p hp)).2.2.1
  unfold kLn
  simp only [List.length_append, List.length_replicate]
  have h4 : (if kCO z p = 0 then [] else kNO z p ++ [32]).length ≤ 55 := by
    split
    · simp
    · rw [List.length_append, List.length_singleton]; unfold kNO; omega
  have h5 : (if kFo z.R p = 0 then ([] : List Nat) else [43]).length ≤ 1 := by split <;> simp
  have h6 : (kNme z p).length ≤ 8 := h3
  simp only [List.length_cons, List.length_nil]
  omega
theorem kOut_le {z : kZ} (ho : kZo z) : ∀ l : List Nat, (∀ x ∈ l, x < z.n) → (kOut z l).length ≤ 71 * l.length
  | [], _ => Nat.le_refl _
  | p :: r, h => by
    have h1 := kLn_le ho (h p List.mem_cons_self)
    have h2 := kOut_le ho r fun x hx => h x (List.mem_cons_of_mem _ hx)
    rw [kOut, List.length_append, List.length_cons]; omega
theorem kapp_2 (c : Nat → Nat) (len : Nat) (l : List Nat) (b : Nat) : ∀ i, i < len + l.length + 1 → kapp c len (l ++ [b]) i = kcu (kapp c len l) (len + l.length) b i := fun i hi => (kapp_one c len l b i hi).symm
section KXP
variable {adK a : Nat → Nat} {f : ky_H} {s : kSt} {Q : ky_Q} {x y v : Int32} {p t w i e l j k kl cap len b : Nat} {c : Nat → Nat}
/-- a byte more behind what was appended -/
theorem kx2a {o : List Nat} (ha : kI a) (hB : kB a kl f cap (len + o.length) (kapp c len o)) (hl : len + o.length < cap) (hc : cap < 100000) (hb : b < 256) (hQ : ∀ f', kB a kl f' cap (len + (o ++ [b]).length) (kapp c len (o ++ [b])) → kfr a f f' (kBB kl) → Q (.inl none) f') : ky_cl adK 2 [.ref (a kl), .int (nI b)] f Q := by
  refine kx2 ha hB hl hc hb fun f' w1 w2 => hQ f' ?_ w2
  have e : len + (o ++ [b]).length = len + o.length + 1 := by rw [List.length_append, List.length_singleton]; omega
  rw [e]
  exact kB_co w1 fun i hi => kapp_2 c len o b i hi
theorem kB_app {o : List Nat} (hB : kB a kl f cap len c) (e : o = []) : kB a kl f cap (len + o.length) (kapp c len o) := by
  subst e
  exact kB_co hB fun i hi => kapp_nil hi
theorem kx144 {o : List Nat} {er ep : Int32} {n : Nat} {R : Nat → kR} {G : Nat → Int32} (ha : kI a) (h0 : kKo a f er ep) (hW : kW a 1 f n R G) (hn : n ≤ 60) (hp : p < n) (hwd : ∃ w, kN R p = kNW w ∧ kWd w) (hkl : kl = 42 ∨ kl = 44) (hB : kB a kl f cap (len + o.length) (kapp c len o)) (hl : len + (o ++ kWo (kN R p)).length ≤ cap) (hc : cap < 100000)
    (hQ : ∀ f', kB a kl f' cap (len + (o ++ kWo (kN R p)).length) (kapp c len (o ++ kWo (kN R p))) → kfr a f f' (kBB kl) → Q (.inl none) f') : ky_cl adK 144 [.ref (a 0), .ref (a kl), .int (nI p)] f Q := by
  obtain ⟨e1, e2⟩ := kWo_s hwd
  generalize hw : kWo (kN R p) = w at e1 e2 hl hQ
  have hb : ∀ b ∈ w, b < 256 := fun b hb => by have := e2.2.2 b hb; omega
  have h8 := e2.2.1
  rw [List.length_append] at hl
  have loop : ∀ m t f, t + m = w.length → kB a kl f cap (len + (o ++ w.take t).length) (kapp c len (o ++ w.take t)) → (∀ f', kB a kl f' cap (len + (o ++ w).length) (kapp c len (o ++ w)) → kfr a f f' (kBB kl) → Q (.inl none) f') →
      ky_ok adK 144 18 [some (.ref (a 0)), some (.ref (a kl)), some (.int (nI p)), some (.long (kNW w)), none, some (.int (nI w.length)), some (.int (nI t))] [] f 0 0 Q := by
    intro m
    induction m with
    | zero =>
      intro t f ht hB hQ
      rw [List.take_of_length_le (by omega)] at hB
      repeat' (first | (refine ky_ok_stp rfl ?_; simp (disch := first | omega | assumption) only [ky_stp, ky_inv, ky_ldi, ky_ldl, ky_ldd, ky_lda, ky_cl2, ky_st1, ky_st2, ky_s1i, ky_s2i, ky_s1l, ky_s2l, ky_sli, ky_s1f, ky_s2f, ky_s1d, ky_s2d, ky_sr, ky_sai, ky_sasi, ky_sasl, ky_sasr, ky_svr, ky_sv, ky_sv2, ky_s1, ky_cs, ky_pop, ky_nth, ky_snt, ky_obj, ky_ari, ky_arl, ky_arr, ky_arn, ky_fv, ky_rcv, List.map_cons, List.map_nil, List.drop_succ_cons, List.drop_zero, Value.category, Nat.reduceAdd, Nat.reduceSub, true_and, and_true, true_or, or_true, reduceCtorEq, ite_true, ite_false, eq_self, Nat.reduceEqDiff, Nat.reduceLeDiff, nI_add, nI_1, nI_leI, nI_ltI, nI_eq, nI_clamp, kz_m1, kz_mn, kz_mn2, kz_n0, kz_0n, kz_0, kz_le0, kz_0lt, false_implies, true_implies, not_false_eq_true, not_true_eq_false, Nat.zero_le, kb_0, kz_10, kz_of, ky_sw, kz_mx, kz_mi]) | (refine ⟨vp_in_nI (by omega) (by omega), ?_⟩) | (refine ⟨fun zc => ?_, fun zc => ?_⟩ <;> try (exfalso; omega)) | fail)
      exact hQ f hB kfr_rf
    | succ m ih =>
      intro t f ht hB hQ
      obtain ⟨B, g0, -⟩ := id hB
      have htw : t < w.length := by omega
      have eg : w.getD t 0 = w[t] := by rw [List.getD_eq_getElem?_getD, List.getElem?_eq_getElem htw]; rfl
      have hbt := hb _ (List.getElem_mem htw)
      rw [← eg] at hbt
      have e3 : o ++ w.take (t + 1) = o ++ w.take t ++ [w.getD t 0] := by rw [eg, List.append_assoc, List.take_append_getElem]
      have e4 : (o ++ w.take t).length = o.length + t := by rw [List.length_append, List.length_take]; omega
      repeat' (first | (refine kx135 hb (show t < 8 by omega) ?_; simp only [ky_aft, ky_vl, Nat.reduceAdd]) | (refine kx2a ha hB (by rw [e4]; omega) hc hbt ?_) | (refine ky_ok_stp rfl ?_; simp (disch := first | omega | assumption) only [ky_stp, ky_inv, ky_ldi, ky_ldl, ky_ldd, ky_lda, ky_cl2, ky_st1, ky_st2, ky_s1i, ky_s2i, ky_s1l, ky_s2l, ky_sli, ky_s1f, ky_s2f, ky_s1d, ky_s2d, ky_sr, ky_sai, ky_sasi, ky_sasl, ky_sasr, ky_svr, ky_sv, ky_sv2, ky_s1, ky_cs, ky_pop, ky_nth, ky_snt, ky_obj, ky_ari, ky_arl, ky_arr, ky_arn, ky_fv, ky_rcv, List.map_cons, List.map_nil, List.drop_succ_cons, List.drop_zero, Value.category, Nat.reduceAdd, Nat.reduceSub, true_and, and_true, true_or, or_true, reduceCtorEq, ite_true, ite_false, eq_self, Nat.reduceEqDiff, Nat.reduceLeDiff, nI_add, nI_1, nI_leI, nI_ltI, nI_eq, nI_clamp, kz_m1, kz_mn, kz_mn2, kz_n0, kz_0n, kz_0, kz_le0, kz_0lt, false_implies, true_implies, not_false_eq_true, not_true_eq_false, Nat.zero_le, kb_0, kz_10, kz_of, ky_sw, kz_mx, kz_mi, g0]) | (refine ⟨vp_in_nI (by omega) (by omega), ?_⟩) | (refine ⟨fun zc => ?_, fun zc => ?_⟩ <;> try (exfalso; omega)) | fail)
      intro f1 hB1 hF1
      simp only [ky_aft, ky_vl, Nat.reduceAdd]
      rw [← e3] at hB1
      repeat' (first | (refine ih (t + 1) f1 (by omega) hB1 ?_) | (refine ky_ok_stp rfl ?_; simp (disch := first | omega | assumption) only [ky_stp, ky_inv, ky_ldi, ky_ldl, ky_ldd, ky_lda, ky_cl2, ky_st1, ky_st2, ky_s1i, ky_s2i, ky_s1l, ky_s2l, ky_sli, ky_s1f, ky_s2f, ky_s1d, ky_s2d, ky_sr, ky_sai, ky_sasi, ky_sasl, ky_sasr, ky_svr, ky_sv, ky_sv2, ky_s1, ky_cs, ky_pop, ky_nth, ky_snt, ky_obj, ky_ari, ky_arl, ky_arr, ky_arn, ky_fv, ky_rcv, List.map_cons, List.map_nil, List.drop_succ_cons, List.drop_zero, Value.category, Nat.reduceAdd, Nat.reduceSub, true_and, and_true, true_or, or_true, reduceCtorEq, ite_true, ite_false, eq_self, Nat.reduceEqDiff, Nat.reduceLeDiff, nI_add, nI_1, nI_leI, nI_ltI, nI_eq, nI_clamp, kz_m1, kz_mn, kz_mn2, kz_n0, kz_0n, kz_0, kz_le0, kz_0lt, false_implies, true_implies, not_false_eq_true, not_true_eq_false, Nat.zero_le, kb_0, kz_10, kz_of, ky_sw, kz_mx, kz_mi]) | (refine ⟨vp_in_nI (by omega) (by omega), ?_⟩) | (refine ⟨fun zc => ?_, fun zc => ?_⟩ <;> try (exfalso; omega)) | fail)
      intro f' w1 w2
      exact hQ f' w1 (kfr_tr hF1 w2 fun j hj => ⟨hj, hj⟩)
  unfold kKo at h0
  have y0 := kW_lv hW
  refine ⟨Nat.le_of_ble_eq_true rfl, fun z => absurd z (by decide), ?_⟩; show ky_ok adK 144 0 [some (.ref (a 0)), some (.ref (a kl)), some (.int (nI p)), none, none, none, none] [] f 0 0 _
  repeat' (first | ((refine kx26 hW.1 hn hp ?_; rw [e1]; simp only [ky_aft, ky_vl, Nat.reduceAdd])) | (refine kx136 e2 ?_; simp only [ky_aft, ky_vl, Nat.reduceAdd]) | (refine loop w.length 0 f (Nat.zero_add _) ?_ hQ) | (refine ky_ok_stp rfl ?_; simp (disch := first | omega | assumption) only [ky_stp, ky_inv, ky_ldi, ky_ldl, ky_ldd, ky_lda, ky_cl2, ky_st1, ky_st2, ky_s1i, ky_s2i, ky_s1l, ky_s2l, ky_sli, ky_s1f, ky_s2f, ky_s1d, ky_s2d, ky_sr, ky_sai, ky_sasi, ky_sasl, ky_sasr, ky_svr, ky_sv, ky_sv2, ky_s1, ky_cs, ky_pop, ky_nth, ky_snt, ky_obj, ky_ari, ky_arl, ky_arr, ky_arn, ky_fv, ky_rcv, List.map_cons, List.map_nil, List.drop_succ_cons, List.drop_zero, Value.category, Nat.reduceAdd, Nat.reduceSub, true_and, and_true, true_or, or_true, reduceCtorEq, ite_true, ite_false, eq_self, Nat.reduceEqDiff, Nat.reduceLeDiff, nI_add, nI_1, nI_leI, nI_ltI, nI_eq, nI_clamp, kz_m1, kz_mn, kz_mn2, kz_n0, kz_0n, kz_0, kz_le0, kz_0lt, false_implies, true_implies, not_false_eq_true, not_true_eq_false, Nat.zero_le, kb_0, kz_10, kz_of, ky_sw, kz_mx, kz_mi, h0, y0]) | (refine ⟨vp_in_nI (by omega) (by omega), ?_⟩) | (refine ⟨fun zc => ?_, fun zc => ?_⟩ <;> try (exfalso; omega)) | fail)
  rw [List.take_zero, List.append_nil]; exact hB
/-- a line behind what was written -/
theorem kx145 {o : List Nat} (h : kK a f s) (hp : p < s.o.n) (hN : kNu a 23 f s.o.n (kKD s.o) (kCO s.o) (kPF s.o)) (hB : kB a 42 f 4260 (len + o.length) (kapp c len o)) (hl : len + (o ++ kLn s.o p).length ≤ 4260)
    (hQ : ∀ f', kB a 42 f' 4260 (len + (o ++ kLn s.o p).length) (kapp c len (o ++ kLn s.o p)) → kNu a 23 f' s.o.n (kKD s.o) (kCO s.o) (kPF s.o) → kfr a f f' (fun j => j = 29 ∨ j = 42 ∨ j = 43) → Q (.inl none) f') : ky_cl adK 145 [.ref (a 0), .int (nI p)] f Q := by
  have ha := h.1
  have h0 := h.2.1.o
  have hn := h.2.2.2.o.n60
  have hw := kZo_w h.2.2.2.o
  have ho := h.2.2.2.o
  obtain ⟨G, hW⟩ := h.2.1.z.1
  obtain ⟨el, l1, l6⟩ := ho.lv p hp
  have e32 : (32 : Int32) = nI 32 := rfl
  have e43 : (43 : Int32) = nI 43 := rfl
  have e10 : (10 : Int32) = nI 10 := rfl
  -- what stays of the heap
  have hKo : ∀ {f'}, kfr a f f' (fun j => j = 29 ∨ j = 42 ∨ j = 43) → kKo a f' s.er s.ep := fun hF => (hF 0 (by omega)).trans h0
  have hWo : ∀ {f'}, kfr a f f' (fun j => j = 29 ∨ j = 42 ∨ j = 43) → kW a 1 f' s.o.n s.o.R G := fun hF => kW_fr hW fun j z1 z2 => hF j (by omega)
  have hbb : ∀ {f1 f2}, kfr a f1 f2 (kBB 42) → kfr a f1 f2 (fun j => j = 29 ∨ j = 42 ∨ j = 43) := fun hF j hj => hF j (by unfold kBB; omega)
  have htr : ∀ {f1 f2 f3}, kfr a f1 f2 (fun j => j = 29 ∨ j = 42 ∨ j = 43) → kfr a f2 f3 (fun j => j = 29 ∨ j = 42 ∨ j = 43) → kfr a f1 f3 (fun j => j = 29 ∨ j = 42 ∨ j = 43) := fun g1 g2 => kfr_tr g1 g2 fun j hj => ⟨hj, hj⟩
  have hnu : ∀ {f1 f2}, kNu a 23 f1 s.o.n (kKD s.o) (kCO s.o) (kPF s.o) → kfr a f1 f2 (kBB 42) → kNu a 23 f2 s.o.n (kKD s.o) (kCO s.o) (kPF s.o) := fun g1 g2 => kNu_fr g1 fun j z1 z2 => g2 j (by unfold kBB; omega)
  have hll := hl
  unfold kLn at hll
  generalize ho2 : (if kFo s.o.R p = 0 then ([] : List Nat) else [43]) ++ [10] = P5 at hll
  -- the end: plus sign, line feed
  have fin : ∀ f1 o1, kfr a f f1 (fun j => j = 29 ∨ j = 42 ∨ j = 43) → kB a 42 f1 4260 (len + o1.length) (kapp c len o1) → kNu a 23 f1 s.o.n (kKD s.o) (kCO s.o) (kPF s.o) → o ++ kLn s.o p = o1 ++ P5 → ∀ v2 v3, ky_ok adK 145 72 [some (.ref (a 0)), some (.int (nI p)), v2, v3] [] f1 0 0 Q := by
    intro f1 o1 hF1 hB1 hN1 ho1 v2 v3
    have h01 := hKo hF1
    unfold kKo at h01
    have hW1 := hWo hF1
    have y1 := kW_lv hW1
    obtain ⟨B, g0, -⟩ := id hB1
    rw [ho1] at hl hQ
    rw [← ho2] at hl hQ
    have k7 := k01_kb (ho.fl p hp).2
    by_cases hf : kFo s.o.R p = 0
    · rw [if_pos hf, List.nil_append] at hl hQ
      have hl' : len + o1.length < 4260 := by rw [List.length_append, List.length_singleton] at hl; omega
      repeat' (first | (refine kx29 hW1.1 hn hp ?_; simp only [ky_aft, ky_vl, Nat.reduceAdd]) | (refine kx2a ha hB1 hl' (by decide) (by decide) ?_) | (refine ky_ok_stp rfl ?_; simp (disch := first | omega | assumption) only [ky_stp, ky_inv, ky_ldi, ky_ldl, ky_ldd, ky_lda, ky_cl2, ky_st1, ky_st2, ky_s1i, ky_s2i, ky_s1l, ky_s2l, ky_sli, ky_s1f, ky_s2f, ky_s1d, ky_s2d, ky_sr, ky_sai, ky_sasi, ky_sasl, ky_sasr, ky_svr, ky_sv, ky_sv2, ky_s1, ky_cs, ky_pop, ky_nth, ky_snt, ky_obj, ky_ari, ky_arl, ky_arr, ky_arn, ky_fv, ky_rcv, List.map_cons, List.map_nil, List.drop_succ_cons, List.drop_zero, Value.category, Nat.reduceAdd, Nat.reduceSub, true_and, and_true, true_or, or_true, reduceCtorEq, ite_true, ite_false, eq_self, Nat.reduceEqDiff, Nat.reduceLeDiff, nI_add, nI_1, nI_leI, nI_ltI, nI_eq, nI_clamp, kz_m1, kz_mn, kz_mn2, kz_n0, kz_0n, kz_0, kz_le0, kz_0lt, false_implies, true_implies, not_false_eq_true, not_true_eq_false, Nat.zero_le, kb_0, kz_10, kz_of, ky_sw, kz_mx, kz_mi, h01, y1, g0, k7, hf, e10]) | (refine ⟨vp_in_nI (by omega) (by omega), ?_⟩) | (refine ⟨fun zc => ?_, fun zc => ?_⟩ <;> try (exfalso; omega)) | fail)
      intro f2 hB2 hF2
      simp only [ky_aft, ky_vl, Nat.reduceAdd]
      repeat' (first | (refine ky_ok_stp rfl ?_; simp (disch := first | omega | assumption) only [ky_stp, ky_inv, ky_ldi, ky_ldl, ky_ldd, ky_lda, ky_cl2, ky_st1, ky_st2, ky_s1i, ky_s2i, ky_s1l, ky_s2l, ky_sli, ky_s1f, ky_s2f, ky_s1d, ky_s2d, ky_sr, ky_sai, ky_sasi, ky_sasl, ky_sasr, ky_svr, ky_sv, ky_sv2, ky_s1, ky_cs, ky_pop, ky_nth, ky_snt, ky_obj, ky_ari, ky_arl, ky_arr, ky_arn, ky_fv, ky_rcv, List.map_cons, List.map_nil, List.drop_succ_cons, List.drop_zero, Value.category, Nat.reduceAdd, Nat.reduceSub, true_and, and_true, true_or, or_true, reduceCtorEq, ite_true, ite_false, eq_self, Nat.reduceEqDiff, Nat.reduceLeDiff, nI_add, nI_1, nI_leI, nI_ltI, nI_eq, nI_clamp, kz_m1, kz_mn, kz_mn2, kz_n0, kz_0n, kz_0, kz_le0, kz_0lt, false_implies, true_implies, not_false_eq_true, not_true_eq_false, Nat.zero_le, kb_0, kz_10, kz_of, ky_sw, kz_mx, kz_mi]) | (refine ⟨vp_in_nI (by omega) (by omega), ?_⟩) | (refine ⟨fun zc => ?_, fun zc => ?_⟩ <;> try (exfalso; omega)) | fail)
      exact hQ f2 hB2 (hnu hN1 hF2) (htr hF1 (hbb hF2))
    · have h1f : kFo s.o.R p = 1 := (ho.fl p hp).2.resolve_left hf
      rw [if_neg hf, ← List.append_assoc] at hl hQ
      have hl' : len + o1.length + 1 < 4260 := by rw [List.length_append, List.length_append, List.length_singleton, List.length_singleton] at hl; omega
      repeat' (first | (refine kx29 hW1.1 hn hp ?_; simp only [ky_aft, ky_vl, Nat.reduceAdd]) | (refine kx2a ha hB1 (by omega) (by decide) (by decide) ?_) | (refine ky_ok_stp rfl ?_; simp (disch := first | omega | assumption) only [ky_stp, ky_inv, ky_ldi, ky_ldl, ky_ldd, ky_lda, ky_cl2, ky_st1, ky_st2, ky_s1i, ky_s2i, ky_s1l, ky_s2l, ky_sli, ky_s1f, ky_s2f, ky_s1d, ky_s2d, ky_sr, ky_sai, ky_sasi, ky_sasl, ky_sasr, ky_svr, ky_sv, ky_sv2, ky_s1, ky_cs, ky_pop, ky_nth, ky_snt, ky_obj, ky_ari, ky_arl, ky_arr, ky_arn, ky_fv, ky_rcv, List.map_cons, List.map_nil, List.drop_succ_cons, List.drop_zero, Value.category, Nat.reduceAdd, Nat.reduceSub, true_and, and_true, true_or, or_true, reduceCtorEq, ite_true, ite_false, eq_self, Nat.reduceEqDiff, Nat.reduceLeDiff, nI_add, nI_1, nI_leI, nI_ltI, nI_eq, nI_clamp, kz_m1, kz_mn, kz_mn2, kz_n0, kz_0n, kz_0, kz_le0, kz_0lt, false_implies, true_implies, not_false_eq_true, not_true_eq_false, Nat.zero_le, kb_0, kz_10, kz_of, ky_sw, kz_mx, kz_mi, h01, y1, g0, k7, h1f, e43, kz_10]) | (refine ⟨vp_in_nI (by omega) (by omega), ?_⟩) | (refine ⟨fun zc => ?_, fun zc => ?_⟩ <;> try (exfalso; omega)) | fail)
      intro f2 hB2 hF2
      simp only [ky_aft, ky_vl, Nat.reduceAdd]
      have hF2' := htr hF1 (hbb hF2)
      have h02 := hKo hF2'
      unfold kKo at h02
      obtain ⟨B2, t0, -⟩ := id hB2
      repeat' (first | (refine kx2a ha hB2 (by rw [List.length_append, List.length_singleton]; omega) (by decide) (by decide) ?_) | (refine ky_ok_stp rfl ?_; simp (disch := first | omega | assumption) only [ky_stp, ky_inv, ky_ldi, ky_ldl, ky_ldd, ky_lda, ky_cl2, ky_st1, ky_st2, ky_s1i, ky_s2i, ky_s1l, ky_s2l, ky_sli, ky_s1f, ky_s2f, ky_s1d, ky_s2d, ky_sr, ky_sai, ky_sasi, ky_sasl, ky_sasr, ky_svr, ky_sv, ky_sv2, ky_s1, ky_cs, ky_pop, ky_nth, ky_snt, ky_obj, ky_ari, ky_arl, ky_arr, ky_arn, ky_fv, ky_rcv, List.map_cons, List.map_nil, List.drop_succ_cons, List.drop_zero, Value.category, Nat.reduceAdd, Nat.reduceSub, true_and, and_true, true_or, or_true, reduceCtorEq, ite_true, ite_false, eq_self, Nat.reduceEqDiff, Nat.reduceLeDiff, nI_add, nI_1, nI_leI, nI_ltI, nI_eq, nI_clamp, kz_m1, kz_mn, kz_mn2, kz_n0, kz_0n, kz_0, kz_le0, kz_0lt, false_implies, true_implies, not_false_eq_true, not_true_eq_false, Nat.zero_le, kb_0, kz_10, kz_of, ky_sw, kz_mx, kz_mi, h02, t0, e10]) | (refine ⟨vp_in_nI (by omega) (by omega), ?_⟩) | (refine ⟨fun zc => ?_, fun zc => ?_⟩ <;> try (exfalso; omega)) | fail)
      intro f3 hB3 hF3
      simp only [ky_aft, ky_vl, Nat.reduceAdd]
      repeat' (first | (refine ky_ok_stp rfl ?_; simp (disch := first | omega | assumption) only [ky_stp, ky_inv, ky_ldi, ky_ldl, ky_ldd, ky_lda, ky_cl2, ky_st1, ky_st2, ky_s1i, ky_s2i, ky_s1l, ky_s2l, ky_sli, ky_s1f, ky_s2f, ky_s1d, ky_s2d, ky_sr, ky_sai, ky_sasi, ky_sasl, ky_sasr, ky_svr, ky_sv, ky_sv2, ky_s1, ky_cs, ky_pop, ky_nth, ky_snt, ky_obj, ky_ari, ky_arl, ky_arr, ky_arn, ky_fv, ky_rcv, List.map_cons, List.map_nil, List.drop_succ_cons, List.drop_zero, Value.category, Nat.reduceAdd, Nat.reduceSub, true_and, and_true, true_or, or_true, reduceCtorEq, ite_true, ite_false, eq_self, Nat.reduceEqDiff, Nat.reduceLeDiff, nI_add, nI_1, nI_leI, nI_ltI, nI_eq, nI_clamp, kz_m1, kz_mn, kz_mn2, kz_n0, kz_0n, kz_0, kz_le0, kz_0lt, false_implies, true_implies, not_false_eq_true, not_true_eq_false, Nat.zero_le, kb_0, kz_10, kz_of, ky_sw, kz_mx, kz_mi]) | (refine ⟨vp_in_nI (by omega) (by omega), ?_⟩) | (refine ⟨fun zc => ?_, fun zc => ?_⟩ <;> try (exfalso; omega)) | fail)
      exact hQ f3 hB3 (hnu (hnu hN1 hF2) hF3) (htr hF2' (hbb hF3))
  -- the name
  have nam : ∀ f1 o1, kfr a f f1 (fun j => j = 29 ∨ j = 42 ∨ j = 43) → kB a 42 f1 4260 (len + o1.length) (kapp c len o1) → kNu a 23 f1 s.o.n (kKD s.o) (kCO s.o) (kPF s.o) → o ++ kLn s.o p = o1 ++ (kNme s.o p ++ P5) → ∀ v2 v3, ky_ok adK 145 63 [some (.ref (a 0)), some (.int (nI p)), v2, v3] [] f1 0 0 Q := by
    intro f1 o1 hF1 hB1 hN1 ho1 v2 v3
    have h01 := hKo hF1
    have h01' := h01
    unfold kKo at h01'
    have hl2 : len + (o1 ++ kWo (kN s.o.R p)).length ≤ 4260 := by
      rw [ho1, ← List.append_assoc, List.length_append] at hl
      unfold kNme at hl; omega
    repeat' (first | (refine kx144 (kl := 42) ha h01 (hWo hF1) hn hp (ho.wd p hp) (Or.inl rfl) hB1 hl2 (by decide) ?_) | (refine ky_ok_stp rfl ?_; simp (disch := first | omega | assumption) only [ky_stp, ky_inv, ky_ldi, ky_ldl, ky_ldd, ky_lda, ky_cl2, ky_st1, ky_st2, ky_s1i, ky_s2i, ky_s1l, ky_s2l, ky_sli, ky_s1f, ky_s2f, ky_s1d, ky_s2d, ky_sr, ky_sai, ky_sasi, ky_sasl, ky_sasr, ky_svr, ky_sv, ky_sv2, ky_s1, ky_cs, ky_pop, ky_nth, ky_snt, ky_obj, ky_ari, ky_arl, ky_arr, ky_arn, ky_fv, ky_rcv, List.map_cons, List.map_nil, List.drop_succ_cons, List.drop_zero, Value.category, Nat.reduceAdd, Nat.reduceSub, true_and, and_true, true_or, or_true, reduceCtorEq, ite_true, ite_false, eq_self, Nat.reduceEqDiff, Nat.reduceLeDiff, nI_add, nI_1, nI_leI, nI_ltI, nI_eq, nI_clamp, kz_m1, kz_mn, kz_mn2, kz_n0, kz_0n, kz_0, kz_le0, kz_0lt, false_implies, true_implies, not_false_eq_true, not_true_eq_false, Nat.zero_le, kb_0, kz_10, kz_of, ky_sw, kz_mx, kz_mi, h01']) | (refine ⟨vp_in_nI (by omega) (by omega), ?_⟩) | (refine ⟨fun zc => ?_, fun zc => ?_⟩ <;> try (exfalso; omega)) | fail)
    intro f2 hB2 hF2
    simp only [ky_aft, ky_vl, Nat.reduceAdd]
    exact fin f2 _ (htr hF1 (hbb hF2)) hB2 (hnu hN1 hF2) (by rw [ho1, List.append_assoc]; rfl) v2 v3
  -- the NUMBER
  have num : ∀ f1 o1, kfr a f f1 (fun j => j = 29 ∨ j = 42 ∨ j = 43) → kB a 42 f1 4260 (len + o1.length) (kapp c len o1) → kNu a 23 f1 s.o.n (kKD s.o) (kCO s.o) (kPF s.o) → o ++ kLn s.o p = o1 ++ ((if kCO s.o p = 0 then [] else kNO s.o p ++ [32]) ++ (kNme s.o p ++ P5)) → ∀ v2 v3, ky_ok adK 145 31 [some (.ref (a 0)), some (.int (nI p)), v2, v3] [] f1 0 0 Q := by
    intro f1 o1 hF1 hB1 hN1 ho1 v2 v3
    have h01 := hKo hF1
    have h01' := h01
    unfold kKo at h01'
    obtain ⟨KD, CT, PX, NL, LV, CH, w5, w6⟩ := id hN1
    have y23 := w5.1
    by_cases hc : kCO s.o p = 0
    · rw [if_pos hc, List.nil_append] at ho1
      repeat' (first | (refine kx14 w5 (show p < 60 by omega) (w6 p hp).2.1 (hw p hp).2.1 ?_; simp only [ky_aft, ky_vl, Nat.reduceAdd]) | (refine nam f1 o1 hF1 hB1 hN1 ho1 _ _) | (refine ky_ok_stp rfl ?_; simp (disch := first | omega | assumption) only [ky_stp, ky_inv, ky_ldi, ky_ldl, ky_ldd, ky_lda, ky_cl2, ky_st1, ky_st2, ky_s1i, ky_s2i, ky_s1l, ky_s2l, ky_sli, ky_s1f, ky_s2f, ky_s1d, ky_s2d, ky_sr, ky_sai, ky_sasi, ky_sasl, ky_sasr, ky_svr, ky_sv, ky_sv2, ky_s1, ky_cs, ky_pop, ky_nth, ky_snt, ky_obj, ky_ari, ky_arl, ky_arr, ky_arn, ky_fv, ky_rcv, List.map_cons, List.map_nil, List.drop_succ_cons, List.drop_zero, Value.category, Nat.reduceAdd, Nat.reduceSub, true_and, and_true, true_or, or_true, reduceCtorEq, ite_true, ite_false, eq_self, Nat.reduceEqDiff, Nat.reduceLeDiff, nI_add, nI_1, nI_leI, nI_ltI, nI_eq, nI_clamp, kz_m1, kz_mn, kz_mn2, kz_n0, kz_0n, kz_0, kz_le0, kz_0lt, false_implies, true_implies, not_false_eq_true, not_true_eq_false, Nat.zero_le, kb_0, kz_10, kz_of, ky_sw, kz_mx, kz_mi, h01', y23, if_pos hc]) | (refine ⟨vp_in_nI (by omega) (by omega), ?_⟩) | (refine ⟨fun zc => ?_, fun zc => ?_⟩ <;> try (exfalso; omega)) | fail)
    · rw [if_neg hc] at ho1
      have hl2 : len + o1.length + (kNo (kKD s.o) (kCO s.o) (kPF s.o) p).length + 1 ≤ 4260 := by
        rw [ho1, ← List.append_assoc, List.length_append, List.length_append, List.length_append, List.length_singleton] at hl
        unfold kNO at hl; omega
      repeat' (first | (refine kx14 w5 (show p < 60 by omega) (w6 p hp).2.1 (hw p hp).2.1 ?_; simp only [ky_aft, ky_vl, Nat.reduceAdd]) | (refine kx17 ha (by omega) w5 w6 hw hn hp hB1 (by decide) (by omega) ?_) | (refine ky_ok_stp rfl ?_; simp (disch := first | omega | assumption) only [ky_stp, ky_inv, ky_ldi, ky_ldl, ky_ldd, ky_lda, ky_cl2, ky_st1, ky_st2, ky_s1i, ky_s2i, ky_s1l, ky_s2l, ky_sli, ky_s1f, ky_s2f, ky_s1d, ky_s2d, ky_sr, ky_sai, ky_sasi, ky_sasl, ky_sasr, ky_svr, ky_sv, ky_sv2, ky_s1, ky_cs, ky_pop, ky_nth, ky_snt, ky_obj, ky_ari, ky_arl, ky_arr, ky_arn, ky_fv, ky_rcv, List.map_cons, List.map_nil, List.drop_succ_cons, List.drop_zero, Value.category, Nat.reduceAdd, Nat.reduceSub, true_and, and_true, true_or, or_true, reduceCtorEq, ite_true, ite_false, eq_self, Nat.reduceEqDiff, Nat.reduceLeDiff, nI_add, nI_1, nI_leI, nI_ltI, nI_eq, nI_clamp, kz_m1, kz_mn, kz_mn2, kz_n0, kz_0n, kz_0, kz_le0, kz_0lt, false_implies, true_implies, not_false_eq_true, not_true_eq_false, Nat.zero_le, kb_0, kz_10, kz_of, ky_sw, kz_mx, kz_mi, h01', y23, if_neg hc, kz_10]) | (refine ⟨vp_in_nI (by omega) (by omega), ?_⟩) | (refine ⟨fun zc => ?_, fun zc => ?_⟩ <;> try (exfalso; omega)) | fail)
      intro f2 CH2 hN2 hB2 hF2
      simp only [ky_aft, ky_vl, Nat.reduceAdd]
      have hF2' : kfr a f f2 (fun j => j = 29 ∨ j = 42 ∨ j = 43) := htr hF1 fun j hj => hF2 j (by omega)
      have h02 := hKo hF2'
      unfold kKo at h02
      have hN2' : kNu a 23 f2 s.o.n (kKD s.o) (kCO s.o) (kPF s.o) := ⟨_, _, _, _, _, _, hN2, w6⟩
      have hB2' : kB a 42 f2 4260 (len + (o1 ++ kNO s.o p).length) (kapp c len (o1 ++ kNO s.o p)) := by
        rw [List.length_append, ← Nat.add_assoc, ← kapp_app]; exact hB2
      obtain ⟨B2, t0, -⟩ := id hB2'
      repeat' (first | (refine kx2a ha hB2' (by rw [List.length_append]; unfold kNO; omega) (by decide) (by decide) ?_) | (refine ky_ok_stp rfl ?_; simp (disch := first | omega | assumption) only [ky_stp, ky_inv, ky_ldi, ky_ldl, ky_ldd, ky_lda, ky_cl2, ky_st1, ky_st2, ky_s1i, ky_s2i, ky_s1l, ky_s2l, ky_sli, ky_s1f, ky_s2f, ky_s1d, ky_s2d, ky_sr, ky_sai, ky_sasi, ky_sasl, ky_sasr, ky_svr, ky_sv, ky_sv2, ky_s1, ky_cs, ky_pop, ky_nth, ky_snt, ky_obj, ky_ari, ky_arl, ky_arr, ky_arn, ky_fv, ky_rcv, List.map_cons, List.map_nil, List.drop_succ_cons, List.drop_zero, Value.category, Nat.reduceAdd, Nat.reduceSub, true_and, and_true, true_or, or_true, reduceCtorEq, ite_true, ite_false, eq_self, Nat.reduceEqDiff, Nat.reduceLeDiff, nI_add, nI_1, nI_leI, nI_ltI, nI_eq, nI_clamp, kz_m1, kz_mn, kz_mn2, kz_n0, kz_0n, kz_0, kz_le0, kz_0lt, false_implies, true_implies, not_false_eq_true, not_true_eq_false, Nat.zero_le, kb_0, kz_10, kz_of, ky_sw, kz_mx, kz_mi, h02, t0, e32]) | (refine ⟨vp_in_nI (by omega) (by omega), ?_⟩) | (refine ⟨fun zc => ?_, fun zc => ?_⟩ <;> try (exfalso; omega)) | fail)
      intro f3 hB3 hF3
      simp only [ky_aft, ky_vl, Nat.reduceAdd]
      exact nam f3 _ (htr hF2' (hbb hF3)) hB3 (hnu hN2' hF3) (by rw [ho1]; simp only [List.append_assoc]) v2 v3
  -- the indentation
  have ind : ∀ m t f1, t + m = kV s.o.R p → 1 ≤ t → kfr a f f1 (fun j => j = 29 ∨ j = 42 ∨ j = 43) → kB a 42 f1 4260 (len + (o ++ List.replicate (t - 1) 32).length) (kapp c len (o ++ List.replicate (t - 1) 32)) → kNu a 23 f1 s.o.n (kKD s.o) (kCO s.o) (kPF s.o) → ky_ok adK 145 11 [some (.ref (a 0)), some (.int (nI p)), some (.int (nI (kV s.o.R p))), some (.int (nI t))] [] f1 0 0 Q := by
    intro m
    induction m with
    | zero =>
      intro t f1 ht h1t hF1 hB1 hN1
      obtain rfl : t = kV s.o.R p := by omega
      repeat' (first | (exact num f1 _ hF1 hB1 hN1 (by rw [List.append_assoc]; unfold kLn; rw [ho2]) _ _) | (refine ky_ok_stp rfl ?_; simp (disch := first | omega | assumption) only [ky_stp, ky_inv, ky_ldi, ky_ldl, ky_ldd, ky_lda, ky_cl2, ky_st1, ky_st2, ky_s1i, ky_s2i, ky_s1l, ky_s2l, ky_sli, ky_s1f, ky_s2f, ky_s1d, ky_s2d, ky_sr, ky_sai, ky_sasi, ky_sasl, ky_sasr, ky_svr, ky_sv, ky_sv2, ky_s1, ky_cs, ky_pop, ky_nth, ky_snt, ky_obj, ky_ari, ky_arl, ky_arr, ky_arn, ky_fv, ky_rcv, List.map_cons, List.map_nil, List.drop_succ_cons, List.drop_zero, Value.category, Nat.reduceAdd, Nat.reduceSub, true_and, and_true, true_or, or_true, reduceCtorEq, ite_true, ite_false, eq_self, Nat.reduceEqDiff, Nat.reduceLeDiff, nI_add, nI_1, nI_leI, nI_ltI, nI_eq, nI_clamp, kz_m1, kz_mn, kz_mn2, kz_n0, kz_0n, kz_0, kz_le0, kz_0lt, false_implies, true_implies, not_false_eq_true, not_true_eq_false, Nat.zero_le, kb_0, kz_10, kz_of, ky_sw, kz_mx, kz_mi]) | (refine ⟨vp_in_nI (by omega) (by omega), ?_⟩) | (refine ⟨fun zc => ?_, fun zc => ?_⟩ <;> try (exfalso; omega)) | fail)
    | succ m ih =>
      intro t f1 ht h1t hF1 hB1 hN1
      have h01 := hKo hF1
      unfold kKo at h01
      obtain ⟨B, g0, -⟩ := id hB1
      have e5 : o ++ List.replicate (t + 1 - 1) 32 = o ++ List.replicate (t - 1) 32 ++ [32] := by
        rw [show t + 1 - 1 = (t - 1) + 1 by omega, List.replicate_succ', List.append_assoc]
      have hl2 : len + (o ++ List.replicate (t - 1) 32).length < 4260 := by
        unfold kLn at hl
        simp only [List.length_append, List.length_replicate, List.length_singleton] at hl ⊢
        omega
      (refine ky_ok_stp rfl ?_; simp (disch := first | omega | assumption) only [ky_stp, ky_inv, ky_ldi, ky_ldl, ky_ldd, ky_lda, ky_cl2, ky_st1, ky_st2, ky_s1i, ky_s2i, ky_s1l, ky_s2l, ky_sli, ky_s1f, ky_s2f, ky_s1d, ky_s2d, ky_sr, ky_sai, ky_sasi, ky_sasl, ky_sasr, ky_svr, ky_sv, ky_sv2, ky_s1, ky_cs, ky_pop, ky_nth, ky_snt, ky_obj, ky_ari, ky_arl, ky_arr, ky_arn, ky_fv, ky_rcv, List.map_cons, List.map_nil, List.drop_succ_cons, List.drop_zero, Value.category, Nat.reduceAdd, Nat.reduceSub, true_and, and_true, true_or, or_true, reduceCtorEq, ite_true, ite_false, eq_self, Nat.reduceEqDiff, Nat.reduceLeDiff, nI_add, nI_1, nI_leI, nI_ltI, nI_eq, nI_clamp, kz_m1, kz_mn, kz_mn2, kz_n0, kz_0n, kz_0, kz_le0, kz_0lt, false_implies, true_implies, not_false_eq_true, not_true_eq_false, Nat.zero_le, kb_0, kz_10, kz_of, ky_sw, kz_mx, kz_mi])
      repeat' (first | (refine kx2a ha hB1 hl2 (by decide) (by decide) ?_) | (refine ky_ok_stp rfl ?_; simp (disch := first | omega | assumption) only [ky_stp, ky_inv, ky_ldi, ky_ldl, ky_ldd, ky_lda, ky_cl2, ky_st1, ky_st2, ky_s1i, ky_s2i, ky_s1l, ky_s2l, ky_sli, ky_s1f, ky_s2f, ky_s1d, ky_s2d, ky_sr, ky_sai, ky_sasi, ky_sasl, ky_sasr, ky_svr, ky_sv, ky_sv2, ky_s1, ky_cs, ky_pop, ky_nth, ky_snt, ky_obj, ky_ari, ky_arl, ky_arr, ky_arn, ky_fv, ky_rcv, List.map_cons, List.map_nil, List.drop_succ_cons, List.drop_zero, Value.category, Nat.reduceAdd, Nat.reduceSub, true_and, and_true, true_or, or_true, reduceCtorEq, ite_true, ite_false, eq_self, Nat.reduceEqDiff, Nat.reduceLeDiff, nI_add, nI_1, nI_leI, nI_ltI, nI_eq, nI_clamp, kz_m1, kz_mn, kz_mn2, kz_n0, kz_0n, kz_0, kz_le0, kz_0lt, false_implies, true_implies, not_false_eq_true, not_true_eq_false, Nat.zero_le, kb_0, kz_10, kz_of, ky_sw, kz_mx, kz_mi, h01, g0, e32]) | (refine ⟨vp_in_nI (by omega) (by omega), ?_⟩) | (refine ⟨fun zc => ?_, fun zc => ?_⟩ <;> try (exfalso; omega)) | fail)
      intro f2 hB2 hF2
      simp only [ky_aft, ky_vl, Nat.reduceAdd]
      rw [← e5] at hB2
      repeat' (first | (refine ih (t + 1) f2 (by omega) (by omega) (htr hF1 (hbb hF2)) hB2 (hnu hN1 hF2)) | (refine ky_ok_stp rfl ?_; simp (disch := first | omega | assumption) only [ky_stp, ky_inv, ky_ldi, ky_ldl, ky_ldd, ky_lda, ky_cl2, ky_st1, ky_st2, ky_s1i, ky_s2i, ky_s1l, ky_s2l, ky_sli, ky_s1f, ky_s2f, ky_s1d, ky_s2d, ky_sr, ky_sai, ky_sasi, ky_sasl, ky_sasr, ky_svr, ky_sv, ky_sv2, ky_s1, ky_cs, ky_pop, ky_nth, ky_snt, ky_obj, ky_ari, ky_arl, ky_arr, ky_arn, ky_fv, ky_rcv, List.map_cons, List.map_nil, List.drop_succ_cons, List.drop_zero, Value.category, Nat.reduceAdd, Nat.reduceSub, true_and, and_true, true_or, or_true, reduceCtorEq, ite_true, ite_false, eq_self, Nat.reduceEqDiff, Nat.reduceLeDiff, nI_add, nI_1, nI_leI, nI_ltI, nI_eq, nI_clamp, kz_m1, kz_mn, kz_mn2, kz_n0, kz_0n, kz_0, kz_le0, kz_0lt, false_implies, true_implies, not_false_eq_true, not_true_eq_false, Nat.zero_le, kb_0, kz_10, kz_of, ky_sw, kz_mx, kz_mi]) | (refine ⟨vp_in_nI (by omega) (by omega), ?_⟩) | (refine ⟨fun zc => ?_, fun zc => ?_⟩ <;> try (exfalso; omega)) | fail)
  have h0' := h0
  unfold kKo at h0'
  have y0 := kW_lv hW
  refine ⟨Nat.le_of_ble_eq_true rfl, fun z => absurd z (by decide), ?_⟩; show ky_ok adK 145 0 [some (.ref (a 0)), some (.int (nI p)), none, none] [] f 0 0 _
  repeat' (first | (refine kx27 hW.1 hn hp ?_; simp only [ky_aft, ky_vl, Nat.reduceAdd]) | (refine ind (kV s.o.R p - 1) 1 f (by omega) (Nat.le_refl _) kfr_rf ?_ hN) | (refine ky_ok_stp rfl ?_; simp (disch := first | omega | assumption) only [ky_stp, ky_inv, ky_ldi, ky_ldl, ky_ldd, ky_lda, ky_cl2, ky_st1, ky_st2, ky_s1i, ky_s2i, ky_s1l, ky_s2l, ky_sli, ky_s1f, ky_s2f, ky_s1d, ky_s2d, ky_sr, ky_sai, ky_sasi, ky_sasl, ky_sasr, ky_svr, ky_sv, ky_sv2, ky_s1, ky_cs, ky_pop, ky_nth, ky_snt, ky_obj, ky_ari, ky_arl, ky_arr, ky_arn, ky_fv, ky_rcv, List.map_cons, List.map_nil, List.drop_succ_cons, List.drop_zero, Value.category, Nat.reduceAdd, Nat.reduceSub, true_and, and_true, true_or, or_true, reduceCtorEq, ite_true, ite_false, eq_self, Nat.reduceEqDiff, Nat.reduceLeDiff, nI_add, nI_1, nI_leI, nI_ltI, nI_eq, nI_clamp, kz_m1, kz_mn, kz_mn2, kz_n0, kz_0n, kz_0, kz_le0, kz_0lt, false_implies, true_implies, not_false_eq_true, not_true_eq_false, Nat.zero_le, kb_0, kz_10, kz_of, ky_sw, kz_mx, kz_mi, h0', y0, el, kz_1]) | (refine ⟨vp_in_nI (by omega) (by omega), ?_⟩) | (refine ⟨fun zc => ?_, fun zc => ?_⟩ <;> try (exfalso; omega)) | fail)
  rw [Nat.sub_self, List.replicate_zero, List.append_nil]; exact hB
end KXP
