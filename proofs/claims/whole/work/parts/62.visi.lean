/-! ## the reference: what is shown -/
theorem kP_sp (L : Nat → Int32) (lv : Int32) : ∀ j, (kP L lv j = 0 ∧ ∀ t, t < j → lv ≤ L t) ∨ ∃ q, kP L lv j = q + 1 ∧ q < j ∧ L q < lv ∧ ∀ t, q < t → t < j → lv ≤ L t
  | 0 => .inl ⟨rfl, fun t h => absurd h (Nat.not_lt_zero t)⟩
  | j + 1 => by
    rw [kP]
    by_cases e : lv ≤ L j
    · rw [if_pos e]
      rcases kP_sp L lv j with ⟨h, k⟩ | ⟨q, h1, h2, h3, h4⟩
      · exact .inl ⟨h, fun t ht => if z : t = j then z ▸ e else k t (by omega)⟩
      · exact .inr ⟨q, h1, by omega, h3, fun t z1 z2 => if z : t = j then z ▸ e else h4 t z1 (by omega)⟩
    · rw [if_neg e]
      exact .inr ⟨j, rfl, by omega, Int32.not_le.mp e, fun t z1 z2 => by omega⟩
theorem kil {x y z : Int32} (h : x < y) (h' : y ≤ z) : x < z := by
  rw [Int32.lt_iff_toInt_lt] at *
  rw [Int32.le_iff_toInt_le] at h'
  omega
theorem kli {x y z : Int32} (h : x ≤ y) (h' : y < z) : x < z := by
  rw [Int32.lt_iff_toInt_lt] at *
  rw [Int32.le_iff_toInt_le] at h
  omega
theorem kVis_0 {L F : Nat → Int32} {p : Nat} (h : kP L (L p) p = 0) : kVis L F p := by
  intro q hq hl
  rcases kP_sp L (L p) p with ⟨-, k⟩ | ⟨q', h1, -⟩
  · exact absurd (hl p hq (Nat.le_refl _)) (Int32.not_lt.mpr (k q hq))
  · rw [h1] at h; cases h
theorem kVis_s {L F : Nat → Int32} {p q : Nat} (h : kP L (L p) p = q + 1) : kVis L F p ↔ ¬ F q = 1 ∧ kVis L F q := by
  rcases kP_sp L (L p) p with ⟨h0, -⟩ | ⟨q', h1, h2, h3, h4⟩
  · rw [h0] at h; cases h
  have e : q' = q := by omega
  subst e
  constructor
  · intro hv
    refine ⟨hv q' h2 fun t t1 t2 => ?_, fun r hr hl => hv r (by omega) fun t t1 t2 => ?_⟩
    · by_cases e : t = p
      · rw [e]; exact h3
      · exact kil h3 (h4 t t1 (by omega))
    · by_cases e : t ≤ q'
      · exact hl t t1 e
      · have hr' := hl q' hr (Nat.le_refl _)
        by_cases e2 : t = p
        · rw [e2]; exact kil hr' (Int32.le_of_lt h3)
        · exact kil (kil hr' (Int32.le_of_lt h3)) (h4 t (by omega) (by omega))
  · intro hv r hr hl
    by_cases e : r = q'
    · rw [e]; exact hv.1
    · by_cases e2 : r < q'
      · exact hv.2 r e2 fun t t1 t2 => hl t t1 (by omega)
      · exact absurd (hl p hr (Nat.le_refl _)) (Int32.not_lt.mpr (h4 r (by omega) hr))
/-- the greatest level shown, told by what is folded -/
def kGi (L F : Nat → Int32) (i : Nat) (g : Int32) : Prop := ∀ v : Int32, v ≤ 6 → (v ≤ g ↔ ∀ q, q < i → (∀ t, q < t → t < i → L q < L t) → F q = 1 → ¬ L q < v)
theorem kGi_0 {L F : Nat → Int32} : kGi L F 0 6 := fun v hv => ⟨fun _ q hq => absurd hq (Nat.not_lt_zero q), fun _ => hv⟩
theorem kGi_v {L F : Nat → Int32} {i : Nat} {g : Int32} (h : kGi L F i g) (h6 : L i ≤ 6) : L i ≤ g ↔ kVis L F i := by
  rw [h (L i) h6]
  constructor
  · intro w q hq hl hf
    exact w q hq (fun t t1 t2 => hl t t1 (by omega)) hf (hl i hq (Nat.le_refl _))
  · intro w q hq hl hf hlt
    exact w q hq (fun t t1 t2 => if z : t = i then z ▸ hlt else hl t t1 (by omega)) hf
theorem kGi_s {L F : Nat → Int32} {i : Nat} {g : Int32} (h : kGi L F i g) (h6 : L i ≤ 6) (h01 : F i = 0 ∨ F i = 1) : kGi L F (i + 1) (if L i ≤ g then (if F i = 0 then 6 else L i) else g) := by
  intro v hv
  by_cases e : L i ≤ g
  · rw [if_pos e]
    have e' := (h (L i) h6).mp e
    have hx : (∀ q, q < i + 1 → (∀ t, q < t → t < i + 1 → L q < L t) → F q = 1 → ¬ L q < v) ↔ (F i = 1 → ¬ L i < v) := by
      constructor
      · intro w hf
        exact w i (by omega) (fun t t1 t2 => by omega) hf
      · intro w q hq hl hf hlt
        by_cases eq : q = i
        · rw [eq] at hf hlt; exact w hf hlt
        · exact e' q (by omega) (fun t t1 t2 => hl t t1 (by omega)) hf (hl i (by omega) (by omega))
    rw [hx]
    rcases h01 with h0 | h1
    · rw [if_pos h0, h0]
      exact ⟨fun _ z => absurd z (by decide), fun _ => hv⟩
    · rw [if_neg (by rw [h1]; decide), h1]
      exact ⟨fun z _ => Int32.not_lt.mpr z, fun z => Int32.not_lt.mp (z rfl)⟩
  · rw [if_neg e, h v hv]
    obtain ⟨q0, w1, w2, w3, w4⟩ : ∃ q, q < i ∧ (∀ t, q < t → t < i → L q < L t) ∧ F q = 1 ∧ L q < L i := by
      have e' := fun z => e ((h (L i) h6).mpr z)
      by_cases hz : ∃ q, q < i ∧ (∀ t, q < t → t < i → L q < L t) ∧ F q = 1 ∧ L q < L i
      · exact hz
      · exact absurd (fun q hq hl hf hlt => hz ⟨q, hq, hl, hf, hlt⟩) e'
    constructor
    · intro w q hq hl hf hlt
      by_cases eq : q = i
      · subst eq
        exact w q0 w1 w2 w3 (kil w4 (Int32.le_of_lt hlt))
      · exact w q (by omega) (fun t t1 t2 => hl t t1 (by omega)) hf hlt
    · intro w q hq hl hf hlt
      by_cases eq : L q < L i
      · exact w q (by omega) (fun t t1 t2 => if z : t = i then z ▸ eq else hl t t1 (by omega)) hf hlt
      · exact w q0 (by omega) (fun t t1 t2 => if z : t = i then z ▸ w4 else w2 t t1 (by omega)) w3 (kil w4 (Int32.le_trans (Int32.not_lt.mp eq) (Int32.le_of_lt hlt)))
section KXM
variable {adK a : Nat → Nat} {f : ky_H} {Q : ky_Q} {g : Nat → Int32} {s r : Nat → Int32} {p w n l : Nat} {x lo hi v : Int32} {z : kZ}
theorem kx183 (hM : kMo a f g) (hs : f (a 171) = some (.inl (1, 388, .inl s))) (ho : kZo z) (hR : kRw s z) (hp : p < z.n) (hy : kVis (kL z.R) (kFo z.R) p → Q (.inl (some (.int 1))) f) (hn : ¬ kVis (kL z.R) (kFo z.R) p → Q (.inl (some (.int 0))) f) : ky_cl adK 183 [.ref (a 170), .int (nI p)] f Q := by
  have h60 := ho.n60
  have hL := kRw_l ho hR
  have mh := hM; unfold kMo at mh
  have loop : ∀ k j, j ≤ k → j ≤ z.n → ((j = 0 ∨ ∃ q, j = q + 1 ∧ ¬ kFo z.R q = 1 ∧ kVis (kL z.R) (kFo z.R) q) → Q (.inl (some (.int 1))) f) → ((∃ q, j = q + 1 ∧ ¬ (¬ kFo z.R q = 1 ∧ kVis (kL z.R) (kFo z.R) q)) → Q (.inl (some (.int 0))) f) →
      ky_ok adK 183 6 [some (.ref (a 170)), some (.int (nI p)), some (.int (nI j - 1))] [] f 0 0 Q := by
    intro k
    induction k with
    | zero =>
      intro j hj hjn hy hn
      obtain rfl : j = 0 := by omega
      have hq := hy (.inl rfl)
      rw [kz_z]
      repeat' (first | (refine ky_ok_stp rfl ?_; simp (disch := first | omega | assumption) only [ky_stp, ky_inv, ky_ldi, ky_ldl, ky_ldd, ky_lda, ky_cl2, ky_st1, ky_st2, ky_s1i, ky_s2i, ky_s1l, ky_s2l, ky_sli, ky_s1f, ky_s2f, ky_s1d, ky_s2d, ky_sr, ky_sai, ky_sasi, ky_sasl, ky_sasr, ky_svr, ky_sv, ky_sv2, ky_s1, ky_cs, ky_pop, ky_nth, ky_snt, ky_obj, ky_ari, ky_arl, ky_arr, ky_arn, ky_fv, ky_rcv, List.map_cons, List.map_nil, List.drop_succ_cons, List.drop_zero, Value.category, Nat.reduceAdd, Nat.reduceSub, true_and, and_true, true_or, or_true, reduceCtorEq, ite_true, ite_false, eq_self, Nat.reduceEqDiff, Nat.reduceLeDiff, nI_add, nI_1, nI_leI, nI_ltI, nI_eq, nI_clamp, kz_m1, kz_mn, kz_mn2, kz_n0, kz_0n, kz_0, kz_le0, kz_0lt, false_implies, true_implies, not_false_eq_true, not_true_eq_false, Nat.zero_le, kb_0, kz_10, kz_of, ky_sw, kz_mx, kz_mi]) | (refine ⟨vp_in_nI (by omega) (by omega), ?_⟩) | (refine ⟨fun zc => ?_, fun zc => ?_⟩ <;> try (exfalso; omega)) | fail)
      exact hq
    | succ k ih =>
      intro j hj hjn hy hn
      match j, hj, hjn, hy, hn with
      | 0, hj, hjn, hy, hn =>
        have hq := hy (.inl rfl)
        rw [kz_z]
        repeat' (first | (refine ky_ok_stp rfl ?_; simp (disch := first | omega | assumption) only [ky_stp, ky_inv, ky_ldi, ky_ldl, ky_ldd, ky_lda, ky_cl2, ky_st1, ky_st2, ky_s1i, ky_s2i, ky_s1l, ky_s2l, ky_sli, ky_s1f, ky_s2f, ky_s1d, ky_s2d, ky_sr, ky_sai, ky_sasi, ky_sasl, ky_sasr, ky_svr, ky_sv, ky_sv2, ky_s1, ky_cs, ky_pop, ky_nth, ky_snt, ky_obj, ky_ari, ky_arl, ky_arr, ky_arn, ky_fv, ky_rcv, List.map_cons, List.map_nil, List.drop_succ_cons, List.drop_zero, Value.category, Nat.reduceAdd, Nat.reduceSub, true_and, and_true, true_or, or_true, reduceCtorEq, ite_true, ite_false, eq_self, Nat.reduceEqDiff, Nat.reduceLeDiff, nI_add, nI_1, nI_leI, nI_ltI, nI_eq, nI_clamp, kz_m1, kz_mn, kz_mn2, kz_n0, kz_0n, kz_0, kz_le0, kz_0lt, false_implies, true_implies, not_false_eq_true, not_true_eq_false, Nat.zero_le, kb_0, kz_10, kz_of, ky_sw, kz_mx, kz_mi]) | (refine ⟨vp_in_nI (by omega) (by omega), ?_⟩) | (refine ⟨fun zc => ?_, fun zc => ?_⟩ <;> try (exfalso; omega)) | fail)
        exact hq
      | j + 1, hj, hjn, hy, hn =>
        rw [nI_pred]
        obtain ⟨r0, r1, r2, -⟩ := hR.2.1 j (by omega)
        by_cases c1 : kFo z.R j = 1
        · have hq := hn ⟨j, rfl, fun w => w.1 c1⟩
          repeat' (first | ((refine kx173 (w := 2) hM hs (show j < 60 by omega) (by decide) ?_; simp only [ky_aft, ky_vl, Nat.reduceAdd])) | (refine ky_ok_stp rfl ?_; simp (disch := first | omega | assumption) only [ky_stp, ky_inv, ky_ldi, ky_ldl, ky_ldd, ky_lda, ky_cl2, ky_st1, ky_st2, ky_s1i, ky_s2i, ky_s1l, ky_s2l, ky_sli, ky_s1f, ky_s2f, ky_s1d, ky_s2d, ky_sr, ky_sai, ky_sasi, ky_sasl, ky_sasr, ky_svr, ky_sv, ky_sv2, ky_s1, ky_cs, ky_pop, ky_nth, ky_snt, ky_obj, ky_ari, ky_arl, ky_arr, ky_arn, ky_fv, ky_rcv, List.map_cons, List.map_nil, List.drop_succ_cons, List.drop_zero, Value.category, Nat.reduceAdd, Nat.reduceSub, true_and, and_true, true_or, or_true, reduceCtorEq, ite_true, ite_false, eq_self, Nat.reduceEqDiff, Nat.reduceLeDiff, nI_add, nI_1, nI_leI, nI_ltI, nI_eq, nI_clamp, kz_m1, kz_mn, kz_mn2, kz_n0, kz_0n, kz_0, kz_le0, kz_0lt, false_implies, true_implies, not_false_eq_true, not_true_eq_false, Nat.zero_le, kb_0, kz_10, kz_of, ky_sw, kz_mx, kz_mi, mh, r2, c1]) | (refine ⟨vp_in_nI (by omega) (by omega), ?_⟩) | (refine ⟨fun zc => ?_, fun zc => ?_⟩ <;> try (exfalso; omega)) | fail)
          exact hq
        · have hPl : kP (kL z.R) (kL z.R j) j ≤ j := by
            rcases kP_sp (kL z.R) (kL z.R j) j with ⟨h, -⟩ | ⟨q, h1, h2, -⟩ <;> omega
          have hv : kVis (kL z.R) (kFo z.R) j ↔ (kP (kL z.R) (kL z.R j) j = 0 ∨ ∃ q, kP (kL z.R) (kL z.R j) j = q + 1 ∧ ¬ kFo z.R q = 1 ∧ kVis (kL z.R) (kFo z.R) q) := by
            rcases kP_sp (kL z.R) (kL z.R j) j with ⟨h, -⟩ | ⟨q, h1, h2, -⟩
            · exact ⟨fun _ => .inl h, fun _ => kVis_0 h⟩
            · rw [kVis_s h1]
              constructor
              · exact fun w => .inr ⟨q, h1, w⟩
              · rintro (w | ⟨q', w1, w2⟩)
                · omega
                · obtain rfl : q' = q := by omega
                  exact w2
          have hi := ih (kP (kL z.R) (kL z.R j) j) (by omega) (by omega) (fun w => hy (.inr ⟨j, rfl, c1, hv.mpr w⟩)) fun w => hn ⟨j, rfl, fun u => by
            obtain ⟨q, w1, w2⟩ := w
            rcases hv.mp u.2 with u | ⟨q', u1, u2⟩
            · omega
            · obtain rfl : q' = q := by omega
              exact w2 u2⟩
          repeat' (first | ((refine kx173 (w := 2) hM hs (show j < 60 by omega) (by decide) ?_; simp only [ky_aft, ky_vl, Nat.reduceAdd])) | (refine kx178 hM hs hL (show j < z.n by omega) ?_; simp only [ky_aft, ky_vl, Nat.reduceAdd]) | (exact hi) | (refine ky_ok_stp rfl ?_; simp (disch := first | omega | assumption) only [ky_stp, ky_inv, ky_ldi, ky_ldl, ky_ldd, ky_lda, ky_cl2, ky_st1, ky_st2, ky_s1i, ky_s2i, ky_s1l, ky_s2l, ky_sli, ky_s1f, ky_s2f, ky_s1d, ky_s2d, ky_sr, ky_sai, ky_sasi, ky_sasl, ky_sasr, ky_svr, ky_sv, ky_sv2, ky_s1, ky_cs, ky_pop, ky_nth, ky_snt, ky_obj, ky_ari, ky_arl, ky_arr, ky_arn, ky_fv, ky_rcv, List.map_cons, List.map_nil, List.drop_succ_cons, List.drop_zero, Value.category, Nat.reduceAdd, Nat.reduceSub, true_and, and_true, true_or, or_true, reduceCtorEq, ite_true, ite_false, eq_self, Nat.reduceEqDiff, Nat.reduceLeDiff, nI_add, nI_1, nI_leI, nI_ltI, nI_eq, nI_clamp, kz_m1, kz_mn, kz_mn2, kz_n0, kz_0n, kz_0, kz_le0, kz_0lt, false_implies, true_implies, not_false_eq_true, not_true_eq_false, Nat.zero_le, kb_0, kz_10, kz_of, ky_sw, kz_mx, kz_mi, mh, r2, eq_false c1]) | (refine ⟨vp_in_nI (by omega) (by omega), ?_⟩) | (refine ⟨fun zc => ?_, fun zc => ?_⟩ <;> try (exfalso; omega)) | fail)
  have hPl : kP (kL z.R) (kL z.R p) p ≤ p := by
    rcases kP_sp (kL z.R) (kL z.R p) p with ⟨h, -⟩ | ⟨q, h1, h2, -⟩ <;> omega
  have hl := loop (kP (kL z.R) (kL z.R p) p) (kP (kL z.R) (kL z.R p) p) (Nat.le_refl _) (by omega) (fun w => hy (by
    rcases w with w | ⟨q, w1, w2⟩
    · exact kVis_0 w
    · exact (kVis_s w1).mpr w2)) fun ⟨q, w1, w2⟩ => hn fun u => w2 ((kVis_s w1).mp u)
  refine ⟨Nat.le_of_ble_eq_true rfl, fun z => absurd z (by decide), ?_⟩; show ky_ok adK 183 0 [some (.ref (a 170)), some (.int (nI p)), none] [] f 0 0 _
  repeat' (first | (refine kx178 hM hs hL hp ?_; simp only [ky_aft, ky_vl, Nat.reduceAdd]) | (exact hl) | (refine ky_ok_stp rfl ?_; simp (disch := first | omega | assumption) only [ky_stp, ky_inv, ky_ldi, ky_ldl, ky_ldd, ky_lda, ky_cl2, ky_st1, ky_st2, ky_s1i, ky_s2i, ky_s1l, ky_s2l, ky_sli, ky_s1f, ky_s2f, ky_s1d, ky_s2d, ky_sr, ky_sai, ky_sasi, ky_sasl, ky_sasr, ky_svr, ky_sv, ky_sv2, ky_s1, ky_cs, ky_pop, ky_nth, ky_snt, ky_obj, ky_ari, ky_arl, ky_arr, ky_arn, ky_fv, ky_rcv, List.map_cons, List.map_nil, List.drop_succ_cons, List.drop_zero, Value.category, Nat.reduceAdd, Nat.reduceSub, true_and, and_true, true_or, or_true, reduceCtorEq, ite_true, ite_false, eq_self, Nat.reduceEqDiff, Nat.reduceLeDiff, nI_add, nI_1, nI_leI, nI_ltI, nI_eq, nI_clamp, kz_m1, kz_mn, kz_mn2, kz_n0, kz_0n, kz_0, kz_le0, kz_0lt, false_implies, true_implies, not_false_eq_true, not_true_eq_false, Nat.zero_le, kb_0, kz_10, kz_of, ky_sw, kz_mx, kz_mi, mh]) | (refine ⟨vp_in_nI (by omega) (by omega), ?_⟩) | (refine ⟨fun zc => ?_, fun zc => ?_⟩ <;> try (exfalso; omega)) | fail)
theorem kx184 (hM : kMo a f g) (hs : f (a 171) = some (.inl (1, 388, .inl s))) (ho : kZo z) (hR : kRw s z) (hQ : Q (.inl (some (.int (nI (kVl z).length)))) f) : ky_cl adK 184 [.ref (a 170)] f Q := by
  have h60 := ho.n60
  have r0 := hR.1
  have mh := hM; unfold kMo at mh
  have loop : ∀ m i G (l : List Nat), i + m = z.n → l.length ≤ i → kGi (kL z.R) (kFo z.R) i G → Q (.inl (some (.int (nI (kVs (kL z.R) (kFo z.R) G i m l).length)))) f → ky_ok adK 184 4 [some (.ref (a 170)), some (.int (nI l.length)), some (.int (nI i))] [] f 0 0 Q := by
    intro m
    induction m with
    | zero =>
      intro i G l hi hl hG hq
      repeat' (first | (refine kx172 hM hs ?_; simp only [ky_aft, ky_vl, Nat.reduceAdd]) | (refine ky_ok_stp rfl ?_; simp (disch := first | omega | assumption) only [ky_stp, ky_inv, ky_ldi, ky_ldl, ky_ldd, ky_lda, ky_cl2, ky_st1, ky_st2, ky_s1i, ky_s2i, ky_s1l, ky_s2l, ky_sli, ky_s1f, ky_s2f, ky_s1d, ky_s2d, ky_sr, ky_sai, ky_sasi, ky_sasl, ky_sasr, ky_svr, ky_sv, ky_sv2, ky_s1, ky_cs, ky_pop, ky_nth, ky_snt, ky_obj, ky_ari, ky_arl, ky_arr, ky_arn, ky_fv, ky_rcv, List.map_cons, List.map_nil, List.drop_succ_cons, List.drop_zero, Value.category, Nat.reduceAdd, Nat.reduceSub, true_and, and_true, true_or, or_true, reduceCtorEq, ite_true, ite_false, eq_self, Nat.reduceEqDiff, Nat.reduceLeDiff, nI_add, nI_1, nI_leI, nI_ltI, nI_eq, nI_clamp, kz_m1, kz_mn, kz_mn2, kz_n0, kz_0n, kz_0, kz_le0, kz_0lt, false_implies, true_implies, not_false_eq_true, not_true_eq_false, Nat.zero_le, kb_0, kz_10, kz_of, ky_sw, kz_mx, kz_mi, mh, r0]) | (refine ⟨vp_in_nI (by omega) (by omega), ?_⟩) | (refine ⟨fun zc => ?_, fun zc => ?_⟩ <;> try (exfalso; omega)) | fail)
      exact hq
    | succ m ih =>
      intro i G l hi hl hG hq
      obtain ⟨l0, l1, l6⟩ := ho.lv i (by omega)
      have h6 : kL z.R i ≤ 6 := by rw [l0]; show nI _ ≤ nI 6; rw [nI_leI (by omega) (by omega)]; exact l6
      have hG' := kGi_s hG h6 (ho.fl i (by omega)).2
      rw [kVs] at hq
      by_cases e : kL z.R i ≤ G
      · rw [if_pos e] at hq hG'
        have hv := (kGi_v hG h6).mp e
        have el := ksn_len (l := l) rfl i
        repeat' (first | (refine kx172 hM hs ?_; simp only [ky_aft, ky_vl, Nat.reduceAdd]) | ((refine kx183 hM hs ho hR (show i < z.n by omega) (fun _ => ?_) (fun w => absurd hv w); simp only [ky_aft, ky_vl, Nat.reduceAdd])) | (refine (by have := ih (i + 1) _ (l ++ [i]) (by omega) (by omega) hG' hq; rw [el] at this; exact this)) | (refine ky_ok_stp rfl ?_; simp (disch := first | omega | assumption) only [ky_stp, ky_inv, ky_ldi, ky_ldl, ky_ldd, ky_lda, ky_cl2, ky_st1, ky_st2, ky_s1i, ky_s2i, ky_s1l, ky_s2l, ky_sli, ky_s1f, ky_s2f, ky_s1d, ky_s2d, ky_sr, ky_sai, ky_sasi, ky_sasl, ky_sasr, ky_svr, ky_sv, ky_sv2, ky_s1, ky_cs, ky_pop, ky_nth, ky_snt, ky_obj, ky_ari, ky_arl, ky_arr, ky_arn, ky_fv, ky_rcv, List.map_cons, List.map_nil, List.drop_succ_cons, List.drop_zero, Value.category, Nat.reduceAdd, Nat.reduceSub, true_and, and_true, true_or, or_true, reduceCtorEq, ite_true, ite_false, eq_self, Nat.reduceEqDiff, Nat.reduceLeDiff, nI_add, nI_1, nI_leI, nI_ltI, nI_eq, nI_clamp, kz_m1, kz_mn, kz_mn2, kz_n0, kz_0n, kz_0, kz_le0, kz_0lt, false_implies, true_implies, not_false_eq_true, not_true_eq_false, Nat.zero_le, kb_0, kz_10, kz_of, ky_sw, kz_mx, kz_mi, mh, r0]) | (refine ⟨vp_in_nI (by omega) (by omega), ?_⟩) | (refine ⟨fun zc => ?_, fun zc => ?_⟩ <;> try (exfalso; omega)) | fail)
      · rw [if_neg e] at hq hG'
        have hv : ¬ kVis (kL z.R) (kFo z.R) i := fun w => e ((kGi_v hG h6).mpr w)
        repeat' (first | (refine kx172 hM hs ?_; simp only [ky_aft, ky_vl, Nat.reduceAdd]) | ((refine kx183 hM hs ho hR (show i < z.n by omega) (fun w => absurd w hv) (fun _ => ?_); simp only [ky_aft, ky_vl, Nat.reduceAdd])) | (refine ih (i + 1) G l (by omega) (by omega) hG' hq) | (refine ky_ok_stp rfl ?_; simp (disch := first | omega | assumption) only [ky_stp, ky_inv, ky_ldi, ky_ldl, ky_ldd, ky_lda, ky_cl2, ky_st1, ky_st2, ky_s1i, ky_s2i, ky_s1l, ky_s2l, ky_sli, ky_s1f, ky_s2f, ky_s1d, ky_s2d, ky_sr, ky_sai, ky_sasi, ky_sasl, ky_sasr, ky_svr, ky_sv, ky_sv2, ky_s1, ky_cs, ky_pop, ky_nth, ky_snt, ky_obj, ky_ari, ky_arl, ky_arr, ky_arn, ky_fv, ky_rcv, List.map_cons, List.map_nil, List.drop_succ_cons, List.drop_zero, Value.category, Nat.reduceAdd, Nat.reduceSub, true_and, and_true, true_or, or_true, reduceCtorEq, ite_true, ite_false, eq_self, Nat.reduceEqDiff, Nat.reduceLeDiff, nI_add, nI_1, nI_leI, nI_ltI, nI_eq, nI_clamp, kz_m1, kz_mn, kz_mn2, kz_n0, kz_0n, kz_0, kz_le0, kz_0lt, false_implies, true_implies, not_false_eq_true, not_true_eq_false, Nat.zero_le, kb_0, kz_10, kz_of, ky_sw, kz_mx, kz_mi, mh, r0, Int32.add_zero]) | (refine ⟨vp_in_nI (by omega) (by omega), ?_⟩) | (refine ⟨fun zc => ?_, fun zc => ?_⟩ <;> try (exfalso; omega)) | fail)
  refine ⟨Nat.le_of_ble_eq_true rfl, fun z => absurd z (by decide), ?_⟩; show ky_ok adK 184 0 [some (.ref (a 170)), none, none] [] f 0 0 _
  repeat' (first | (refine loop z.n 0 6 [] (by omega) (Nat.zero_le _) kGi_0 hQ) | (refine ky_ok_stp rfl ?_; simp (disch := first | omega | assumption) only [ky_stp, ky_inv, ky_ldi, ky_ldl, ky_ldd, ky_lda, ky_cl2, ky_st1, ky_st2, ky_s1i, ky_s2i, ky_s1l, ky_s2l, ky_sli, ky_s1f, ky_s2f, ky_s1d, ky_s2d, ky_sr, ky_sai, ky_sasi, ky_sasl, ky_sasr, ky_svr, ky_sv, ky_sv2, ky_s1, ky_cs, ky_pop, ky_nth, ky_snt, ky_obj, ky_ari, ky_arl, ky_arr, ky_arn, ky_fv, ky_rcv, List.map_cons, List.map_nil, List.drop_succ_cons, List.drop_zero, Value.category, Nat.reduceAdd, Nat.reduceSub, true_and, and_true, true_or, or_true, reduceCtorEq, ite_true, ite_false, eq_self, Nat.reduceEqDiff, Nat.reduceLeDiff, nI_add, nI_1, nI_leI, nI_ltI, nI_eq, nI_clamp, kz_m1, kz_mn, kz_mn2, kz_n0, kz_0n, kz_0, kz_le0, kz_0lt, false_implies, true_implies, not_false_eq_true, not_true_eq_false, Nat.zero_le, kb_0, kz_10, kz_of, ky_sw, kz_mx, kz_mi, mh]) | (refine ⟨vp_in_nI (by omega) (by omega), ?_⟩) | (refine ⟨fun zc => ?_, fun zc => ?_⟩ <;> try (exfalso; omega)) | fail)
end KXM
