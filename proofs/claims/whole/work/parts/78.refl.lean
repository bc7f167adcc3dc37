/-! ## the reference: names -/
theorem nI_dv {a b : Nat} (ha : a < 2147483648) (hb : b < 2147483648) : nI a / nI b = nI (a / b) := by
  have hc : a / b < 2147483648 := Nat.lt_of_le_of_lt (Nat.div_le_self a b) ha
  have h1 : (nI a).toInt = a := Int32.toInt_ofNat_of_lt ha
  have h2 : (nI b).toInt = b := Int32.toInt_ofNat_of_lt hb
  have h3 : (nI (a / b)).toInt = (a / b : Nat) := Int32.toInt_ofNat_of_lt hc
  apply Int32.toInt_inj.mp
  rw [Int32.toInt_div, h1, h2, h3, ← Int.ofNat_tdiv]
  have key : ∀ c : Nat, c < 2147483648 → Int.bmod (c : Int) (2 ^ 32) = c := fun c hc => Int.bmod_eq_of_le (by omega) (by omega)
  exact key _ hc
def kHv (w : List Nat) (t : Nat) : Nat → Nat
  | 0 => 0
  | k + 1 => 27 * kHv w t k + (w.getD (t + k) 0 - 96)
theorem kHf_v (w : List Nat) (t : Nat) : kHf w t = nI (kHv w t 4) := by
  simp only [kHf, kHv, Nat.add_zero, Nat.mul_zero, Nat.zero_add]
theorem kHv_lt {w : List Nat} (h : ∀ b ∈ w, 97 ≤ b ∧ b ≤ 122) (t : Nat) : ∀ k, kHv w t k < 27 ^ k
  | 0 => by rw [kHv]; decide
  | k + 1 => by
    have ih := kHv_lt h t k
    have hd : w.getD (t + k) 0 - 96 ≤ 26 := by
      rw [List.getD_eq_getElem?_getD]
      by_cases e : t + k < w.length
      · rw [List.getElem?_eq_getElem e]
        have := h _ (List.getElem_mem e)
        show w[t + k] - 96 ≤ 26
        omega
      · rw [List.getElem?_eq_none (by omega)]
        show 0 - 96 ≤ 26
        omega
    rw [kHv, Nat.pow_succ]
    omega
theorem kWd_d {w : List Nat} (h : kWd w) (j : Nat) : w.getD j 0 - 96 ≤ 26 ∧ (j < w.length ↔ 0 < w.getD j 0 - 96) := by
  have := kWd_get h j
  split at this <;> omega
/-- a row's name -/
theorem kRw_w {s : Nat → Int32} {z : kZ} (hR : kRw s z) {p : Nat} (hp : p < z.n) : kWd (kWo (kN z.R p)) ∧ s (28 + 6 * p + 3) = kHf (kWo (kN z.R p)) 0 ∧ s (28 + 6 * p + 4) = kHf (kWo (kN z.R p)) 4 := by
  obtain ⟨-, -, -, w, h1, h2, h3, h4⟩ := hR.2.1 p hp
  obtain ⟨q1, q2⟩ := kWo_s ⟨w, h1, h2⟩
  have e : w = kWo (kN z.R p) := kNW_inj h2.2.1 (fun b hb => by have := h2.2.2 b hb; omega) q2.2.1 (fun b hb => by have := q2.2.2 b hb; omega) (h1.symm.trans q1)
  rw [← e]
  exact ⟨h2, h3, h4⟩
section KXM
variable {adK a : Nat → Nat} {f : ky_H} {Q : ky_Q} {g : Nat → Int32} {s r : Nat → Int32} {p w n l i j t L m b : Nat} {x y lo hi v : Int32} {z : kZ} {c : Nat → Nat}
theorem kx212 (hM : kMt a f g L c) (hm : b + m ≤ L) (hc : ∀ k, k < m → klt (c (b + k))) (ht : t ≤ 4) (hQ : Q (.inl (some (.int (kHf (kTl c b m) t)))) f) : ky_cl adK 212 [.ref (a 170), .int (nI (b + t)), .int (nI (b + m))] f Q := by
  obtain ⟨mh, g3, hL7, T, h182, hTc⟩ := id hM
  unfold kMo at mh
  rw [kHf_v] at hQ
  have hw : ∀ b' ∈ kTl c b m, 97 ≤ b' ∧ b' ≤ 122 := by
    intro b' hb'
    unfold kTl at hb'
    obtain ⟨k, hk, rfl⟩ := List.mem_map.mp hb'
    exact hc k (List.mem_range.mp hk)
  have e27 : (27 : Int32) = nI 27 := rfl
  have e96 : (96 : Int32) = nI 96 := rfl
  have loop : ∀ d k, k + d = 4 → ky_ok adK 212 5 [some (.ref (a 170)), some (.int (nI (b + t))), some (.int (nI (b + m))), some (.int (nI (kHv (kTl c b m) t k))), some (.int (nI k))] [] f 0 0 Q := by
    intro d
    induction d with
    | zero =>
      intro k hk
      obtain rfl : k = 4 := by omega
      repeat' (first | (refine ky_ok_stp rfl ?_; simp (disch := first | omega | assumption) only [ky_stp, ky_inv, ky_ldi, ky_ldl, ky_ldd, ky_lda, ky_cl2, ky_st1, ky_st2, ky_s1i, ky_s2i, ky_s1l, ky_s2l, ky_sli, ky_s1f, ky_s2f, ky_s1d, ky_s2d, ky_sr, ky_sai, ky_sasi, ky_sasl, ky_sasr, ky_svr, ky_sv, ky_sv2, ky_s1, ky_cs, ky_pop, ky_nth, ky_snt, ky_obj, ky_ari, ky_arl, ky_arr, ky_arn, ky_fv, ky_rcv, List.map_cons, List.map_nil, List.drop_succ_cons, List.drop_zero, Value.category, Nat.reduceAdd, Nat.reduceSub, true_and, and_true, true_or, or_true, reduceCtorEq, ite_true, ite_false, eq_self, Nat.reduceEqDiff, Nat.reduceLeDiff, nI_add, nI_1, nI_leI, nI_ltI, nI_eq, nI_clamp, kz_m1, kz_mn, kz_mn2, kz_n0, kz_0n, kz_0, kz_le0, kz_0lt, false_implies, true_implies, not_false_eq_true, not_true_eq_false, Nat.zero_le, kb_0, kz_10, kz_of, ky_sw, kz_mx, kz_mi, kz_4]) | (refine ⟨vp_in_nI (by omega) (by omega), ?_⟩) | (refine ⟨fun zc => ?_, fun zc => ?_⟩ <;> try (exfalso; omega)) | fail)
      exact hQ
    | succ d ih =>
      intro k hk
      have hlt := kHv_lt hw t k
      have h4 : 27 ^ k ≤ 27 ^ 3 := Nat.pow_le_pow_right (by decide) (by omega)
      have hi := ih (k + 1) (by omega)
      rw [kHv] at hi
      generalize kHv (kTl c b m) t k = h at hi hlt
      by_cases e : t + k < m
      · obtain ⟨c1, c2⟩ := hc (t + k) e
        rw [kTl_g e] at hi
        have hb8 : kb8 (c (b + (t + k))) = nI (c (b + (t + k))) := (kb8_ch (by omega) (by omega)).mpr rfl
        have ht2 := (hTc (b + (t + k)) (by omega)).1
        rw [hb8, ← Nat.add_assoc] at ht2
        rw [← Nat.add_assoc] at hi c1 c2
        have es : nI (c (b + t + k)) - nI 96 = nI (c (b + t + k) - 96) := nI_sub (by omega)
        repeat' (first | (exact hi) | (refine ky_ok_stp rfl ?_; simp (disch := first | omega | assumption) only [ky_stp, ky_inv, ky_ldi, ky_ldl, ky_ldd, ky_lda, ky_cl2, ky_st1, ky_st2, ky_s1i, ky_s2i, ky_s1l, ky_s2l, ky_sli, ky_s1f, ky_s2f, ky_s1d, ky_s2d, ky_sr, ky_sai, ky_sasi, ky_sasl, ky_sasr, ky_svr, ky_sv, ky_sv2, ky_s1, ky_cs, ky_pop, ky_nth, ky_snt, ky_obj, ky_ari, ky_arl, ky_arr, ky_arn, ky_fv, ky_rcv, List.map_cons, List.map_nil, List.drop_succ_cons, List.drop_zero, Value.category, Nat.reduceAdd, Nat.reduceSub, true_and, and_true, true_or, or_true, reduceCtorEq, ite_true, ite_false, eq_self, Nat.reduceEqDiff, Nat.reduceLeDiff, nI_add, nI_1, nI_leI, nI_ltI, nI_eq, nI_clamp, kz_m1, kz_mn, kz_mn2, kz_n0, kz_0n, kz_0, kz_le0, kz_0lt, false_implies, true_implies, not_false_eq_true, not_true_eq_false, Nat.zero_le, kb_0, kz_10, kz_of, ky_sw, kz_mx, kz_mi, mh, h182, ht2, kz_4, e27, e96, es, nI_mul]) | (refine ⟨vp_in_nI (by omega) (by omega), ?_⟩) | (refine ⟨fun zc => ?_, fun zc => ?_⟩ <;> try (exfalso; omega)) | fail)
      · have e0 : (kTl c b m).getD (t + k) 0 = 0 := by
          rw [List.getD_eq_getElem?_getD, List.getElem?_eq_none (by rw [kTl_len]; omega)]; rfl
        rw [e0] at hi
        repeat' (first | (exact hi) | (refine ky_ok_stp rfl ?_; simp (disch := first | omega | assumption) only [ky_stp, ky_inv, ky_ldi, ky_ldl, ky_ldd, ky_lda, ky_cl2, ky_st1, ky_st2, ky_s1i, ky_s2i, ky_s1l, ky_s2l, ky_sli, ky_s1f, ky_s2f, ky_s1d, ky_s2d, ky_sr, ky_sai, ky_sasi, ky_sasl, ky_sasr, ky_svr, ky_sv, ky_sv2, ky_s1, ky_cs, ky_pop, ky_nth, ky_snt, ky_obj, ky_ari, ky_arl, ky_arr, ky_arn, ky_fv, ky_rcv, List.map_cons, List.map_nil, List.drop_succ_cons, List.drop_zero, Value.category, Nat.reduceAdd, Nat.reduceSub, true_and, and_true, true_or, or_true, reduceCtorEq, ite_true, ite_false, eq_self, Nat.reduceEqDiff, Nat.reduceLeDiff, nI_add, nI_1, nI_leI, nI_ltI, nI_eq, nI_clamp, kz_m1, kz_mn, kz_mn2, kz_n0, kz_0n, kz_0, kz_le0, kz_0lt, false_implies, true_implies, not_false_eq_true, not_true_eq_false, Nat.zero_le, kb_0, kz_10, kz_of, ky_sw, kz_mx, kz_mi, mh, kz_4, e27, nI_mul, Int32.add_zero]) | (refine ⟨vp_in_nI (by omega) (by omega), ?_⟩) | (refine ⟨fun zc => ?_, fun zc => ?_⟩ <;> try (exfalso; omega)) | fail)
  refine ⟨Nat.le_of_ble_eq_true rfl, fun z => absurd z (by decide), ?_⟩; show ky_ok adK 212 0 [some (.ref (a 170)), some (.int (nI (b + t))), some (.int (nI (b + m))), none, none] [] f 0 0 _
  repeat' (first | (refine loop 4 0 (by omega)) | (refine ky_ok_stp rfl ?_; simp (disch := first | omega | assumption) only [ky_stp, ky_inv, ky_ldi, ky_ldl, ky_ldd, ky_lda, ky_cl2, ky_st1, ky_st2, ky_s1i, ky_s2i, ky_s1l, ky_s2l, ky_sli, ky_s1f, ky_s2f, ky_s1d, ky_s2d, ky_sr, ky_sai, ky_sasi, ky_sasl, ky_sasr, ky_svr, ky_sv, ky_sv2, ky_s1, ky_cs, ky_pop, ky_nth, ky_snt, ky_obj, ky_ari, ky_arl, ky_arr, ky_arn, ky_fv, ky_rcv, List.map_cons, List.map_nil, List.drop_succ_cons, List.drop_zero, Value.category, Nat.reduceAdd, Nat.reduceSub, true_and, and_true, true_or, or_true, reduceCtorEq, ite_true, ite_false, eq_self, Nat.reduceEqDiff, Nat.reduceLeDiff, nI_add, nI_1, nI_leI, nI_ltI, nI_eq, nI_clamp, kz_m1, kz_mn, kz_mn2, kz_n0, kz_0n, kz_0, kz_le0, kz_0lt, false_implies, true_implies, not_false_eq_true, not_true_eq_false, Nat.zero_le, kb_0, kz_10, kz_of, ky_sw, kz_mx, kz_mi]) | (refine ⟨vp_in_nI (by omega) (by omega), ?_⟩) | (refine ⟨fun zc => ?_, fun zc => ?_⟩ <;> try (exfalso; omega)) | fail)
theorem kx213a (hM : kMo a f g) (hs : f (a 171) = some (.inl (1, 388, .inl s))) (hp : p < 60) (hi : i < 8) {X B Y Z D K M : Nat} (hsv : s (28 + 6 * p + (if i < 4 then 3 else 4)) = nI X) (k1 : nI X / nI B = nI Y) (zB : (nI B = 0) = False) (k2 : nI Y / 27 = nI Z) (k3 : nI Y - nI Z * 27 = nI D) (e4 : nI i / nI 4 = nI K) (e4' : nI i - nI K * nI 4 = nI M) (hM4 : M < 4) (hQ : Q (.inl (some (.int (nI D)))) f) : ky_ok adK 213 7 [some (.ref (a 170)), some (.int (nI p)), some (.int (nI i)), some (.int (nI B)), some (.int (nI M))] [] f 0 0 Q := by
  have mh := hM; unfold kMo at mh
  have z27 : ((27 : Int32) = 0) = False := by decide
  have z4 : (nI 4 = 0) = False := by decide
  by_cases hi4 : i < 4
  · rw [if_pos hi4] at hsv
    repeat' (first | ((refine kx173 (w := 3) hM hs hp (by decide) ?_; simp only [ky_aft, ky_vl, Nat.reduceAdd])) | (refine ky_ok_stp rfl ?_; simp (disch := first | omega | assumption) only [ky_stp, ky_inv, ky_ldi, ky_ldl, ky_ldd, ky_lda, ky_cl2, ky_st1, ky_st2, ky_s1i, ky_s2i, ky_s1l, ky_s2l, ky_sli, ky_s1f, ky_s2f, ky_s1d, ky_s2d, ky_sr, ky_sai, ky_sasi, ky_sasl, ky_sasr, ky_svr, ky_sv, ky_sv2, ky_s1, ky_cs, ky_pop, ky_nth, ky_snt, ky_obj, ky_ari, ky_arl, ky_arr, ky_arn, ky_fv, ky_rcv, List.map_cons, List.map_nil, List.drop_succ_cons, List.drop_zero, Value.category, Nat.reduceAdd, Nat.reduceSub, true_and, and_true, true_or, or_true, reduceCtorEq, ite_true, ite_false, eq_self, Nat.reduceEqDiff, Nat.reduceLeDiff, nI_add, nI_1, nI_leI, nI_ltI, nI_eq, nI_clamp, kz_m1, kz_mn, kz_mn2, kz_n0, kz_0n, kz_0, kz_le0, kz_0lt, false_implies, true_implies, not_false_eq_true, not_true_eq_false, Nat.zero_le, kb_0, kz_10, kz_of, ky_sw, kz_mx, kz_mi, mh, z4, z27, zB, e4, e4', kz_4, hsv, k1, k2, k3]) | (refine ⟨vp_in_nI (by omega) (by omega), ?_⟩) | (refine ⟨fun zc => ?_, fun zc => ?_⟩ <;> try (exfalso; omega)) | fail)
    all_goals exact hQ
  · rw [if_neg hi4] at hsv
    repeat' (first | ((refine kx173 (w := 4) hM hs hp (by decide) ?_; simp only [ky_aft, ky_vl, Nat.reduceAdd])) | (refine ky_ok_stp rfl ?_; simp (disch := first | omega | assumption) only [ky_stp, ky_inv, ky_ldi, ky_ldl, ky_ldd, ky_lda, ky_cl2, ky_st1, ky_st2, ky_s1i, ky_s2i, ky_s1l, ky_s2l, ky_sli, ky_s1f, ky_s2f, ky_s1d, ky_s2d, ky_sr, ky_sai, ky_sasi, ky_sasl, ky_sasr, ky_svr, ky_sv, ky_sv2, ky_s1, ky_cs, ky_pop, ky_nth, ky_snt, ky_obj, ky_ari, ky_arl, ky_arr, ky_arn, ky_fv, ky_rcv, List.map_cons, List.map_nil, List.drop_succ_cons, List.drop_zero, Value.category, Nat.reduceAdd, Nat.reduceSub, true_and, and_true, true_or, or_true, reduceCtorEq, ite_true, ite_false, eq_self, Nat.reduceEqDiff, Nat.reduceLeDiff, nI_add, nI_1, nI_leI, nI_ltI, nI_eq, nI_clamp, kz_m1, kz_mn, kz_mn2, kz_n0, kz_0n, kz_0, kz_le0, kz_0lt, false_implies, true_implies, not_false_eq_true, not_true_eq_false, Nat.zero_le, kb_0, kz_10, kz_of, ky_sw, kz_mx, kz_mi, mh, z4, z27, zB, e4, e4', kz_4, hsv, k1, k2, k3]) | (refine ⟨vp_in_nI (by omega) (by omega), ?_⟩) | (refine ⟨fun zc => ?_, fun zc => ?_⟩ <;> try (exfalso; omega)) | fail)
    all_goals exact hQ
theorem kx213b (hi : i < 8) (hfin : ky_ok adK 213 7 [some (.ref (a 170)), some (.int (nI p)), some (.int (nI i)), some (.int (nI (27 ^ (3 - i % 4)))), some (.int (nI (i % 4)))] [] f 0 0 Q) : ky_cl adK 213 [.ref (a 170), .int (nI p), .int (nI i)] f Q := by
  have z27 : ((27 : Int32) = 0) = False := by decide
  have z4 : ((4 : Int32) = 0) = False := by decide
  have e4 : nI i / 4 = nI (i / 4) := nI_dv (b := 4) (by omega) (by decide)
  have e4' : nI i - nI (i / 4) * 4 = nI (i % 4) := by
    rw [show (4 : Int32) = nI 4 from rfl, nI_mul, nI_sub (by omega)]
    congr 1
    omega
  have loop : ∀ m k, k + m = i % 4 → ky_ok adK 213 7 [some (.ref (a 170)), some (.int (nI p)), some (.int (nI i)), some (.int (nI (27 ^ (3 - k)))), some (.int (nI k))] [] f 0 0 Q := by
    intro m
    induction m with
    | zero =>
      intro k hk
      obtain rfl : k = i % 4 := by omega
      exact hfin
    | succ m ih =>
      intro k hk
      have hi' := ih (k + 1) (by omega)
      have k1 : nI (27 ^ (3 - k)) / 27 = nI (27 ^ (3 - (k + 1))) := by
        have hB : 27 ^ (3 - k) ≤ 27 ^ 3 := Nat.pow_le_pow_right (by decide) (by omega)
        have hp' : 27 ^ (3 - k) = 27 ^ (3 - (k + 1)) * 27 := by rw [← Nat.pow_succ]; congr 1; omega
        rw [show (27 : Int32) = nI 27 from rfl, nI_dv (by omega) (by decide), hp', Nat.mul_div_cancel _ (by decide)]
      generalize nI (27 ^ (3 - k)) = B1 at k1
      generalize nI (27 ^ (3 - (k + 1))) = B2 at k1 hi'
      repeat' (first | (exact hi') | (refine ky_ok_stp rfl ?_; simp (disch := first | omega | assumption) only [ky_stp, ky_inv, ky_ldi, ky_ldl, ky_ldd, ky_lda, ky_cl2, ky_st1, ky_st2, ky_s1i, ky_s2i, ky_s1l, ky_s2l, ky_sli, ky_s1f, ky_s2f, ky_s1d, ky_s2d, ky_sr, ky_sai, ky_sasi, ky_sasl, ky_sasr, ky_svr, ky_sv, ky_sv2, ky_s1, ky_cs, ky_pop, ky_nth, ky_snt, ky_obj, ky_ari, ky_arl, ky_arr, ky_arn, ky_fv, ky_rcv, List.map_cons, List.map_nil, List.drop_succ_cons, List.drop_zero, Value.category, Nat.reduceAdd, Nat.reduceSub, true_and, and_true, true_or, or_true, reduceCtorEq, ite_true, ite_false, eq_self, Nat.reduceEqDiff, Nat.reduceLeDiff, nI_add, nI_1, nI_leI, nI_ltI, nI_eq, nI_clamp, kz_m1, kz_mn, kz_mn2, kz_n0, kz_0n, kz_0, kz_le0, kz_0lt, false_implies, true_implies, not_false_eq_true, not_true_eq_false, Nat.zero_le, kb_0, kz_10, kz_of, ky_sw, kz_mx, kz_mi, z4, z27, e4, e4', k1]) | (refine ⟨vp_in_nI (by omega) (by omega), ?_⟩) | (rw [if_neg (by decide)]; refine ⟨by decide, by decide, ?_⟩) | (refine ⟨by decide, by decide, ?_⟩) | (refine ⟨fun zc => ?_, fun zc => ?_⟩ <;> try (exfalso; omega)) | fail)
  have hl := loop (i % 4) 0 (by omega)
  refine ⟨Nat.le_of_ble_eq_true rfl, fun z => absurd z (by decide), ?_⟩; show ky_ok adK 213 0 [some (.ref (a 170)), some (.int (nI p)), some (.int (nI i)), none, none] [] f 0 0 _
  have eB : (19683 : Int32) = nI (27 ^ (3 - 0)) := rfl
  generalize nI (27 ^ (3 - 0)) = B at eB hl
  repeat' (first | (exact hl) | (refine ky_ok_stp rfl ?_; simp (disch := first | omega | assumption) only [ky_stp, ky_inv, ky_ldi, ky_ldl, ky_ldd, ky_lda, ky_cl2, ky_st1, ky_st2, ky_s1i, ky_s2i, ky_s1l, ky_s2l, ky_sli, ky_s1f, ky_s2f, ky_s1d, ky_s2d, ky_sr, ky_sai, ky_sasi, ky_sasl, ky_sasr, ky_svr, ky_sv, ky_sv2, ky_s1, ky_cs, ky_pop, ky_nth, ky_snt, ky_obj, ky_ari, ky_arl, ky_arr, ky_arn, ky_fv, ky_rcv, List.map_cons, List.map_nil, List.drop_succ_cons, List.drop_zero, Value.category, Nat.reduceAdd, Nat.reduceSub, true_and, and_true, true_or, or_true, reduceCtorEq, ite_true, ite_false, eq_self, Nat.reduceEqDiff, Nat.reduceLeDiff, nI_add, nI_1, nI_leI, nI_ltI, nI_eq, nI_clamp, kz_m1, kz_mn, kz_mn2, kz_n0, kz_0n, kz_0, kz_le0, kz_0lt, false_implies, true_implies, not_false_eq_true, not_true_eq_false, Nat.zero_le, kb_0, kz_10, kz_of, ky_sw, kz_mx, kz_mi, eB]) | (refine ⟨vp_in_nI (by omega) (by omega), ?_⟩) | (refine ⟨fun zc => ?_, fun zc => ?_⟩ <;> try (exfalso; omega)) | fail)
theorem kx213 (hM : kMo a f g) (hs : f (a 171) = some (.inl (1, 388, .inl s))) (hp : p < 60) {W : List Nat} (hW : kWd W) (h3 : s (28 + 6 * p + 3) = kHf W 0) (h4 : s (28 + 6 * p + 4) = kHf W 4) (hi : i < 8) (hQ : Q (.inl (some (.int (nI (W.getD i 0 - 96))))) f) : ky_cl adK 213 [.ref (a 170), .int (nI p), .int (nI i)] f Q := by
  have hd := fun j => (kWd_d hW j).1
  have d0 := hd 0
  have d1 := hd 1
  have d2 := hd 2
  have d3 := hd 3
  have d4 := hd 4
  have d5 := hd 5
  have d6 := hd 6
  have d7 := hd 7
  unfold kHf at h3 h4
  refine kx213b hi ?_
  have fin : ∀ X, X < 531441 → X / 27 ^ (3 - i % 4) % 27 = W.getD i 0 - 96 → s (28 + 6 * p + (if i < 4 then 3 else 4)) = nI X → ky_ok adK 213 7 [some (.ref (a 170)), some (.int (nI p)), some (.int (nI i)), some (.int (nI (27 ^ (3 - i % 4)))), some (.int (nI (i % 4)))] [] f 0 0 Q := by
    intro X hX hx hsv
    clear d0 d1 d2 d3 d4 d5 d6 d7 hd h3 h4
    have hB : 27 ^ (3 - i % 4) ≤ 27 ^ 3 := Nat.pow_le_pow_right (by decide) (by omega)
    have hB0 : 0 < 27 ^ (3 - i % 4) := Nat.pow_pos (by decide)
    generalize 27 ^ (3 - i % 4) = B at hx hB hB0
    have hXB : X / B ≤ X := Nat.div_le_self X B
    have k1 : nI X / nI B = nI (X / B) := nI_dv (by omega) (by omega)
    generalize X / B = Y at k1 hXB hx
    refine kx213a hM hs hp hi hsv k1 (eq_false (by rw [show (0 : Int32) = nI 0 from rfl, nI_eq (by omega) (by omega)]; omega)) (nI_dv (b := 27) (by omega) (by decide)) ?_ (nI_dv (b := 4) (by omega) (by decide)) ?_ (by omega) hQ
    · rw [show (27 : Int32) = nI 27 from rfl, nI_mul, nI_sub (by omega)]
      congr 1
      omega
    · rw [nI_mul, nI_sub (by omega)]
      congr 1
      omega
  by_cases hi4 : i < 4
  · refine fin (27 * (27 * (27 * (W.getD 0 0 - 96) + (W.getD 1 0 - 96)) + (W.getD 2 0 - 96)) + (W.getD 3 0 - 96)) (by omega) ?_ (by rw [if_pos hi4]; exact h3)
    rcases (show i = 0 ∨ i = 1 ∨ i = 2 ∨ i = 3 by omega) with e | e | e | e <;> subst e <;> simp only [Nat.reduceMod, Nat.reduceSub, Nat.reducePow] <;> omega
  · refine fin (27 * (27 * (27 * (W.getD 4 0 - 96) + (W.getD 5 0 - 96)) + (W.getD 6 0 - 96)) + (W.getD 7 0 - 96)) (by omega) ?_ (by rw [if_neg hi4]; exact h4)
    rcases (show i = 4 ∨ i = 5 ∨ i = 6 ∨ i = 7 by omega) with e | e | e | e <;> subst e <;> simp only [Nat.reduceMod, Nat.reduceSub, Nat.reducePow] <;> omega
theorem kx214 (hM : kMo a f g) (hs : f (a 171) = some (.inl (1, 388, .inl s))) (hp : p < 60) {W : List Nat} (hW : kWd W) (h3 : s (28 + 6 * p + 3) = kHf W 0) (h4 : s (28 + 6 * p + 4) = kHf W 4) (hQ : Q (.inl (some (.int (nI W.length)))) f) : ky_cl adK 214 [.ref (a 170), .int (nI p)] f Q := by
  have hd := fun j => kWd_d hW j
  have h8 := hW.2.1
  have mh := hM; unfold kMo at mh
  have loop : ∀ m k, k + m = W.length → ky_ok adK 214 2 [some (.ref (a 170)), some (.int (nI p)), some (.int (nI k))] [] f 0 0 Q := by
    intro m
    induction m with
    | zero =>
      intro k hk
      by_cases e : k < 8
      · have d0 : W.getD k 0 - 96 = 0 := by have := (hd k).2; omega
        repeat' (first | (refine kx213 hM hs hp hW h3 h4 e ?_; simp only [ky_aft, ky_vl, Nat.reduceAdd]) | (refine ky_ok_stp rfl ?_; simp (disch := first | omega | assumption) only [ky_stp, ky_inv, ky_ldi, ky_ldl, ky_ldd, ky_lda, ky_cl2, ky_st1, ky_st2, ky_s1i, ky_s2i, ky_s1l, ky_s2l, ky_sli, ky_s1f, ky_s2f, ky_s1d, ky_s2d, ky_sr, ky_sai, ky_sasi, ky_sasl, ky_sasr, ky_svr, ky_sv, ky_sv2, ky_s1, ky_cs, ky_pop, ky_nth, ky_snt, ky_obj, ky_ari, ky_arl, ky_arr, ky_arn, ky_fv, ky_rcv, List.map_cons, List.map_nil, List.drop_succ_cons, List.drop_zero, Value.category, Nat.reduceAdd, Nat.reduceSub, true_and, and_true, true_or, or_true, reduceCtorEq, ite_true, ite_false, eq_self, Nat.reduceEqDiff, Nat.reduceLeDiff, nI_add, nI_1, nI_leI, nI_ltI, nI_eq, nI_clamp, kz_m1, kz_mn, kz_mn2, kz_n0, kz_0n, kz_0, kz_le0, kz_0lt, false_implies, true_implies, not_false_eq_true, not_true_eq_false, Nat.zero_le, kb_0, kz_10, kz_of, ky_sw, kz_mx, kz_mi, mh, kz_8, d0]) | (refine ⟨vp_in_nI (by omega) (by omega), ?_⟩) | (refine ⟨fun zc => ?_, fun zc => ?_⟩ <;> try (exfalso; omega)) | fail)
        rw [show k = W.length by omega]; exact hQ
      · repeat' (first | (refine ky_ok_stp rfl ?_; simp (disch := first | omega | assumption) only [ky_stp, ky_inv, ky_ldi, ky_ldl, ky_ldd, ky_lda, ky_cl2, ky_st1, ky_st2, ky_s1i, ky_s2i, ky_s1l, ky_s2l, ky_sli, ky_s1f, ky_s2f, ky_s1d, ky_s2d, ky_sr, ky_sai, ky_sasi, ky_sasl, ky_sasr, ky_svr, ky_sv, ky_sv2, ky_s1, ky_cs, ky_pop, ky_nth, ky_snt, ky_obj, ky_ari, ky_arl, ky_arr, ky_arn, ky_fv, ky_rcv, List.map_cons, List.map_nil, List.drop_succ_cons, List.drop_zero, Value.category, Nat.reduceAdd, Nat.reduceSub, true_and, and_true, true_or, or_true, reduceCtorEq, ite_true, ite_false, eq_self, Nat.reduceEqDiff, Nat.reduceLeDiff, nI_add, nI_1, nI_leI, nI_ltI, nI_eq, nI_clamp, kz_m1, kz_mn, kz_mn2, kz_n0, kz_0n, kz_0, kz_le0, kz_0lt, false_implies, true_implies, not_false_eq_true, not_true_eq_false, Nat.zero_le, kb_0, kz_10, kz_of, ky_sw, kz_mx, kz_mi, mh, kz_8]) | (refine ⟨vp_in_nI (by omega) (by omega), ?_⟩) | (refine ⟨fun zc => ?_, fun zc => ?_⟩ <;> try (exfalso; omega)) | fail)
        rw [show k = W.length by omega]; exact hQ
    | succ m ih =>
      intro k hk
      have hi := ih (k + 1) (by omega)
      have d0 := (hd k).2.mp (by omega)
      have d1 := (hd k).1
      repeat' (first | (refine kx213 hM hs hp hW h3 h4 (show k < 8 by omega) ?_; simp only [ky_aft, ky_vl, Nat.reduceAdd]) | (exact hi) | (refine ky_ok_stp rfl ?_; simp (disch := first | omega | assumption) only [ky_stp, ky_inv, ky_ldi, ky_ldl, ky_ldd, ky_lda, ky_cl2, ky_st1, ky_st2, ky_s1i, ky_s2i, ky_s1l, ky_s2l, ky_sli, ky_s1f, ky_s2f, ky_s1d, ky_s2d, ky_sr, ky_sai, ky_sasi, ky_sasl, ky_sasr, ky_svr, ky_sv, ky_sv2, ky_s1, ky_cs, ky_pop, ky_nth, ky_snt, ky_obj, ky_ari, ky_arl, ky_arr, ky_arn, ky_fv, ky_rcv, List.map_cons, List.map_nil, List.drop_succ_cons, List.drop_zero, Value.category, Nat.reduceAdd, Nat.reduceSub, true_and, and_true, true_or, or_true, reduceCtorEq, ite_true, ite_false, eq_self, Nat.reduceEqDiff, Nat.reduceLeDiff, nI_add, nI_1, nI_leI, nI_ltI, nI_eq, nI_clamp, kz_m1, kz_mn, kz_mn2, kz_n0, kz_0n, kz_0, kz_le0, kz_0lt, false_implies, true_implies, not_false_eq_true, not_true_eq_false, Nat.zero_le, kb_0, kz_10, kz_of, ky_sw, kz_mx, kz_mi, mh, kz_8, show ¬ W.getD k 0 - 96 = 0 by omega]) | (refine ⟨vp_in_nI (by omega) (by omega), ?_⟩) | (refine ⟨fun zc => ?_, fun zc => ?_⟩ <;> try (exfalso; omega)) | fail)
  refine ⟨Nat.le_of_ble_eq_true rfl, fun z => absurd z (by decide), ?_⟩; show ky_ok adK 214 0 [some (.ref (a 170)), some (.int (nI p)), none] [] f 0 0 _
  repeat' (first | (refine loop W.length 0 (by omega)) | (refine ky_ok_stp rfl ?_; simp (disch := first | omega | assumption) only [ky_stp, ky_inv, ky_ldi, ky_ldl, ky_ldd, ky_lda, ky_cl2, ky_st1, ky_st2, ky_s1i, ky_s2i, ky_s1l, ky_s2l, ky_sli, ky_s1f, ky_s2f, ky_s1d, ky_s2d, ky_sr, ky_sai, ky_sasi, ky_sasl, ky_sasr, ky_svr, ky_sv, ky_sv2, ky_s1, ky_cs, ky_pop, ky_nth, ky_snt, ky_obj, ky_ari, ky_arl, ky_arr, ky_arn, ky_fv, ky_rcv, List.map_cons, List.map_nil, List.drop_succ_cons, List.drop_zero, Value.category, Nat.reduceAdd, Nat.reduceSub, true_and, and_true, true_or, or_true, reduceCtorEq, ite_true, ite_false, eq_self, Nat.reduceEqDiff, Nat.reduceLeDiff, nI_add, nI_1, nI_leI, nI_ltI, nI_eq, nI_clamp, kz_m1, kz_mn, kz_mn2, kz_n0, kz_0n, kz_0, kz_le0, kz_0lt, false_implies, true_implies, not_false_eq_true, not_true_eq_false, Nat.zero_le, kb_0, kz_10, kz_of, ky_sw, kz_mx, kz_mi]) | (refine ⟨vp_in_nI (by omega) (by omega), ?_⟩) | (refine ⟨fun zc => ?_, fun zc => ?_⟩ <;> try (exfalso; omega)) | fail)
end KXM
