/-! ## NUMBERs, read -/
def kapp (c : Nat → Nat) (len : Nat) (l : List Nat) : Nat → Nat := fun j => if j < len then c j else l.getD (j - len) 0
theorem kapp_nil {c : Nat → Nat} {len i : Nat} (h : i < len) : kapp c len [] i = c i := if_pos h
theorem kapp_one (c : Nat → Nat) (len : Nat) (l : List Nat) (b i : Nat) (h : i < len + l.length + 1) : kcu (kapp c len l) (len + l.length) b i = kapp c len (l ++ [b]) i := by
  unfold kcu kapp
  by_cases h1 : i = len + l.length
  · subst h1
    rw [if_pos rfl, if_neg (by omega), Nat.add_sub_cancel_left, List.getD_eq_getElem?_getD, List.getElem?_append_right (Nat.le_refl _), Nat.sub_self]
    rfl
  · rw [if_neg h1]
    by_cases h2 : i < len
    · rw [if_pos h2, if_pos h2]
    · rw [if_neg h2, if_neg h2, List.getD_eq_getElem?_getD, List.getD_eq_getElem?_getD, List.getElem?_append_left (by omega)]
theorem kapp_app (c : Nat → Nat) (len : Nat) (l l' : List Nat) : kapp (kapp c len l) (len + l.length) l' = kapp c len (l ++ l') := by
  funext i
  unfold kapp
  by_cases h1 : i < len
  · rw [if_pos (by omega), if_pos h1, if_pos h1]
  · by_cases h2 : i < len + l.length
    · rw [if_pos h2, if_neg h1, if_neg h1, List.getD_eq_getElem?_getD, List.getD_eq_getElem?_getD, List.getElem?_append_left (by omega)]
    · rw [if_neg h2, if_neg h1, List.getD_eq_getElem?_getD, List.getD_eq_getElem?_getD, List.getElem?_append_right (by omega), show i - (len + l.length) = i - len - l.length by omega]
theorem kz_m8 (x : Int32) : x + (-8) = x - 8 := by
  rw [Int32.sub_eq_add_neg]
theorem kz_m8n : ((0 : Int32) - 8 < 0) = True := by decide
section KXA
variable {adK a : Nat → Nat} {k kl cap len i : Nat} {f : ky_H} {c : Nat → Nat} {Q : ky_Q} {l : List Nat}
/-- one more byte: in lists -/
theorem kx2l (ha : kI a) {b : Nat} (hB : kB a k f cap (len + l.length) (kapp c len l)) (hl : len + l.length < cap) (hc : cap < 100000) (hb : b < 256) (hQ : ∀ f', kB a k f' cap (len + (l ++ [b]).length) (kapp c len (l ++ [b])) → kfr a f f' (kBB k) → Q (.inl none) f') : ky_cl adK 2 [.ref (a k), .int (nI b)] f Q :=
  kx2 ha hB hl hc hb fun f' h1 h2 => hQ f' (by
    have h3 := kB_co h1 (c' := kapp c len (l ++ [b])) fun i hi => (kapp_one c len l b i hi).symm
    rw [List.length_append, List.length_singleton, ← Nat.add_assoc]; exact h3) h2
theorem kB_0 {f : ky_H} (hB : kB a k f cap len c) : kB a k f cap (len + ([] : List Nat).length) (kapp c len []) := kB_co hB fun i hi => kapp_nil hi
theorem kx18 (ha : kI a) (hB : kB a k f cap len c) (hc : cap < 100000) (hlen : len + l.length ≤ cap) (hl8 : l.length ≤ 8) (hlb : ∀ b ∈ l, 0 < b ∧ b < 256) (hQ : ∀ f', kB a k f' cap (len + l.length) (kapp c len l) → kfr a f f' (kBB k) → Q (.inl none) f') :
    ky_cl adK 18 [.ref (a k), .long (kpS l)] f Q := by
  have loop : ∀ j f, j ≤ 8 → kB a k f cap (len + (l.take (l.length - j)).length) (kapp c len (l.take (l.length - j))) → (∀ f', kB a k f' cap (len + l.length) (kapp c len l) → kfr a f f' (kBB k) → Q (.inl none) f') →
      ky_ok adK 18 3 [some (.ref (a k)), some (.long (kpS l)), none, some (.int (nI (8 * j) - 8)), none] [] f 0 0 Q ∧ ∀ w, ky_ok adK 18 3 [some (.ref (a k)), some (.long (kpS l)), none, some (.int (nI (8 * j) - 8)), some (.int w)] [] f 0 0 Q := by
    intro j
    induction j with
    | zero =>
      intro f _ hB hQ
      rw [Nat.sub_zero, List.take_length] at hB
      have e0 : nI (8 * 0) - 8 = 0 - 8 := rfl
      rw [e0]
      refine ⟨?_, fun w => ?_⟩
      · repeat' (first | (refine ky_ok_stp rfl ?_; simp (disch := first | omega | assumption) only [ky_stp, ky_inv, ky_ldi, ky_ldl, ky_ldd, ky_lda, ky_cl2, ky_st1, ky_st2, ky_s1i, ky_s2i, ky_s1l, ky_s2l, ky_sli, ky_s1f, ky_s2f, ky_s1d, ky_s2d, ky_sr, ky_sai, ky_sasi, ky_sasl, ky_sasr, ky_svr, ky_sv, ky_sv2, ky_s1, ky_cs, ky_pop, ky_nth, ky_snt, ky_obj, ky_ari, ky_arl, ky_arr, ky_arn, ky_fv, ky_rcv, List.map_cons, List.map_nil, List.drop_succ_cons, List.drop_zero, Value.category, Nat.reduceAdd, Nat.reduceSub, true_and, and_true, true_or, or_true, reduceCtorEq, ite_true, ite_false, eq_self, Nat.reduceEqDiff, Nat.reduceLeDiff, nI_add, nI_1, nI_leI, nI_ltI, nI_eq, nI_clamp, kz_m1, kz_mn, kz_mn2, kz_n0, kz_0n, kz_0, kz_le0, kz_0lt, false_implies, true_implies, not_false_eq_true, not_true_eq_false, Nat.zero_le, kb_0, kz_10, kz_of, ky_sw, kz_mx, kz_mi, kz_m8n]) | (refine ⟨vp_in_nI (by omega) (by omega), ?_⟩) | (refine ⟨fun zc => ?_, fun zc => ?_⟩ <;> try (exfalso; omega)) | fail)
        exact hQ f hB kfr_rf
      · repeat' (first | (refine ky_ok_stp rfl ?_; simp (disch := first | omega | assumption) only [ky_stp, ky_inv, ky_ldi, ky_ldl, ky_ldd, ky_lda, ky_cl2, ky_st1, ky_st2, ky_s1i, ky_s2i, ky_s1l, ky_s2l, ky_sli, ky_s1f, ky_s2f, ky_s1d, ky_s2d, ky_sr, ky_sai, ky_sasi, ky_sasl, ky_sasr, ky_svr, ky_sv, ky_sv2, ky_s1, ky_cs, ky_pop, ky_nth, ky_snt, ky_obj, ky_ari, ky_arl, ky_arr, ky_arn, ky_fv, ky_rcv, List.map_cons, List.map_nil, List.drop_succ_cons, List.drop_zero, Value.category, Nat.reduceAdd, Nat.reduceSub, true_and, and_true, true_or, or_true, reduceCtorEq, ite_true, ite_false, eq_self, Nat.reduceEqDiff, Nat.reduceLeDiff, nI_add, nI_1, nI_leI, nI_ltI, nI_eq, nI_clamp, kz_m1, kz_mn, kz_mn2, kz_n0, kz_0n, kz_0, kz_le0, kz_0lt, false_implies, true_implies, not_false_eq_true, not_true_eq_false, Nat.zero_le, kb_0, kz_10, kz_of, ky_sw, kz_mx, kz_mi, kz_m8n]) | (refine ⟨vp_in_nI (by omega) (by omega), ?_⟩) | (refine ⟨fun zc => ?_, fun zc => ?_⟩ <;> try (exfalso; omega)) | fail)
        exact hQ f hB kfr_rf
    | succ j ih =>
      intro f hj hB hQ
      obtain ⟨B, h0, -⟩ := id hB
      have e0 : nI (8 * (j + 1)) - 8 = nI (8 * j) := by
        rw [show (8 : Int32) = nI 8 from rfl, nI_sub (by omega)]; congr 1
      rw [e0]
      have e1 := kpS_sh (l := l) (j := j) (h := 8 * j) (fun b hb => (hlb b hb).2) hl8 (by omega) rfl
      have key : (kpN l / 256 ^ j % 256 = 0 ∧ l.take (l.length - j) = l.take (l.length - (j + 1))) ∨ (¬ kpN l / 256 ^ j % 256 = 0 ∧ l.take (l.length - j) = l.take (l.length - (j + 1)) ++ [kpN l / 256 ^ j % 256] ∧ j < l.length) := by
        by_cases h1 : j < l.length
        · right
          have h2 := kpN_dig l j (fun b hb => (hlb b hb).2) h1
          have h3 : l.getD (l.length - 1 - j) 0 = l[l.length - 1 - j] := by rw [List.getD_eq_getElem?_getD, List.getElem?_eq_getElem (by omega)]; rfl
          rw [h2, h3]
          refine ⟨?_, ?_, h1⟩
          · have := (hlb _ (List.getElem_mem (show l.length - 1 - j < l.length by omega))).1
            omega
          · rw [show l.length - j = (l.length - 1 - j) + 1 by omega, show l.length - (j + 1) = l.length - 1 - j by omega, List.take_add_one, List.getElem?_eq_getElem (by omega)]
            rfl
        · left
          refine ⟨?_, by rw [show l.length - j = 0 by omega, show l.length - (j + 1) = 0 by omega]⟩
          rw [kpN_hi l j (fun b hb => (hlb b hb).2) (by omega)]
      have hv : kpN l / 256 ^ j % 256 < 256 := Nat.mod_lt _ (by decide)
      generalize kpN l / 256 ^ j % 256 = v at e1 key hv
      have hn0 : 8 * j < 2 ^ 31 := by omega
      have main : ∀ w, ky_ok adK 18 3 [some (.ref (a k)), some (.long (kpS l)), none, some (.int (nI (8 * j))), w] [] f 0 0 Q := by
        intro w
        rcases key with ⟨hz, ht⟩ | ⟨hz, ht, hjl⟩
        · repeat' (first | (refine (ih f (by omega) (by rw [ht]; exact hB) hQ).2 _) | (refine ky_ok_stp rfl ?_; simp (disch := first | omega | assumption) only [ky_stp, ky_inv, ky_ldi, ky_ldl, ky_ldd, ky_lda, ky_cl2, ky_st1, ky_st2, ky_s1i, ky_s2i, ky_s1l, ky_s2l, ky_sli, ky_s1f, ky_s2f, ky_s1d, ky_s2d, ky_sr, ky_sai, ky_sasi, ky_sasl, ky_sasr, ky_svr, ky_sv, ky_sv2, ky_s1, ky_cs, ky_pop, ky_nth, ky_snt, ky_obj, ky_ari, ky_arl, ky_arr, ky_arn, ky_fv, ky_rcv, List.map_cons, List.map_nil, List.drop_succ_cons, List.drop_zero, Value.category, Nat.reduceAdd, Nat.reduceSub, true_and, and_true, true_or, or_true, reduceCtorEq, ite_true, ite_false, eq_self, Nat.reduceEqDiff, Nat.reduceLeDiff, nI_add, nI_1, nI_leI, nI_ltI, nI_eq, nI_clamp, kz_m1, kz_mn, kz_mn2, kz_n0, kz_0n, kz_0, kz_le0, kz_0lt, false_implies, true_implies, not_false_eq_true, not_true_eq_false, Nat.zero_le, kb_0, kz_10, kz_of, ky_sw, kz_mx, kz_mi, e1, hz, kz_m8]) | (refine ⟨vp_in_nI (by omega) (by omega), ?_⟩) | (refine ⟨fun zc => ?_, fun zc => ?_⟩ <;> try (exfalso; omega)) | fail)
        · repeat' (first | (refine ky_ok_stp rfl ?_; simp (disch := first | omega | assumption) only [ky_stp, ky_inv, ky_ldi, ky_ldl, ky_ldd, ky_lda, ky_cl2, ky_st1, ky_st2, ky_s1i, ky_s2i, ky_s1l, ky_s2l, ky_sli, ky_s1f, ky_s2f, ky_s1d, ky_s2d, ky_sr, ky_sai, ky_sasi, ky_sasl, ky_sasr, ky_svr, ky_sv, ky_sv2, ky_s1, ky_cs, ky_pop, ky_nth, ky_snt, ky_obj, ky_ari, ky_arl, ky_arr, ky_arn, ky_fv, ky_rcv, List.map_cons, List.map_nil, List.drop_succ_cons, List.drop_zero, Value.category, Nat.reduceAdd, Nat.reduceSub, true_and, and_true, true_or, or_true, reduceCtorEq, ite_true, ite_false, eq_self, Nat.reduceEqDiff, Nat.reduceLeDiff, nI_add, nI_1, nI_leI, nI_ltI, nI_eq, nI_clamp, kz_m1, kz_mn, kz_mn2, kz_n0, kz_0n, kz_0, kz_le0, kz_0lt, false_implies, true_implies, not_false_eq_true, not_true_eq_false, Nat.zero_le, kb_0, kz_10, kz_of, ky_sw, kz_mx, kz_mi, e1, h0, kz_m8]) | (refine ⟨vp_in_nI (by omega) (by omega), ?_⟩) | (refine ⟨fun zc => ?_, fun zc => ?_⟩ <;> try (exfalso; omega)) | fail)
          rw [ht] at ih
          refine kx2l ha hB (by rw [List.length_take]; omega) hc hv fun f1 hB1 hf1 => ?_
          simp only [ky_aft, ky_vl, Nat.reduceAdd]
          repeat' (first | (refine (ih f1 (by omega) hB1 fun f' z1 z2 => hQ f' z1 (kfr_tr hf1 z2 fun _ z => ⟨z, z⟩)).2 _) | (refine ky_ok_stp rfl ?_; simp (disch := first | omega | assumption) only [ky_stp, ky_inv, ky_ldi, ky_ldl, ky_ldd, ky_lda, ky_cl2, ky_st1, ky_st2, ky_s1i, ky_s2i, ky_s1l, ky_s2l, ky_sli, ky_s1f, ky_s2f, ky_s1d, ky_s2d, ky_sr, ky_sai, ky_sasi, ky_sasl, ky_sasr, ky_svr, ky_sv, ky_sv2, ky_s1, ky_cs, ky_pop, ky_nth, ky_snt, ky_obj, ky_ari, ky_arl, ky_arr, ky_arn, ky_fv, ky_rcv, List.map_cons, List.map_nil, List.drop_succ_cons, List.drop_zero, Value.category, Nat.reduceAdd, Nat.reduceSub, true_and, and_true, true_or, or_true, reduceCtorEq, ite_true, ite_false, eq_self, Nat.reduceEqDiff, Nat.reduceLeDiff, nI_add, nI_1, nI_leI, nI_ltI, nI_eq, nI_clamp, kz_m1, kz_mn, kz_mn2, kz_n0, kz_0n, kz_0, kz_le0, kz_0lt, false_implies, true_implies, not_false_eq_true, not_true_eq_false, Nat.zero_le, kb_0, kz_10, kz_of, ky_sw, kz_mx, kz_mi, kz_m8]) | (refine ⟨vp_in_nI (by omega) (by omega), ?_⟩) | (refine ⟨fun zc => ?_, fun zc => ?_⟩ <;> try (exfalso; omega)) | fail)
      exact ⟨main _, fun w => main _⟩
  refine ⟨Nat.le_of_ble_eq_true rfl, fun z => absurd z (by decide), ?_⟩; show ky_ok adK 18 0 [some (.ref (a k)), some (.long (kpS l)), none, none, none] [] f 0 0 _
  repeat' (first | (refine (loop 8 f (by omega) (by rw [show l.length - 8 = 0 by omega]; exact kB_0 hB) hQ).1) | (refine ky_ok_stp rfl ?_; simp (disch := first | omega | assumption) only [ky_stp, ky_inv, ky_ldi, ky_ldl, ky_ldd, ky_lda, ky_cl2, ky_st1, ky_st2, ky_s1i, ky_s2i, ky_s1l, ky_s2l, ky_sli, ky_s1f, ky_s2f, ky_s1d, ky_s2d, ky_sr, ky_sai, ky_sasi, ky_sasl, ky_sasr, ky_svr, ky_sv, ky_sv2, ky_s1, ky_cs, ky_pop, ky_nth, ky_snt, ky_obj, ky_ari, ky_arl, ky_arr, ky_arn, ky_fv, ky_rcv, List.map_cons, List.map_nil, List.drop_succ_cons, List.drop_zero, Value.category, Nat.reduceAdd, Nat.reduceSub, true_and, and_true, true_or, or_true, reduceCtorEq, ite_true, ite_false, eq_self, Nat.reduceEqDiff, Nat.reduceLeDiff, nI_add, nI_1, nI_leI, nI_ltI, nI_eq, nI_clamp, kz_m1, kz_mn, kz_mn2, kz_n0, kz_0n, kz_0, kz_le0, kz_0lt, false_implies, true_implies, not_false_eq_true, not_true_eq_false, Nat.zero_le, kb_0, kz_10, kz_of, ky_sw, kz_mx, kz_mi]) | (refine ⟨vp_in_nI (by omega) (by omega), ?_⟩) | (refine ⟨fun zc => ?_, fun zc => ?_⟩ <;> try (exfalso; omega)) | fail)
end KXA
