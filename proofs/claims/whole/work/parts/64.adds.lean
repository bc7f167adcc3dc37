/-! ## the reference: number bytes -/
/-- bytes of a NUMBER as they are laid -/
def kLy (a : Nat → Nat) (f : ky_H) (g : Nat → Int32) (p : Nat) (N : Nat → Int32) (o : List Nat) : Prop := kMo a f g ∧ g 2 = nI o.length ∧ ∃ M, f (a 178) = some (.inl (1, 3600, .inl M)) ∧ (∀ t, t < o.length → M (60 * p + t) = nI (o.getD t 0)) ∧ ∀ j, (j < 60 * p ∨ 60 * p + 60 ≤ j) → M j = N j
theorem kMo_fr {a : Nat → Nat} {f f' : ky_H} {g : Nat → Int32} (h : kMo a f g) (hf : f' (a 170) = f (a 170)) : kMo a f' g := hf.trans h
def kAdF (j : Nat) : Prop := j = 170 ∨ j = 178
section KXM
variable {adK a : Nat → Nat} {f : ky_H} {Q : ky_Q} {g : Nat → Int32} {s r N : Nat → Int32} {p w n l b c : Nat} {x lo hi v : Int32} {z : kZ} {o : List Nat}
theorem kx188 (ha : kI a) (h : kLy a f g p N o) (ho : o.length < 60) (hp : p < 60) (hQ : ∀ f' g', (∀ j, j ≠ 2 → g' j = g j) → kLy a f' g' p N (o ++ [b]) → kfr a f f' kAdF → Q (.inl none) f') : ky_cl adK 188 [.ref (a 170), .int (nI p), .int (nI b)] f Q := by
  obtain ⟨hM, hg, M, hN, hM1, hM2⟩ := h
  have mh := hM; unfold kMo at mh
  refine ⟨Nat.le_of_ble_eq_true rfl, fun z => absurd z (by decide), ?_⟩; show ky_ok adK 188 0 [some (.ref (a 170)), some (.int (nI p)), some (.int (nI b))] [] f 0 0 _
  repeat' (first | (refine ⟨vp_in_nI (n := 60 * p + o.length) (by omega) (by omega), ?_⟩) | (refine ky_ok_stp rfl ?_; simp (disch := first | omega | assumption) only [ky_stp, ky_inv, ky_ldi, ky_ldl, ky_ldd, ky_lda, ky_cl2, ky_st1, ky_st2, ky_s1i, ky_s2i, ky_s1l, ky_s2l, ky_sli, ky_s1f, ky_s2f, ky_s1d, ky_s2d, ky_sr, ky_sai, ky_sasi, ky_sasl, ky_sasr, ky_svr, ky_sv, ky_sv2, ky_s1, ky_cs, ky_pop, ky_nth, ky_snt, ky_obj, ky_ari, ky_arl, ky_arr, ky_arn, ky_fv, ky_rcv, List.map_cons, List.map_nil, List.drop_succ_cons, List.drop_zero, Value.category, Nat.reduceAdd, Nat.reduceSub, true_and, and_true, true_or, or_true, reduceCtorEq, ite_true, ite_false, eq_self, Nat.reduceEqDiff, Nat.reduceLeDiff, nI_add, nI_1, nI_leI, nI_ltI, nI_eq, nI_clamp, kz_m1, kz_mn, kz_mn2, kz_n0, kz_0n, kz_0, kz_le0, kz_0lt, false_implies, true_implies, not_false_eq_true, not_true_eq_false, Nat.zero_le, kb_0, kz_10, kz_of, ky_sw, kz_mx, kz_mi, mh, hN, hg, kz_60, nI_mul, kz_up, kI_ne ha, kz_same, kz_uu]) | (refine ⟨vp_in_nI (by omega) (by omega), ?_⟩) | (refine ⟨fun zc => ?_, fun zc => ?_⟩ <;> try (exfalso; omega)) | fail)
  refine hQ _ (upd g 2 (nI (o.length + 1))) (fun j hj => by unfold upd; rw [if_neg hj]) ⟨?_, ?_, upd M (60 * p + o.length) (nI b), ?_, ?_, ?_⟩ ?_
  · unfold kMo
    rw [kz_same]
    rfl
  · rw [List.length_append]
    rfl
  · exact (kz_ne (fun z => absurd (ha _ _ z) (by omega))).trans kz_same
  · intro t ht
    rw [List.length_append, List.length_singleton] at ht
    unfold upd
    by_cases e : t = o.length
    · subst e
      rw [if_pos rfl, List.getD_eq_getElem?_getD, List.getElem?_append_right (Nat.le_refl _), Nat.sub_self]
      rfl
    · rw [if_neg (by omega), hM1 t (by omega), List.getD_eq_getElem?_getD, List.getD_eq_getElem?_getD, List.getElem?_append_left (by omega)]
  · intro j hj
    unfold upd
    rw [if_neg (by omega)]
    exact hM2 j hj
  · intro j hj
    unfold kAdF at hj
    exact (kz_ne (fun z => hj (Or.inl (ha _ _ z)))).trans (kz_ne (fun z => hj (Or.inr (ha _ _ z))))
end KXM
