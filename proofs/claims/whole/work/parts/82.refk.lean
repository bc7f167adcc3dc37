/-! ## the reference: NUMBERs compared, find, size -/
theorem kds_r : ∀ (s t X Y : List Nat), (∀ b ∈ s, b ≠ 46) → (∀ b ∈ t, b ≠ 46) → (X = [] ∨ ∃ X', X = 46 :: X') → (Y = [] ∨ ∃ Y', Y = 46 :: Y') → s ++ X = t ++ Y → X = Y ∧ s = t
  | [], [], X, Y, _, _, _, _, h => ⟨h, rfl⟩
  | [], b :: t, X, Y, _, ht, hX, _, h => by
    have h : X = b :: (t ++ Y) := h
    rcases hX with hX | ⟨X', hX⟩
    · rw [hX] at h; cases h
    · rw [hX] at h
      injection h with h1 h2
      exact absurd h1.symm (ht b (List.mem_cons_self))
  | b :: s, [], X, Y, hs, _, _, hY, h => by
    have h : b :: (s ++ X) = Y := h
    rcases hY with hY | ⟨Y', hY⟩
    · rw [hY] at h; cases h
    · rw [hY] at h
      injection h with h1 h2
      exact absurd h1 (hs b (List.mem_cons_self))
  | b :: s, b' :: t, X, Y, hs, ht, hX, hY, h => by
    have h : b :: (s ++ X) = b' :: (t ++ Y) := h
    injection h with h1 h2
    obtain ⟨e1, e2⟩ := kds_r s t X Y (fun x hx => hs x (List.mem_cons_of_mem _ hx)) (fun x hx => ht x (List.mem_cons_of_mem _ hx)) hX hY h2
    exact ⟨e1, by rw [h1, e2]⟩
theorem kds {A B s t : List Nat} (hs : ∀ b ∈ s, b ≠ 46) (ht : ∀ b ∈ t, b ≠ 46) (hA : A = [] ∨ ∃ A', A = A' ++ [46]) (hB : B = [] ∨ ∃ B', B = B' ++ [46]) : A ++ s = B ++ t ↔ A = B ∧ s = t := by
  constructor
  · intro h
    have h := congrArg List.reverse h
    rw [List.reverse_append, List.reverse_append] at h
    obtain ⟨e1, e2⟩ := kds_r s.reverse t.reverse A.reverse B.reverse (fun b hb => hs b (List.mem_reverse.mp hb)) (fun b hb => ht b (List.mem_reverse.mp hb)) (hA.imp (fun e => by rw [e]; rfl) fun ⟨A', e⟩ => ⟨A'.reverse, by rw [e, List.reverse_append]; rfl⟩) (hB.imp (fun e => by rw [e]; rfl) fun ⟨A', e⟩ => ⟨A'.reverse, by rw [e, List.reverse_append]; rfl⟩) h
    exact ⟨List.reverse_inj.mp e1, List.reverse_inj.mp e2⟩
  · rintro ⟨rfl, rfl⟩; rfl
theorem kSm_00 {kd ct px kd2 ct2 px2 : Nat → Nat} (m : Nat) : kSm kd ct px kd2 ct2 px2 m 0 0 := by
  cases m with
  | zero => exact ⟨rfl, rfl⟩
  | succ m => exact rfl
theorem kSm_0s {kd ct px kd2 ct2 px2 : Nat → Nat} (m u : Nat) : ¬ kSm kd ct px kd2 ct2 px2 m 0 (u + 1) := by
  cases m with
  | zero => exact fun w => absurd w.2 (Nat.succ_ne_zero u)
  | succ m => exact fun w => absurd w (Nat.succ_ne_zero u)
theorem kSm_s0 {kd ct px kd2 ct2 px2 : Nat → Nat} (m u : Nat) : ¬ kSm kd ct px kd2 ct2 px2 m (u + 1) 0 := by
  cases m with
  | zero => exact fun w => absurd w.1 (Nat.succ_ne_zero u)
  | succ m => exact fun w => w
/-- alike by signs is alike by bytes -/
theorem kSm_NO {z z' : kZ} (ho : kZo z) (ho' : kZo z') : ∀ m i j, i < z.n → j < z'.n → kV z.R i ≤ m → kV z'.R j ≤ m → (kSm (kKD z) (kCO z) (kPF z) (kKD z') (kCO z') (kPF z') m (i + 1) (j + 1) ↔ kNO z i = kNO z' j)
  | 0, i, j, hi, hj, h1, h2 => by have := (ho.lv i hi).2.1; omega
  | m + 1, i, j, hi, hj, h1, h2 => by
    obtain ⟨p1, p2, p3⟩ := kPF_s ho hi
    obtain ⟨q1, q2, q3⟩ := kPF_s ho' hj
    have w := kZo_w ho i hi
    have w' := kZo_w ho' j hj
    have s1 := (sgn_ok w.1 w.2.1 w.2.2.1).2
    have s2 := (sgn_ok w'.1 w'.2.1 w'.2.2.1).2
    rw [kSm, kNO_s ho hi, kNO_s ho' hj, kds (fun b hb => (s1 b hb).2.2) (fun b hb => (s2 b hb).2.2) (by split; exact .inl rfl; exact .inr ⟨_, rfl⟩) (by split; exact .inl rfl; exact .inr ⟨_, rfl⟩), and_comm]
    refine and_congr ?_ Iff.rfl
    match hx : kPF z i, hy : kPF z' j with
    | 0, 0 => rw [if_pos rfl, if_pos rfl]; exact ⟨fun _ => rfl, fun _ => kSm_00 m⟩
    | 0, u + 1 =>
      rw [if_pos rfl, if_neg (Nat.succ_ne_zero u)]
      exact ⟨fun w => absurd w (kSm_0s m u), fun w => by have := congrArg List.length w; simp at this⟩
    | u + 1, 0 =>
      rw [if_pos rfl, if_neg (Nat.succ_ne_zero u)]
      exact ⟨fun w => absurd w (kSm_s0 m u), fun w => by have := congrArg List.length w; simp at this⟩
    | u + 1, v + 1 =>
      rw [if_neg (Nat.succ_ne_zero u), if_neg (Nat.succ_ne_zero v), Nat.add_sub_cancel, Nat.add_sub_cancel]
      rw [hx] at p1 p3
      rw [hy] at q1 q3
      have p3 : kV z.R u + 1 = kV z.R i := p3 (Nat.succ_ne_zero u)
      have q3 : kV z'.R v + 1 = kV z'.R j := q3 (Nat.succ_ne_zero v)
      rw [kSm_NO ho ho' m u v (by omega) (by omega) (by omega) (by omega)]
      exact ⟨fun w => by rw [w], fun w => List.append_cancel_right w⟩
theorem kSn_NO {z z' : kZ} (ho : kZo z) (ho' : kZo z') {i j : Nat} (hi : i < z.n) (hj : j < z'.n) : kSn z z' i j ↔ kNO z i = kNO z' j := kSm_NO ho ho' 6 i j hi hj (ho.lv i hi).2.2 (ho'.lv j hj).2.2
/-- bytes told and lists -/
theorem kls {l l' : List Nat} (h : l.length = l'.length) : l = l' ↔ ∀ t, t < l.length → l.getD t 0 = l'.getD t 0 := by
  constructor
  · rintro rfl; exact fun _ _ => rfl
  · intro w
    refine List.ext_getElem h fun t h1 h2 => ?_
    have := w t h1
    rw [List.getD_eq_getElem?_getD, List.getD_eq_getElem?_getD, List.getElem?_eq_getElem h1, List.getElem?_eq_getElem h2] at this
    exact this
theorem kNO_256m {z : kZ} (ho : kZo z) : ∀ m p, p < z.n → kV z.R p ≤ m → ∀ b ∈ kNO z p, b < 256
  | 0, p, hp, h => by have := (ho.lv p hp).2.1; omega
  | m + 1, p, hp, h => by
    obtain ⟨h1, h2, h3⟩ := kPF_s ho hp
    have w := kZo_w ho p hp
    have s1 := (sgn_ok w.1 w.2.1 w.2.2.1).2
    intro b hb
    rw [kNO_s ho hp] at hb
    rcases List.mem_append.mp hb with hb | hb
    · by_cases e : kPF z p = 0
      · rw [if_pos e] at hb; cases hb
      · rw [if_neg e] at hb
        rcases List.mem_append.mp hb with hb | hb
        · exact kNO_256m ho m (kPF z p - 1) (by omega) (by have := h3 e; omega) b hb
        · rw [List.mem_singleton.mp hb]; decide
    · exact (s1 b hb).2.1
theorem kNO_256 {z : kZ} (ho : kZo z) {p : Nat} (hp : p < z.n) : ∀ b ∈ kNO z p, b < 256 := kNO_256m ho 6 p hp (ho.lv p hp).2.2
section KXM
variable {adK a : Nat → Nat} {f : ky_H} {Q : ky_Q} {g r M E : Nat → Int32} {s : kSt} {p w n l i j t L : Nat} {x y v b : Int32} {z : kZ} {c : Nat → Nat}
/-- two laid NUMBERs, compared: by length and by bytes -/
theorem kM_same {z z' : kZ} {M M' : Nat → Int32} (ho : kZo z) (ho' : kZo z') {i j : Nat} (hi : i < z.n) (hj : j < z'.n) (h1 : ∀ t, t < (kNO z i).length → M (60 * i + t) = nI ((kNO z i).getD t 0)) (h2 : ∀ t, t < (kNO z' j).length → M' (60 * j + t) = nI ((kNO z' j).getD t 0)) (hl : (kNO z i).length = (kNO z' j).length) : (∀ t, t < (kNO z i).length → M (60 * i + t) = M' (60 * j + t)) ↔ kNO z i = kNO z' j := by
  rw [kls hl]
  have b1 := kNO_256 ho hi
  have b2 := kNO_256 ho' hj
  have hg : ∀ {l : List Nat} {t : Nat}, (∀ b ∈ l, b < 256) → t < l.length → l.getD t 0 < 256 := fun h ht => by
    rw [List.getD_eq_getElem?_getD, List.getElem?_eq_getElem ht]
    exact h _ (List.getElem_mem ht)
  constructor
  · intro w t ht
    have := w t ht
    rw [h1 t ht, h2 t (by omega)] at this
    exact (nI_eq (by have := hg b1 ht; omega) (by have := hg b2 (t := t) (by omega); omega)).mp this
  · intro w t ht
    rw [h1 t ht, h2 t (by omega), w t ht]
theorem kx231 (hM : kMo a f g) (hs : f (a 171) = some (.inl (1, 388, .inl r))) (ho : kZo z) (hR : kRw r z) (hD : kLd a f z z.n) (hp : p < z.n) (hy : (∃ j, j < z.n ∧ j ≠ p ∧ kNO z j = kNO z p) → Q (.inl (some (.int 1))) f) (hz : ¬ (∃ j, j < z.n ∧ j ≠ p ∧ kNO z j = kNO z p) → Q (.inl (some (.int 0))) f) : ky_cl adK 231 [.ref (a 170), .int (nI p)] f Q := by
  have h60 := ho.n60
  have r0 := hR.1
  obtain ⟨M, E, h178, h179, hd⟩ := id hD
  have mh := hM; unfold kMo at mh
  have hEp := (hd p hp).1
  have loop : ∀ m k, k + m = z.n → (¬ ∃ j, j < k ∧ j ≠ p ∧ kNO z j = kNO z p) → ky_ok adK 231 2 [some (.ref (a 170)), some (.int (nI p)), some (.int (nI k))] [] f 0 0 Q := by
    intro m
    induction m with
    | zero =>
      intro k hk hn
      obtain rfl : k = z.n := by omega
      repeat' (first | (refine kx172 hM hs ?_; simp only [ky_aft, ky_vl, Nat.reduceAdd]) | (refine ky_ok_stp rfl ?_; simp (disch := first | omega | assumption) only [ky_stp, ky_inv, ky_ldi, ky_ldl, ky_ldd, ky_lda, ky_cl2, ky_st1, ky_st2, ky_s1i, ky_s2i, ky_s1l, ky_s2l, ky_sli, ky_s1f, ky_s2f, ky_s1d, ky_s2d, ky_sr, ky_sai, ky_sasi, ky_sasl, ky_sasr, ky_svr, ky_sv, ky_sv2, ky_s1, ky_cs, ky_pop, ky_nth, ky_snt, ky_obj, ky_ari, ky_arl, ky_arr, ky_arn, ky_fv, ky_rcv, List.map_cons, List.map_nil, List.drop_succ_cons, List.drop_zero, Value.category, Nat.reduceAdd, Nat.reduceSub, true_and, and_true, true_or, or_true, reduceCtorEq, ite_true, ite_false, eq_self, Nat.reduceEqDiff, Nat.reduceLeDiff, nI_add, nI_1, nI_leI, nI_ltI, nI_eq, nI_clamp, kz_m1, kz_mn, kz_mn2, kz_n0, kz_0n, kz_0, kz_le0, kz_0lt, false_implies, true_implies, not_false_eq_true, not_true_eq_false, Nat.zero_le, kb_0, kz_10, kz_of, ky_sw, kz_mx, kz_mi, mh, r0]) | (refine ⟨vp_in_nI (by omega) (by omega), ?_⟩) | (refine ⟨fun zc => ?_, fun zc => ?_⟩ <;> try (exfalso; omega)) | fail)
      exact hz hn
    | succ m ih =>
      intro k hk hn
      have hkn : k < z.n := by omega
      obtain ⟨hEk, hMk⟩ := hd k hkn
      have hl1 := kNO_l ho 6 p hp (ho.lv p hp).2.2
      have hl2 := kNO_l ho 6 k hkn (ho.lv k hkn).2.2
      have hv1 := (ho.lv p hp).2.2
      have hv2 := (ho.lv k hkn).2.2
      by_cases e0 : k = p
      · have hi := ih (k + 1) (by omega) (fun ⟨j, j1, j2, j3⟩ => hn ⟨j, by omega, j2, j3⟩)
        repeat' (first | (refine kx172 hM hs ?_; simp only [ky_aft, ky_vl, Nat.reduceAdd]) | (exact (e0 ▸ hi)) | (refine ky_ok_stp rfl ?_; simp (disch := first | omega | assumption) only [ky_stp, ky_inv, ky_ldi, ky_ldl, ky_ldd, ky_lda, ky_cl2, ky_st1, ky_st2, ky_s1i, ky_s2i, ky_s1l, ky_s2l, ky_sli, ky_s1f, ky_s2f, ky_s1d, ky_s2d, ky_sr, ky_sai, ky_sasi, ky_sasl, ky_sasr, ky_svr, ky_sv, ky_sv2, ky_s1, ky_cs, ky_pop, ky_nth, ky_snt, ky_obj, ky_ari, ky_arl, ky_arr, ky_arn, ky_fv, ky_rcv, List.map_cons, List.map_nil, List.drop_succ_cons, List.drop_zero, Value.category, Nat.reduceAdd, Nat.reduceSub, true_and, and_true, true_or, or_true, reduceCtorEq, ite_true, ite_false, eq_self, Nat.reduceEqDiff, Nat.reduceLeDiff, nI_add, nI_1, nI_leI, nI_ltI, nI_eq, nI_clamp, kz_m1, kz_mn, kz_mn2, kz_n0, kz_0n, kz_0, kz_le0, kz_0lt, false_implies, true_implies, not_false_eq_true, not_true_eq_false, Nat.zero_le, kb_0, kz_10, kz_of, ky_sw, kz_mx, kz_mi, mh, r0, e0]) | (refine ⟨vp_in_nI (by omega) (by omega), ?_⟩) | (refine ⟨fun zc => ?_, fun zc => ?_⟩ <;> try (exfalso; omega)) | fail)
      · by_cases e : kNO z k = kNO z p
        · have hq := hy ⟨k, hkn, e0, e⟩
          have hle := congrArg List.length e
          have hsm := (kM_same ho ho hkn hp hMk (hd p hp).2 hle).mpr e
          repeat' (first | (refine kx172 hM hs ?_; simp only [ky_aft, ky_vl, Nat.reduceAdd]) | ((refine kx196 (m := (kNO z p).length) h178 h178 (by omega) (by omega) (by decide) (fun _ => ?_) (fun w => absurd (fun t ht => hsm t (by omega)) w); simp only [ky_aft, ky_vl, Nat.reduceAdd])) | (refine ky_ok_stp rfl ?_; simp (disch := first | omega | assumption) only [ky_stp, ky_inv, ky_ldi, ky_ldl, ky_ldd, ky_lda, ky_cl2, ky_st1, ky_st2, ky_s1i, ky_s2i, ky_s1l, ky_s2l, ky_sli, ky_s1f, ky_s2f, ky_s1d, ky_s2d, ky_sr, ky_sai, ky_sasi, ky_sasl, ky_sasr, ky_svr, ky_sv, ky_sv2, ky_s1, ky_cs, ky_pop, ky_nth, ky_snt, ky_obj, ky_ari, ky_arl, ky_arr, ky_arn, ky_fv, ky_rcv, List.map_cons, List.map_nil, List.drop_succ_cons, List.drop_zero, Value.category, Nat.reduceAdd, Nat.reduceSub, true_and, and_true, true_or, or_true, reduceCtorEq, ite_true, ite_false, eq_self, Nat.reduceEqDiff, Nat.reduceLeDiff, nI_add, nI_1, nI_leI, nI_ltI, nI_eq, nI_clamp, kz_m1, kz_mn, kz_mn2, kz_n0, kz_0n, kz_0, kz_le0, kz_0lt, false_implies, true_implies, not_false_eq_true, not_true_eq_false, Nat.zero_le, kb_0, kz_10, kz_of, ky_sw, kz_mx, kz_mi, mh, r0, h178, h179, hEk, hEp, hle, eq_false e0, kz_60, nI_mul]) | (refine ⟨vp_in_nI (by omega) (by omega), ?_⟩) | (refine ⟨fun zc => ?_, fun zc => ?_⟩ <;> try (exfalso; omega)) | fail)
          exact hq
        · have hi := ih (k + 1) (by omega) (fun ⟨j, j1, j2, j3⟩ => if z : j = k then e (z ▸ j3) else hn ⟨j, by omega, j2, j3⟩)
          by_cases hle : (kNO z k).length = (kNO z p).length
          · have hsm := fun w => e ((kM_same ho ho hkn hp hMk (hd p hp).2 hle).mp w)
            repeat' (first | (refine kx172 hM hs ?_; simp only [ky_aft, ky_vl, Nat.reduceAdd]) | ((refine kx196 (m := (kNO z p).length) h178 h178 (by omega) (by omega) (by decide) (fun w => absurd (fun t ht => w t (by omega)) hsm) (fun _ => ?_); simp only [ky_aft, ky_vl, Nat.reduceAdd])) | (exact hi) | (refine ky_ok_stp rfl ?_; simp (disch := first | omega | assumption) only [ky_stp, ky_inv, ky_ldi, ky_ldl, ky_ldd, ky_lda, ky_cl2, ky_st1, ky_st2, ky_s1i, ky_s2i, ky_s1l, ky_s2l, ky_sli, ky_s1f, ky_s2f, ky_s1d, ky_s2d, ky_sr, ky_sai, ky_sasi, ky_sasl, ky_sasr, ky_svr, ky_sv, ky_sv2, ky_s1, ky_cs, ky_pop, ky_nth, ky_snt, ky_obj, ky_ari, ky_arl, ky_arr, ky_arn, ky_fv, ky_rcv, List.map_cons, List.map_nil, List.drop_succ_cons, List.drop_zero, Value.category, Nat.reduceAdd, Nat.reduceSub, true_and, and_true, true_or, or_true, reduceCtorEq, ite_true, ite_false, eq_self, Nat.reduceEqDiff, Nat.reduceLeDiff, nI_add, nI_1, nI_leI, nI_ltI, nI_eq, nI_clamp, kz_m1, kz_mn, kz_mn2, kz_n0, kz_0n, kz_0, kz_le0, kz_0lt, false_implies, true_implies, not_false_eq_true, not_true_eq_false, Nat.zero_le, kb_0, kz_10, kz_of, ky_sw, kz_mx, kz_mi, mh, r0, h178, h179, hEk, hEp, hle, eq_false e0, kz_60, nI_mul]) | (refine ⟨vp_in_nI (by omega) (by omega), ?_⟩) | (refine ⟨fun zc => ?_, fun zc => ?_⟩ <;> try (exfalso; omega)) | fail)
          · repeat' (first | (refine kx172 hM hs ?_; simp only [ky_aft, ky_vl, Nat.reduceAdd]) | (exact hi) | (refine ky_ok_stp rfl ?_; simp (disch := first | omega | assumption) only [ky_stp, ky_inv, ky_ldi, ky_ldl, ky_ldd, ky_lda, ky_cl2, ky_st1, ky_st2, ky_s1i, ky_s2i, ky_s1l, ky_s2l, ky_sli, ky_s1f, ky_s2f, ky_s1d, ky_s2d, ky_sr, ky_sai, ky_sasi, ky_sasl, ky_sasr, ky_svr, ky_sv, ky_sv2, ky_s1, ky_cs, ky_pop, ky_nth, ky_snt, ky_obj, ky_ari, ky_arl, ky_arr, ky_arn, ky_fv, ky_rcv, List.map_cons, List.map_nil, List.drop_succ_cons, List.drop_zero, Value.category, Nat.reduceAdd, Nat.reduceSub, true_and, and_true, true_or, or_true, reduceCtorEq, ite_true, ite_false, eq_self, Nat.reduceEqDiff, Nat.reduceLeDiff, nI_add, nI_1, nI_leI, nI_ltI, nI_eq, nI_clamp, kz_m1, kz_mn, kz_mn2, kz_n0, kz_0n, kz_0, kz_le0, kz_0lt, false_implies, true_implies, not_false_eq_true, not_true_eq_false, Nat.zero_le, kb_0, kz_10, kz_of, ky_sw, kz_mx, kz_mi, mh, r0, h179, hEk, hEp, eq_false hle, eq_false e0]) | (refine ⟨vp_in_nI (by omega) (by omega), ?_⟩) | (refine ⟨fun zc => ?_, fun zc => ?_⟩ <;> try (exfalso; omega)) | fail)
  refine ⟨Nat.le_of_ble_eq_true rfl, fun z => absurd z (by decide), ?_⟩; show ky_ok adK 231 0 [some (.ref (a 170)), some (.int (nI p)), none] [] f 0 0 _
  repeat' (first | (refine loop z.n 0 (by omega) (fun ⟨j, h, _⟩ => absurd h (Nat.not_lt_zero j))) | (refine ky_ok_stp rfl ?_; simp (disch := first | omega | assumption) only [ky_stp, ky_inv, ky_ldi, ky_ldl, ky_ldd, ky_lda, ky_cl2, ky_st1, ky_st2, ky_s1i, ky_s2i, ky_s1l, ky_s2l, ky_sli, ky_s1f, ky_s2f, ky_s1d, ky_s2d, ky_sr, ky_sai, ky_sasi, ky_sasl, ky_sasr, ky_svr, ky_sv, ky_sv2, ky_s1, ky_cs, ky_pop, ky_nth, ky_snt, ky_obj, ky_ari, ky_arl, ky_arr, ky_arn, ky_fv, ky_rcv, List.map_cons, List.map_nil, List.drop_succ_cons, List.drop_zero, Value.category, Nat.reduceAdd, Nat.reduceSub, true_and, and_true, true_or, or_true, reduceCtorEq, ite_true, ite_false, eq_self, Nat.reduceEqDiff, Nat.reduceLeDiff, nI_add, nI_1, nI_leI, nI_ltI, nI_eq, nI_clamp, kz_m1, kz_mn, kz_mn2, kz_n0, kz_0n, kz_0, kz_le0, kz_0lt, false_implies, true_implies, not_false_eq_true, not_true_eq_false, Nat.zero_le, kb_0, kz_10, kz_of, ky_sw, kz_mx, kz_mi, mh]) | (refine ⟨vp_in_nI (by omega) (by omega), ?_⟩) | (refine ⟨fun zc => ?_, fun zc => ?_⟩ <;> try (exfalso; omega)) | fail)
theorem kShr_i {z : kZ} (ho : kZo z) {i : Nat} (hi : i < z.n) : kShr z i ↔ kNO z i ≠ [] ∧ ∃ j, j < z.n ∧ j ≠ i ∧ kNO z j = kNO z i := by
  unfold kShr
  refine and_congr ?_ ?_
  · rw [← kNmd_n ho hi]
    exact ⟨fun h => kNO_n ho hi h, fun h => Classical.byContradiction fun w => h (kNO_0 w)⟩
  · constructor
    · rintro ⟨j, h1, h2, h3⟩
      exact ⟨j, h1, h2, ((kSn_NO ho ho hi h1).mp h3).symm⟩
    · rintro ⟨j, h1, h2, h3⟩
      exact ⟨j, h1, h2, (kSn_NO ho ho hi h1).mpr h3.symm⟩
theorem kx232 (hM : kM a f g s) (ho : kZo s.o) (hQ : ∀ f' g', kM a f' g' s → (∀ j, j ≠ 2 → g' j = g j) → kfr a f f' kMF → Q (.inl (some (.int (nI (kCt (kShr s.o) s.o.n))))) f') : ky_cl adK 232 [.ref (a 170)] f Q := by
  have h60 := ho.n60
  have mh := hM.2.1
  unfold kMo at mh
  refine ⟨Nat.le_of_ble_eq_true rfl, fun z => absurd z (by decide), ?_⟩; show ky_ok adK 232 0 [some (.ref (a 170)), none, none] [] f 0 0 _
  repeat' (first | (refine kx195m hM ho ?_) | (refine ky_ok_stp rfl ?_; simp (disch := first | omega | assumption) only [ky_stp, ky_inv, ky_ldi, ky_ldl, ky_ldd, ky_lda, ky_cl2, ky_st1, ky_st2, ky_s1i, ky_s2i, ky_s1l, ky_s2l, ky_sli, ky_s1f, ky_s2f, ky_s1d, ky_s2d, ky_sr, ky_sai, ky_sasi, ky_sasl, ky_sasr, ky_svr, ky_sv, ky_sv2, ky_s1, ky_cs, ky_pop, ky_nth, ky_snt, ky_obj, ky_ari, ky_arl, ky_arr, ky_arn, ky_fv, ky_rcv, List.map_cons, List.map_nil, List.drop_succ_cons, List.drop_zero, Value.category, Nat.reduceAdd, Nat.reduceSub, true_and, and_true, true_or, or_true, reduceCtorEq, ite_true, ite_false, eq_self, Nat.reduceEqDiff, Nat.reduceLeDiff, nI_add, nI_1, nI_leI, nI_ltI, nI_eq, nI_clamp, kz_m1, kz_mn, kz_mn2, kz_n0, kz_0n, kz_0, kz_le0, kz_0lt, false_implies, true_implies, not_false_eq_true, not_true_eq_false, Nat.zero_le, kb_0, kz_10, kz_of, ky_sw, kz_mx, kz_mi, mh]) | (refine ⟨vp_in_nI (by omega) (by omega), ?_⟩) | (refine ⟨fun zc => ?_, fun zc => ?_⟩ <;> try (exfalso; omega)) | fail)
  intro f1 g1 hM1 w2 w3 w4
  (try simp only [ky_aft, ky_vl, Nat.reduceAdd])
  obtain ⟨ha, hMo, ⟨⟨r, hr, hR⟩, -⟩, -⟩ := id hM1
  obtain ⟨M, E, h178, h179, hD⟩ := id w3
  have r0 := hR.1
  have mh := hMo
  unfold kMo at mh
  have loop : ∀ m i, i + m = s.o.n → ky_ok adK 232 8 [some (.ref (a 170)), some (.int (nI (kCt (kShr s.o) i))), some (.int (nI i))] [] f1 0 0 Q := by
    intro m
    induction m with
    | zero =>
      intro i hi
      obtain rfl : i = s.o.n := by omega
      repeat' (first | (refine kx172 hMo hr ?_; simp only [ky_aft, ky_vl, Nat.reduceAdd]) | (refine ky_ok_stp rfl ?_; simp (disch := first | omega | assumption) only [ky_stp, ky_inv, ky_ldi, ky_ldl, ky_ldd, ky_lda, ky_cl2, ky_st1, ky_st2, ky_s1i, ky_s2i, ky_s1l, ky_s2l, ky_sli, ky_s1f, ky_s2f, ky_s1d, ky_s2d, ky_sr, ky_sai, ky_sasi, ky_sasl, ky_sasr, ky_svr, ky_sv, ky_sv2, ky_s1, ky_cs, ky_pop, ky_nth, ky_snt, ky_obj, ky_ari, ky_arl, ky_arr, ky_arn, ky_fv, ky_rcv, List.map_cons, List.map_nil, List.drop_succ_cons, List.drop_zero, Value.category, Nat.reduceAdd, Nat.reduceSub, true_and, and_true, true_or, or_true, reduceCtorEq, ite_true, ite_false, eq_self, Nat.reduceEqDiff, Nat.reduceLeDiff, nI_add, nI_1, nI_leI, nI_ltI, nI_eq, nI_clamp, kz_m1, kz_mn, kz_mn2, kz_n0, kz_0n, kz_0, kz_le0, kz_0lt, false_implies, true_implies, not_false_eq_true, not_true_eq_false, Nat.zero_le, kb_0, kz_10, kz_of, ky_sw, kz_mx, kz_mi, mh, r0]) | (refine ⟨vp_in_nI (by omega) (by omega), ?_⟩) | (refine ⟨fun zc => ?_, fun zc => ?_⟩ <;> try (exfalso; omega)) | fail)
      exact hQ f1 g1 hM1 w2 w4
    | succ m ih =>
      intro i hi
      have hin : i < s.o.n := by omega
      have hle := kCt_le (kShr s.o) i
      have hi' := ih (i + 1) (by omega)
      have hE := (hD i hin).1
      have hl1 := kNO_l ho 6 i hin (ho.lv i hin).2.2
      have hv1 := (ho.lv i hin).2.2
      have hSi := kShr_i ho hin
      by_cases e : kNO s.o i = []
      · rw [kCt_s0 (fun w => (hSi.mp w).1 e)] at hi'
        have hl0 : (kNO s.o i).length = 0 := by rw [e]; rfl
        repeat' (first | (refine kx172 hMo hr ?_; simp only [ky_aft, ky_vl, Nat.reduceAdd]) | (exact hi') | (refine ky_ok_stp rfl ?_; simp (disch := first | omega | assumption) only [ky_stp, ky_inv, ky_ldi, ky_ldl, ky_ldd, ky_lda, ky_cl2, ky_st1, ky_st2, ky_s1i, ky_s2i, ky_s1l, ky_s2l, ky_sli, ky_s1f, ky_s2f, ky_s1d, ky_s2d, ky_sr, ky_sai, ky_sasi, ky_sasl, ky_sasr, ky_svr, ky_sv, ky_sv2, ky_s1, ky_cs, ky_pop, ky_nth, ky_snt, ky_obj, ky_ari, ky_arl, ky_arr, ky_arn, ky_fv, ky_rcv, List.map_cons, List.map_nil, List.drop_succ_cons, List.drop_zero, Value.category, Nat.reduceAdd, Nat.reduceSub, true_and, and_true, true_or, or_true, reduceCtorEq, ite_true, ite_false, eq_self, Nat.reduceEqDiff, Nat.reduceLeDiff, nI_add, nI_1, nI_leI, nI_ltI, nI_eq, nI_clamp, kz_m1, kz_mn, kz_mn2, kz_n0, kz_0n, kz_0, kz_le0, kz_0lt, false_implies, true_implies, not_false_eq_true, not_true_eq_false, Nat.zero_le, kb_0, kz_10, kz_of, ky_sw, kz_mx, kz_mi, mh, r0, h179, hE, hl0, Int32.add_zero]) | (refine ⟨vp_in_nI (by omega) (by omega), ?_⟩) | (refine ⟨fun zc => ?_, fun zc => ?_⟩ <;> try (exfalso; omega)) | fail)
      · have hl0 : ¬ (kNO s.o i).length = 0 := fun w => e (List.length_eq_zero_iff.mp w)
        by_cases e2 : ∃ j, j < s.o.n ∧ j ≠ i ∧ kNO s.o j = kNO s.o i
        · rw [kCt_s1 (hSi.mpr ⟨e, e2⟩)] at hi'
          repeat' (first | (refine kx172 hMo hr ?_; simp only [ky_aft, ky_vl, Nat.reduceAdd]) | ((refine kx231 hMo hr ho hR w3 hin (fun _ => ?_) (fun w => absurd e2 w); simp only [ky_aft, ky_vl, Nat.reduceAdd])) | (exact hi') | (refine ky_ok_stp rfl ?_; simp (disch := first | omega | assumption) only [ky_stp, ky_inv, ky_ldi, ky_ldl, ky_ldd, ky_lda, ky_cl2, ky_st1, ky_st2, ky_s1i, ky_s2i, ky_s1l, ky_s2l, ky_sli, ky_s1f, ky_s2f, ky_s1d, ky_s2d, ky_sr, ky_sai, ky_sasi, ky_sasl, ky_sasr, ky_svr, ky_sv, ky_sv2, ky_s1, ky_cs, ky_pop, ky_nth, ky_snt, ky_obj, ky_ari, ky_arl, ky_arr, ky_arn, ky_fv, ky_rcv, List.map_cons, List.map_nil, List.drop_succ_cons, List.drop_zero, Value.category, Nat.reduceAdd, Nat.reduceSub, true_and, and_true, true_or, or_true, reduceCtorEq, ite_true, ite_false, eq_self, Nat.reduceEqDiff, Nat.reduceLeDiff, nI_add, nI_1, nI_leI, nI_ltI, nI_eq, nI_clamp, kz_m1, kz_mn, kz_mn2, kz_n0, kz_0n, kz_0, kz_le0, kz_0lt, false_implies, true_implies, not_false_eq_true, not_true_eq_false, Nat.zero_le, kb_0, kz_10, kz_of, ky_sw, kz_mx, kz_mi, mh, r0, h179, hE, eq_false hl0]) | (refine ⟨vp_in_nI (by omega) (by omega), ?_⟩) | (refine ⟨fun zc => ?_, fun zc => ?_⟩ <;> try (exfalso; omega)) | fail)
        · rw [kCt_s0 (fun w => e2 (hSi.mp w).2)] at hi'
          repeat' (first | (refine kx172 hMo hr ?_; simp only [ky_aft, ky_vl, Nat.reduceAdd]) | ((refine kx231 hMo hr ho hR w3 hin (fun w => absurd w e2) (fun _ => ?_); simp only [ky_aft, ky_vl, Nat.reduceAdd])) | (exact hi') | (refine ky_ok_stp rfl ?_; simp (disch := first | omega | assumption) only [ky_stp, ky_inv, ky_ldi, ky_ldl, ky_ldd, ky_lda, ky_cl2, ky_st1, ky_st2, ky_s1i, ky_s2i, ky_s1l, ky_s2l, ky_sli, ky_s1f, ky_s2f, ky_s1d, ky_s2d, ky_sr, ky_sai, ky_sasi, ky_sasl, ky_sasr, ky_svr, ky_sv, ky_sv2, ky_s1, ky_cs, ky_pop, ky_nth, ky_snt, ky_obj, ky_ari, ky_arl, ky_arr, ky_arn, ky_fv, ky_rcv, List.map_cons, List.map_nil, List.drop_succ_cons, List.drop_zero, Value.category, Nat.reduceAdd, Nat.reduceSub, true_and, and_true, true_or, or_true, reduceCtorEq, ite_true, ite_false, eq_self, Nat.reduceEqDiff, Nat.reduceLeDiff, nI_add, nI_1, nI_leI, nI_ltI, nI_eq, nI_clamp, kz_m1, kz_mn, kz_mn2, kz_n0, kz_0n, kz_0, kz_le0, kz_0lt, false_implies, true_implies, not_false_eq_true, not_true_eq_false, Nat.zero_le, kb_0, kz_10, kz_of, ky_sw, kz_mx, kz_mi, mh, r0, h179, hE, eq_false hl0, Int32.add_zero]) | (refine ⟨vp_in_nI (by omega) (by omega), ?_⟩) | (refine ⟨fun zc => ?_, fun zc => ?_⟩ <;> try (exfalso; omega)) | fail)
  repeat' (first | (refine loop s.o.n 0 (by omega)) | (refine ky_ok_stp rfl ?_; simp (disch := first | omega | assumption) only [ky_stp, ky_inv, ky_ldi, ky_ldl, ky_ldd, ky_lda, ky_cl2, ky_st1, ky_st2, ky_s1i, ky_s2i, ky_s1l, ky_s2l, ky_sli, ky_s1f, ky_s2f, ky_s1d, ky_s2d, ky_sr, ky_sai, ky_sasi, ky_sasl, ky_sasr, ky_svr, ky_sv, ky_sv2, ky_s1, ky_cs, ky_pop, ky_nth, ky_snt, ky_obj, ky_ari, ky_arl, ky_arr, ky_arn, ky_fv, ky_rcv, List.map_cons, List.map_nil, List.drop_succ_cons, List.drop_zero, Value.category, Nat.reduceAdd, Nat.reduceSub, true_and, and_true, true_or, or_true, reduceCtorEq, ite_true, ite_false, eq_self, Nat.reduceEqDiff, Nat.reduceLeDiff, nI_add, nI_1, nI_leI, nI_ltI, nI_eq, nI_clamp, kz_m1, kz_mn, kz_mn2, kz_n0, kz_0n, kz_0, kz_le0, kz_0lt, false_implies, true_implies, not_false_eq_true, not_true_eq_false, Nat.zero_le, kb_0, kz_10, kz_of, ky_sw, kz_mx, kz_mi, mh]) | (refine ⟨vp_in_nI (by omega) (by omega), ?_⟩) | (refine ⟨fun zc => ?_, fun zc => ?_⟩ <;> try (exfalso; omega)) | fail)
theorem kx233 (hM : kM a f g s) (ho : kZo s.o) (hy : ∀ w, w ≤ 8 → x = nI w → kMQ a f s 0 Q (kSzV s w)) (h1 : ¬ kRg 0 8 x → kMQ a f s 1 Q 0) : ky_cl adK 233 [.ref (a 170), .int x] f Q := by
  have e8 : (8 : Int32) = nI 8 := rfl
  have rest : ∀ f1 g1, kM a f1 g1 s → g1 0 = 0 → kfr a f f1 kMF → ky_ok adK 233 5 [some (.ref (a 170)), some (.int x)] [] f1 0 0 Q := by
    intro f1 g1 hM1 h10 hF1
    obtain ⟨ha, hMo, ⟨⟨r, hr, hR⟩, hU, hV, hC, hT, hW⟩, h2, h3, h4⟩ := id hM1
    have mh := hMo
    unfold kMo at mh
    have h60 := ho.n60
    have hL := kRw_l ho hR
    by_cases hw : kRg 0 8 x
    · obtain ⟨w, -, w8, rfl⟩ := id hw
      have hq0 := hy w w8 rfl
      have hq := hq0 f1 g1 hM1 h10 hF1
      have r0 := hR.1
      obtain ⟨g1', g3', -⟩ := h3
      match w, w8 with
      | 0, _ =>
        repeat' (first | ((refine kr_in (lo := 0) (hi := 8) (by decide) (by decide) hw ?_; simp only [ky_aft, ky_vl, Nat.reduceAdd])) | (refine kx170n hMo h10 ?_; simp only [ky_aft, ky_vl, Nat.reduceAdd]) | (refine kx172 hMo hr ?_; simp only [ky_aft, ky_vl, Nat.reduceAdd]) | (refine ky_ok_stp rfl ?_; simp (disch := first | omega | assumption) only [ky_stp, ky_inv, ky_ldi, ky_ldl, ky_ldd, ky_lda, ky_cl2, ky_st1, ky_st2, ky_s1i, ky_s2i, ky_s1l, ky_s2l, ky_sli, ky_s1f, ky_s2f, ky_s1d, ky_s2d, ky_sr, ky_sai, ky_sasi, ky_sasl, ky_sasr, ky_svr, ky_sv, ky_sv2, ky_s1, ky_cs, ky_pop, ky_nth, ky_snt, ky_obj, ky_ari, ky_arl, ky_arr, ky_arn, ky_fv, ky_rcv, List.map_cons, List.map_nil, List.drop_succ_cons, List.drop_zero, Value.category, Nat.reduceAdd, Nat.reduceSub, true_and, and_true, true_or, or_true, reduceCtorEq, ite_true, ite_false, eq_self, Nat.reduceEqDiff, Nat.reduceLeDiff, nI_add, nI_1, nI_leI, nI_ltI, nI_eq, nI_clamp, kz_m1, kz_mn, kz_mn2, kz_n0, kz_0n, kz_0, kz_le0, kz_0lt, false_implies, true_implies, not_false_eq_true, not_true_eq_false, Nat.zero_le, kb_0, kz_10, kz_of, ky_sw, kz_mx, kz_mi, mh, show (nI 0 = (0 : Int32)) = True from eq_true (by decide), show (nI 0 = (1 : Int32)) = False from eq_false (by decide), show (nI 0 = (2 : Int32)) = False from eq_false (by decide), show (nI 0 = (3 : Int32)) = False from eq_false (by decide), show (nI 0 = (4 : Int32)) = False from eq_false (by decide), show (nI 0 = (5 : Int32)) = False from eq_false (by decide), show (nI 0 = (6 : Int32)) = False from eq_false (by decide), show (nI 0 = (7 : Int32)) = False from eq_false (by decide), e8, r0]) | (refine ⟨vp_in_nI (by omega) (by omega), ?_⟩) | (refine ⟨fun zc => ?_, fun zc => ?_⟩ <;> try (exfalso; omega)) | fail)
        exact hq
      | 1, _ =>
        repeat' (first | ((refine kr_in (lo := 0) (hi := 8) (by decide) (by decide) hw ?_; simp only [ky_aft, ky_vl, Nat.reduceAdd])) | (refine kx170n hMo h10 ?_; simp only [ky_aft, ky_vl, Nat.reduceAdd]) | (refine kx184 hMo hr ho hR ?_; simp only [ky_aft, ky_vl, Nat.reduceAdd]) | (refine ky_ok_stp rfl ?_; simp (disch := first | omega | assumption) only [ky_stp, ky_inv, ky_ldi, ky_ldl, ky_ldd, ky_lda, ky_cl2, ky_st1, ky_st2, ky_s1i, ky_s2i, ky_s1l, ky_s2l, ky_sli, ky_s1f, ky_s2f, ky_s1d, ky_s2d, ky_sr, ky_sai, ky_sasi, ky_sasl, ky_sasr, ky_svr, ky_sv, ky_sv2, ky_s1, ky_cs, ky_pop, ky_nth, ky_snt, ky_obj, ky_ari, ky_arl, ky_arr, ky_arn, ky_fv, ky_rcv, List.map_cons, List.map_nil, List.drop_succ_cons, List.drop_zero, Value.category, Nat.reduceAdd, Nat.reduceSub, true_and, and_true, true_or, or_true, reduceCtorEq, ite_true, ite_false, eq_self, Nat.reduceEqDiff, Nat.reduceLeDiff, nI_add, nI_1, nI_leI, nI_ltI, nI_eq, nI_clamp, kz_m1, kz_mn, kz_mn2, kz_n0, kz_0n, kz_0, kz_le0, kz_0lt, false_implies, true_implies, not_false_eq_true, not_true_eq_false, Nat.zero_le, kb_0, kz_10, kz_of, ky_sw, kz_mx, kz_mi, mh, show (nI 1 = (0 : Int32)) = False from eq_false (by decide), show (nI 1 = (1 : Int32)) = True from eq_true (by decide), show (nI 1 = (2 : Int32)) = False from eq_false (by decide), show (nI 1 = (3 : Int32)) = False from eq_false (by decide), show (nI 1 = (4 : Int32)) = False from eq_false (by decide), show (nI 1 = (5 : Int32)) = False from eq_false (by decide), show (nI 1 = (6 : Int32)) = False from eq_false (by decide), show (nI 1 = (7 : Int32)) = False from eq_false (by decide), e8]) | (refine ⟨vp_in_nI (by omega) (by omega), ?_⟩) | (refine ⟨fun zc => ?_, fun zc => ?_⟩ <;> try (exfalso; omega)) | fail)
        exact hq
      | 2, _ =>
        repeat' (first | ((refine kr_in (lo := 0) (hi := 8) (by decide) (by decide) hw ?_; simp only [ky_aft, ky_vl, Nat.reduceAdd])) | (refine kx170n hMo h10 ?_; simp only [ky_aft, ky_vl, Nat.reduceAdd]) | (refine kx186 hMo hr ho hR ?_; simp only [ky_aft, ky_vl, Nat.reduceAdd]) | (refine ky_ok_stp rfl ?_; simp (disch := first | omega | assumption) only [ky_stp, ky_inv, ky_ldi, ky_ldl, ky_ldd, ky_lda, ky_cl2, ky_st1, ky_st2, ky_s1i, ky_s2i, ky_s1l, ky_s2l, ky_sli, ky_s1f, ky_s2f, ky_s1d, ky_s2d, ky_sr, ky_sai, ky_sasi, ky_sasl, ky_sasr, ky_svr, ky_sv, ky_sv2, ky_s1, ky_cs, ky_pop, ky_nth, ky_snt, ky_obj, ky_ari, ky_arl, ky_arr, ky_arn, ky_fv, ky_rcv, List.map_cons, List.map_nil, List.drop_succ_cons, List.drop_zero, Value.category, Nat.reduceAdd, Nat.reduceSub, true_and, and_true, true_or, or_true, reduceCtorEq, ite_true, ite_false, eq_self, Nat.reduceEqDiff, Nat.reduceLeDiff, nI_add, nI_1, nI_leI, nI_ltI, nI_eq, nI_clamp, kz_m1, kz_mn, kz_mn2, kz_n0, kz_0n, kz_0, kz_le0, kz_0lt, false_implies, true_implies, not_false_eq_true, not_true_eq_false, Nat.zero_le, kb_0, kz_10, kz_of, ky_sw, kz_mx, kz_mi, mh, show (nI 2 = (0 : Int32)) = False from eq_false (by decide), show (nI 2 = (1 : Int32)) = False from eq_false (by decide), show (nI 2 = (2 : Int32)) = True from eq_true (by decide), show (nI 2 = (3 : Int32)) = False from eq_false (by decide), show (nI 2 = (4 : Int32)) = False from eq_false (by decide), show (nI 2 = (5 : Int32)) = False from eq_false (by decide), show (nI 2 = (6 : Int32)) = False from eq_false (by decide), show (nI 2 = (7 : Int32)) = False from eq_false (by decide), e8]) | (refine ⟨vp_in_nI (by omega) (by omega), ?_⟩) | (refine ⟨fun zc => ?_, fun zc => ?_⟩ <;> try (exfalso; omega)) | fail)
        exact hq
      | 3, _ =>
        repeat' (first | ((refine kr_in (lo := 0) (hi := 8) (by decide) (by decide) hw ?_; simp only [ky_aft, ky_vl, Nat.reduceAdd])) | (refine kx170n hMo h10 ?_; simp only [ky_aft, ky_vl, Nat.reduceAdd]) | (refine kx228 hMo hr hL ?_; simp only [ky_aft, ky_vl, Nat.reduceAdd]) | (refine ky_ok_stp rfl ?_; simp (disch := first | omega | assumption) only [ky_stp, ky_inv, ky_ldi, ky_ldl, ky_ldd, ky_lda, ky_cl2, ky_st1, ky_st2, ky_s1i, ky_s2i, ky_s1l, ky_s2l, ky_sli, ky_s1f, ky_s2f, ky_s1d, ky_s2d, ky_sr, ky_sai, ky_sasi, ky_sasl, ky_sasr, ky_svr, ky_sv, ky_sv2, ky_s1, ky_cs, ky_pop, ky_nth, ky_snt, ky_obj, ky_ari, ky_arl, ky_arr, ky_arn, ky_fv, ky_rcv, List.map_cons, List.map_nil, List.drop_succ_cons, List.drop_zero, Value.category, Nat.reduceAdd, Nat.reduceSub, true_and, and_true, true_or, or_true, reduceCtorEq, ite_true, ite_false, eq_self, Nat.reduceEqDiff, Nat.reduceLeDiff, nI_add, nI_1, nI_leI, nI_ltI, nI_eq, nI_clamp, kz_m1, kz_mn, kz_mn2, kz_n0, kz_0n, kz_0, kz_le0, kz_0lt, false_implies, true_implies, not_false_eq_true, not_true_eq_false, Nat.zero_le, kb_0, kz_10, kz_of, ky_sw, kz_mx, kz_mi, mh, show (nI 3 = (0 : Int32)) = False from eq_false (by decide), show (nI 3 = (1 : Int32)) = False from eq_false (by decide), show (nI 3 = (2 : Int32)) = False from eq_false (by decide), show (nI 3 = (3 : Int32)) = True from eq_true (by decide), show (nI 3 = (4 : Int32)) = False from eq_false (by decide), show (nI 3 = (5 : Int32)) = False from eq_false (by decide), show (nI 3 = (6 : Int32)) = False from eq_false (by decide), show (nI 3 = (7 : Int32)) = False from eq_false (by decide), e8]) | (refine ⟨vp_in_nI (by omega) (by omega), ?_⟩) | (refine ⟨fun zc => ?_, fun zc => ?_⟩ <;> try (exfalso; omega)) | fail)
        exact hq
      | 4, _ =>
        have hkE0 : kE (kL s.o.R) 0 0 s.o.n = s.o.n := by
          have : ∀ m i, i + m = s.o.n → kE (kL s.o.R) 0 i m = s.o.n := by
            intro m
            induction m with
            | zero => intro i hi; exact hi
            | succ m ih =>
              intro i hi
              obtain ⟨l0, l1, l6⟩ := ho.lv i (by omega)
              rw [kE, l0, if_pos (by show nI 0 < nI _; rw [nI_ltI (by omega) (by omega)]; omega)]
              exact ih (i + 1) (by omega)
          exact this _ _ (by omega)
        have hq2 : Q (.inl (some (.int (nI (kCh (kL s.o.R) 1 0 s.o.n []).length)))) f1 := by
          have : kSzV s 4 = nI (kCh (kL s.o.R) (0 + 1) 0 (kE (kL s.o.R) 0 0 s.o.n - 0) []).length := rfl
          rw [this, hkE0] at hq
          exact hq
        repeat' (first | ((refine kr_in (lo := 0) (hi := 8) (by decide) (by decide) hw ?_; simp only [ky_aft, ky_vl, Nat.reduceAdd])) | (refine kx170n hMo h10 ?_; simp only [ky_aft, ky_vl, Nat.reduceAdd]) | (refine kx229 hMo hr hL ?_; simp only [ky_aft, ky_vl, Nat.reduceAdd]) | (refine ky_ok_stp rfl ?_; simp (disch := first | omega | assumption) only [ky_stp, ky_inv, ky_ldi, ky_ldl, ky_ldd, ky_lda, ky_cl2, ky_st1, ky_st2, ky_s1i, ky_s2i, ky_s1l, ky_s2l, ky_sli, ky_s1f, ky_s2f, ky_s1d, ky_s2d, ky_sr, ky_sai, ky_sasi, ky_sasl, ky_sasr, ky_svr, ky_sv, ky_sv2, ky_s1, ky_cs, ky_pop, ky_nth, ky_snt, ky_obj, ky_ari, ky_arl, ky_arr, ky_arn, ky_fv, ky_rcv, List.map_cons, List.map_nil, List.drop_succ_cons, List.drop_zero, Value.category, Nat.reduceAdd, Nat.reduceSub, true_and, and_true, true_or, or_true, reduceCtorEq, ite_true, ite_false, eq_self, Nat.reduceEqDiff, Nat.reduceLeDiff, nI_add, nI_1, nI_leI, nI_ltI, nI_eq, nI_clamp, kz_m1, kz_mn, kz_mn2, kz_n0, kz_0n, kz_0, kz_le0, kz_0lt, false_implies, true_implies, not_false_eq_true, not_true_eq_false, Nat.zero_le, kb_0, kz_10, kz_of, ky_sw, kz_mx, kz_mi, mh, show (nI 4 = (0 : Int32)) = False from eq_false (by decide), show (nI 4 = (1 : Int32)) = False from eq_false (by decide), show (nI 4 = (2 : Int32)) = False from eq_false (by decide), show (nI 4 = (3 : Int32)) = False from eq_false (by decide), show (nI 4 = (4 : Int32)) = True from eq_true (by decide), show (nI 4 = (5 : Int32)) = False from eq_false (by decide), show (nI 4 = (6 : Int32)) = False from eq_false (by decide), show (nI 4 = (7 : Int32)) = False from eq_false (by decide), e8]) | (refine ⟨vp_in_nI (by omega) (by omega), ?_⟩) | (refine ⟨fun zc => ?_, fun zc => ?_⟩ <;> try (exfalso; omega)) | fail)
        exact hq2
      | 5, _ =>
        repeat' (first | ((refine kr_in (lo := 0) (hi := 8) (by decide) (by decide) hw ?_; simp only [ky_aft, ky_vl, Nat.reduceAdd])) | (refine kx170n hMo h10 ?_; simp only [ky_aft, ky_vl, Nat.reduceAdd]) | (refine ky_ok_stp rfl ?_; simp (disch := first | omega | assumption) only [ky_stp, ky_inv, ky_ldi, ky_ldl, ky_ldd, ky_lda, ky_cl2, ky_st1, ky_st2, ky_s1i, ky_s2i, ky_s1l, ky_s2l, ky_sli, ky_s1f, ky_s2f, ky_s1d, ky_s2d, ky_sr, ky_sai, ky_sasi, ky_sasl, ky_sasr, ky_svr, ky_sv, ky_sv2, ky_s1, ky_cs, ky_pop, ky_nth, ky_snt, ky_obj, ky_ari, ky_arl, ky_arr, ky_arn, ky_fv, ky_rcv, List.map_cons, List.map_nil, List.drop_succ_cons, List.drop_zero, Value.category, Nat.reduceAdd, Nat.reduceSub, true_and, and_true, true_or, or_true, reduceCtorEq, ite_true, ite_false, eq_self, Nat.reduceEqDiff, Nat.reduceLeDiff, nI_add, nI_1, nI_leI, nI_ltI, nI_eq, nI_clamp, kz_m1, kz_mn, kz_mn2, kz_n0, kz_0n, kz_0, kz_le0, kz_0lt, false_implies, true_implies, not_false_eq_true, not_true_eq_false, Nat.zero_le, kb_0, kz_10, kz_of, ky_sw, kz_mx, kz_mi, mh, show (nI 5 = (0 : Int32)) = False from eq_false (by decide), show (nI 5 = (1 : Int32)) = False from eq_false (by decide), show (nI 5 = (2 : Int32)) = False from eq_false (by decide), show (nI 5 = (3 : Int32)) = False from eq_false (by decide), show (nI 5 = (4 : Int32)) = False from eq_false (by decide), show (nI 5 = (5 : Int32)) = True from eq_true (by decide), show (nI 5 = (6 : Int32)) = False from eq_false (by decide), show (nI 5 = (7 : Int32)) = False from eq_false (by decide), e8, mh, g3']) | (refine ⟨vp_in_nI (by omega) (by omega), ?_⟩) | (refine ⟨fun zc => ?_, fun zc => ?_⟩ <;> try (exfalso; omega)) | fail)
        exact hq
      | 6, _ =>
        repeat' (first | ((refine kr_in (lo := 0) (hi := 8) (by decide) (by decide) hw ?_; simp only [ky_aft, ky_vl, Nat.reduceAdd])) | (refine kx170n hMo h10 ?_; simp only [ky_aft, ky_vl, Nat.reduceAdd]) | (refine ky_ok_stp rfl ?_; simp (disch := first | omega | assumption) only [ky_stp, ky_inv, ky_ldi, ky_ldl, ky_ldd, ky_lda, ky_cl2, ky_st1, ky_st2, ky_s1i, ky_s2i, ky_s1l, ky_s2l, ky_sli, ky_s1f, ky_s2f, ky_s1d, ky_s2d, ky_sr, ky_sai, ky_sasi, ky_sasl, ky_sasr, ky_svr, ky_sv, ky_sv2, ky_s1, ky_cs, ky_pop, ky_nth, ky_snt, ky_obj, ky_ari, ky_arl, ky_arr, ky_arn, ky_fv, ky_rcv, List.map_cons, List.map_nil, List.drop_succ_cons, List.drop_zero, Value.category, Nat.reduceAdd, Nat.reduceSub, true_and, and_true, true_or, or_true, reduceCtorEq, ite_true, ite_false, eq_self, Nat.reduceEqDiff, Nat.reduceLeDiff, nI_add, nI_1, nI_leI, nI_ltI, nI_eq, nI_clamp, kz_m1, kz_mn, kz_mn2, kz_n0, kz_0n, kz_0, kz_le0, kz_0lt, false_implies, true_implies, not_false_eq_true, not_true_eq_false, Nat.zero_le, kb_0, kz_10, kz_of, ky_sw, kz_mx, kz_mi, mh, show (nI 6 = (0 : Int32)) = False from eq_false (by decide), show (nI 6 = (1 : Int32)) = False from eq_false (by decide), show (nI 6 = (2 : Int32)) = False from eq_false (by decide), show (nI 6 = (3 : Int32)) = False from eq_false (by decide), show (nI 6 = (4 : Int32)) = False from eq_false (by decide), show (nI 6 = (5 : Int32)) = False from eq_false (by decide), show (nI 6 = (6 : Int32)) = True from eq_true (by decide), show (nI 6 = (7 : Int32)) = False from eq_false (by decide), e8, mh, g1']) | (refine ⟨vp_in_nI (by omega) (by omega), ?_⟩) | (refine ⟨fun zc => ?_, fun zc => ?_⟩ <;> try (exfalso; omega)) | fail)
        exact hq
      | 7, _ =>
        repeat' (first | ((refine kr_in (lo := 0) (hi := 8) (by decide) (by decide) hw ?_; simp only [ky_aft, ky_vl, Nat.reduceAdd])) | (refine kx170n hMo h10 ?_; simp only [ky_aft, ky_vl, Nat.reduceAdd]) | (refine kx230 hMo hr ho hR ?_; simp only [ky_aft, ky_vl, Nat.reduceAdd]) | (refine ky_ok_stp rfl ?_; simp (disch := first | omega | assumption) only [ky_stp, ky_inv, ky_ldi, ky_ldl, ky_ldd, ky_lda, ky_cl2, ky_st1, ky_st2, ky_s1i, ky_s2i, ky_s1l, ky_s2l, ky_sli, ky_s1f, ky_s2f, ky_s1d, ky_s2d, ky_sr, ky_sai, ky_sasi, ky_sasl, ky_sasr, ky_svr, ky_sv, ky_sv2, ky_s1, ky_cs, ky_pop, ky_nth, ky_snt, ky_obj, ky_ari, ky_arl, ky_arr, ky_arn, ky_fv, ky_rcv, List.map_cons, List.map_nil, List.drop_succ_cons, List.drop_zero, Value.category, Nat.reduceAdd, Nat.reduceSub, true_and, and_true, true_or, or_true, reduceCtorEq, ite_true, ite_false, eq_self, Nat.reduceEqDiff, Nat.reduceLeDiff, nI_add, nI_1, nI_leI, nI_ltI, nI_eq, nI_clamp, kz_m1, kz_mn, kz_mn2, kz_n0, kz_0n, kz_0, kz_le0, kz_0lt, false_implies, true_implies, not_false_eq_true, not_true_eq_false, Nat.zero_le, kb_0, kz_10, kz_of, ky_sw, kz_mx, kz_mi, mh, show (nI 7 = (0 : Int32)) = False from eq_false (by decide), show (nI 7 = (1 : Int32)) = False from eq_false (by decide), show (nI 7 = (2 : Int32)) = False from eq_false (by decide), show (nI 7 = (3 : Int32)) = False from eq_false (by decide), show (nI 7 = (4 : Int32)) = False from eq_false (by decide), show (nI 7 = (5 : Int32)) = False from eq_false (by decide), show (nI 7 = (6 : Int32)) = False from eq_false (by decide), show (nI 7 = (7 : Int32)) = True from eq_true (by decide), e8]) | (refine ⟨vp_in_nI (by omega) (by omega), ?_⟩) | (refine ⟨fun zc => ?_, fun zc => ?_⟩ <;> try (exfalso; omega)) | fail)
        exact hq
      | 8, _ =>
        repeat' (first | ((refine kr_in (lo := 0) (hi := 8) (by decide) (by decide) hw ?_; simp only [ky_aft, ky_vl, Nat.reduceAdd])) | (refine kx170n hMo h10 ?_; simp only [ky_aft, ky_vl, Nat.reduceAdd]) | (refine kx232 hM1 ho ?_) | (refine ky_ok_stp rfl ?_; simp (disch := first | omega | assumption) only [ky_stp, ky_inv, ky_ldi, ky_ldl, ky_ldd, ky_lda, ky_cl2, ky_st1, ky_st2, ky_s1i, ky_s2i, ky_s1l, ky_s2l, ky_sli, ky_s1f, ky_s2f, ky_s1d, ky_s2d, ky_sr, ky_sai, ky_sasi, ky_sasl, ky_sasr, ky_svr, ky_sv, ky_sv2, ky_s1, ky_cs, ky_pop, ky_nth, ky_snt, ky_obj, ky_ari, ky_arl, ky_arr, ky_arn, ky_fv, ky_rcv, List.map_cons, List.map_nil, List.drop_succ_cons, List.drop_zero, Value.category, Nat.reduceAdd, Nat.reduceSub, true_and, and_true, true_or, or_true, reduceCtorEq, ite_true, ite_false, eq_self, Nat.reduceEqDiff, Nat.reduceLeDiff, nI_add, nI_1, nI_leI, nI_ltI, nI_eq, nI_clamp, kz_m1, kz_mn, kz_mn2, kz_n0, kz_0n, kz_0, kz_le0, kz_0lt, false_implies, true_implies, not_false_eq_true, not_true_eq_false, Nat.zero_le, kb_0, kz_10, kz_of, ky_sw, kz_mx, kz_mi, mh, show (nI 8 = (0 : Int32)) = False from eq_false (by decide), show (nI 8 = (1 : Int32)) = False from eq_false (by decide), show (nI 8 = (2 : Int32)) = False from eq_false (by decide), show (nI 8 = (3 : Int32)) = False from eq_false (by decide), show (nI 8 = (4 : Int32)) = False from eq_false (by decide), show (nI 8 = (5 : Int32)) = False from eq_false (by decide), show (nI 8 = (6 : Int32)) = False from eq_false (by decide), show (nI 8 = (7 : Int32)) = False from eq_false (by decide), e8]) | (refine ⟨vp_in_nI (by omega) (by omega), ?_⟩) | (refine ⟨fun zc => ?_, fun zc => ?_⟩ <;> try (exfalso; omega)) | fail)
        intro f2 g2 w1 w2 w3
        (try simp only [ky_aft, ky_vl, Nat.reduceAdd])
        repeat' (first | (refine ky_ok_stp rfl ?_; simp (disch := first | omega | assumption) only [ky_stp, ky_inv, ky_ldi, ky_ldl, ky_ldd, ky_lda, ky_cl2, ky_st1, ky_st2, ky_s1i, ky_s2i, ky_s1l, ky_s2l, ky_sli, ky_s1f, ky_s2f, ky_s1d, ky_s2d, ky_sr, ky_sai, ky_sasi, ky_sasl, ky_sasr, ky_svr, ky_sv, ky_sv2, ky_s1, ky_cs, ky_pop, ky_nth, ky_snt, ky_obj, ky_ari, ky_arl, ky_arr, ky_arn, ky_fv, ky_rcv, List.map_cons, List.map_nil, List.drop_succ_cons, List.drop_zero, Value.category, Nat.reduceAdd, Nat.reduceSub, true_and, and_true, true_or, or_true, reduceCtorEq, ite_true, ite_false, eq_self, Nat.reduceEqDiff, Nat.reduceLeDiff, nI_add, nI_1, nI_leI, nI_ltI, nI_eq, nI_clamp, kz_m1, kz_mn, kz_mn2, kz_n0, kz_0n, kz_0, kz_le0, kz_0lt, false_implies, true_implies, not_false_eq_true, not_true_eq_false, Nat.zero_le, kb_0, kz_10, kz_of, ky_sw, kz_mx, kz_mi]) | (refine ⟨vp_in_nI (by omega) (by omega), ?_⟩) | (refine ⟨fun zc => ?_, fun zc => ?_⟩ <;> try (exfalso; omega)) | fail)
        have hzz := hq0 f2 g2 w1 ((w2 0 (by decide)).trans h10) (kfr_tr hF1 w3 fun j hj => ⟨hj, hj⟩)
        (first | exact hzz | exact ⟨by decide, hzz⟩)
    · have hq := h1 hw
      repeat' (first | ((refine kr_inx (lo := 0) (hi := 8) (by decide) (by decide) hw ?_; simp only [ky_aft, ky_vl, Nat.reduceAdd])) | (refine kx170t (p := 1) hM1 h10 (by decide) ?_) | (refine ky_ok_stp rfl ?_; simp (disch := first | omega | assumption) only [ky_stp, ky_inv, ky_ldi, ky_ldl, ky_ldd, ky_lda, ky_cl2, ky_st1, ky_st2, ky_s1i, ky_s2i, ky_s1l, ky_s2l, ky_sli, ky_s1f, ky_s2f, ky_s1d, ky_s2d, ky_sr, ky_sai, ky_sasi, ky_sasl, ky_sasr, ky_svr, ky_sv, ky_sv2, ky_s1, ky_cs, ky_pop, ky_nth, ky_snt, ky_obj, ky_ari, ky_arl, ky_arr, ky_arn, ky_fv, ky_rcv, List.map_cons, List.map_nil, List.drop_succ_cons, List.drop_zero, Value.category, Nat.reduceAdd, Nat.reduceSub, true_and, and_true, true_or, or_true, reduceCtorEq, ite_true, ite_false, eq_self, Nat.reduceEqDiff, Nat.reduceLeDiff, nI_add, nI_1, nI_leI, nI_ltI, nI_eq, nI_clamp, kz_m1, kz_mn, kz_mn2, kz_n0, kz_0n, kz_0, kz_le0, kz_0lt, false_implies, true_implies, not_false_eq_true, not_true_eq_false, Nat.zero_le, kb_0, kz_10, kz_of, ky_sw, kz_mx, kz_mi, mh, e8]) | (refine ⟨vp_in_nI (by omega) (by omega), ?_⟩) | (refine ⟨fun zc => ?_, fun zc => ?_⟩ <;> try (exfalso; omega)) | fail)
      intro f2 g2 w1 w2 w3
      try simp only [ky_aft, ky_vl, Nat.reduceAdd]
      repeat' (first | (refine ky_ok_stp rfl ?_; simp (disch := first | omega | assumption) only [ky_stp, ky_inv, ky_ldi, ky_ldl, ky_ldd, ky_lda, ky_cl2, ky_st1, ky_st2, ky_s1i, ky_s2i, ky_s1l, ky_s2l, ky_sli, ky_s1f, ky_s2f, ky_s1d, ky_s2d, ky_sr, ky_sai, ky_sasi, ky_sasl, ky_sasr, ky_svr, ky_sv, ky_sv2, ky_s1, ky_cs, ky_pop, ky_nth, ky_snt, ky_obj, ky_ari, ky_arl, ky_arr, ky_arn, ky_fv, ky_rcv, List.map_cons, List.map_nil, List.drop_succ_cons, List.drop_zero, Value.category, Nat.reduceAdd, Nat.reduceSub, true_and, and_true, true_or, or_true, reduceCtorEq, ite_true, ite_false, eq_self, Nat.reduceEqDiff, Nat.reduceLeDiff, nI_add, nI_1, nI_leI, nI_ltI, nI_eq, nI_clamp, kz_m1, kz_mn, kz_mn2, kz_n0, kz_0n, kz_0, kz_le0, kz_0lt, false_implies, true_implies, not_false_eq_true, not_true_eq_false, Nat.zero_le, kb_0, kz_10, kz_of, ky_sw, kz_mx, kz_mi]) | (refine ⟨vp_in_nI (by omega) (by omega), ?_⟩) | (refine ⟨fun zc => ?_, fun zc => ?_⟩ <;> try (exfalso; omega)) | fail)
      (first | exact hq f2 g2 w1 w2 (kfr_tr hF1 w3 fun j hj => ⟨hj, hj⟩) | exact ⟨by decide, hq f2 g2 w1 w2 (kfr_tr hF1 w3 fun j hj => ⟨hj, hj⟩)⟩)
  have mh := hM.2.1
  unfold kMo at mh
  refine ⟨Nat.le_of_ble_eq_true rfl, fun z => absurd z (by decide), ?_⟩; show ky_ok adK 233 0 [some (.ref (a 170)), some (.int x)] [] f 0 0 _
  repeat' (first | (exact rest _ _ (kM_t0 hM) rfl (kMF_170 (kfr_up hM.1 kfr_rf rfl))) | (refine ky_ok_stp rfl ?_; simp (disch := first | omega | assumption) only [ky_stp, ky_inv, ky_ldi, ky_ldl, ky_ldd, ky_lda, ky_cl2, ky_st1, ky_st2, ky_s1i, ky_s2i, ky_s1l, ky_s2l, ky_sli, ky_s1f, ky_s2f, ky_s1d, ky_s2d, ky_sr, ky_sai, ky_sasi, ky_sasl, ky_sasr, ky_svr, ky_sv, ky_sv2, ky_s1, ky_cs, ky_pop, ky_nth, ky_snt, ky_obj, ky_ari, ky_arl, ky_arr, ky_arn, ky_fv, ky_rcv, List.map_cons, List.map_nil, List.drop_succ_cons, List.drop_zero, Value.category, Nat.reduceAdd, Nat.reduceSub, true_and, and_true, true_or, or_true, reduceCtorEq, ite_true, ite_false, eq_self, Nat.reduceEqDiff, Nat.reduceLeDiff, nI_add, nI_1, nI_leI, nI_ltI, nI_eq, nI_clamp, kz_m1, kz_mn, kz_mn2, kz_n0, kz_0n, kz_0, kz_le0, kz_0lt, false_implies, true_implies, not_false_eq_true, not_true_eq_false, Nat.zero_le, kb_0, kz_10, kz_of, ky_sw, kz_mx, kz_mi, mh]) | (refine ⟨vp_in_nI (by omega) (by omega), ?_⟩) | (refine ⟨fun zc => ?_, fun zc => ?_⟩ <;> try (exfalso; omega)) | fail)
/-- the text against a list -/
theorem kx225 (hM : kMt a f g L c) (hs : f (a 171) = some (.inl (1, 388, .inl r))) (hp : p < 60) {W : List Nat} (hW : kWd W) (h3 : r (28 + 6 * p + 3) = kHf W 0) (h4 : r (28 + 6 * p + 4) = kHf W 4) (hy : kLk W L c → Q (.inl (some (.int 1))) f) (hz : ¬ kLk W L c → Q (.inl (some (.int 0))) f) : ky_cl adK 225 [.ref (a 170), .int (nI p)] f Q := by
  obtain ⟨mh, g3, hL7, T, h182, hTc⟩ := id hM
  have hMo := hM.1
  unfold kMo at mh
  have e96 : (96 : Int32) = nI 96 := rfl
  have h8 := hW.2.1
  have no : ¬ kLk W L c → ∀ k, k ≤ L → ky_ok adK 225 20 [some (.ref (a 170)), some (.int (nI p)), some (.int 0), some (.int (nI k))] [] f 0 0 Q := by
    intro w k hk
    have hq := hz w
    by_cases e : k < L
    · repeat' (first | (refine ky_ok_stp rfl ?_; simp (disch := first | omega | assumption) only [ky_stp, ky_inv, ky_ldi, ky_ldl, ky_ldd, ky_lda, ky_cl2, ky_st1, ky_st2, ky_s1i, ky_s2i, ky_s1l, ky_s2l, ky_sli, ky_s1f, ky_s2f, ky_s1d, ky_s2d, ky_sr, ky_sai, ky_sasi, ky_sasl, ky_sasr, ky_svr, ky_sv, ky_sv2, ky_s1, ky_cs, ky_pop, ky_nth, ky_snt, ky_obj, ky_ari, ky_arl, ky_arr, ky_arn, ky_fv, ky_rcv, List.map_cons, List.map_nil, List.drop_succ_cons, List.drop_zero, Value.category, Nat.reduceAdd, Nat.reduceSub, true_and, and_true, true_or, or_true, reduceCtorEq, ite_true, ite_false, eq_self, Nat.reduceEqDiff, Nat.reduceLeDiff, nI_add, nI_1, nI_leI, nI_ltI, nI_eq, nI_clamp, kz_m1, kz_mn, kz_mn2, kz_n0, kz_0n, kz_0, kz_le0, kz_0lt, false_implies, true_implies, not_false_eq_true, not_true_eq_false, Nat.zero_le, kb_0, kz_10, kz_of, ky_sw, kz_mx, kz_mi, mh, g3]) | (refine ⟨vp_in_nI (by omega) (by omega), ?_⟩) | (refine ⟨fun zc => ?_, fun zc => ?_⟩ <;> try (exfalso; omega)) | fail)
      exact hq
    · repeat' (first | (refine ky_ok_stp rfl ?_; simp (disch := first | omega | assumption) only [ky_stp, ky_inv, ky_ldi, ky_ldl, ky_ldd, ky_lda, ky_cl2, ky_st1, ky_st2, ky_s1i, ky_s2i, ky_s1l, ky_s2l, ky_sli, ky_s1f, ky_s2f, ky_s1d, ky_s2d, ky_sr, ky_sai, ky_sasi, ky_sasl, ky_sasr, ky_svr, ky_sv, ky_sv2, ky_s1, ky_cs, ky_pop, ky_nth, ky_snt, ky_obj, ky_ari, ky_arl, ky_arr, ky_arn, ky_fv, ky_rcv, List.map_cons, List.map_nil, List.drop_succ_cons, List.drop_zero, Value.category, Nat.reduceAdd, Nat.reduceSub, true_and, and_true, true_or, or_true, reduceCtorEq, ite_true, ite_false, eq_self, Nat.reduceEqDiff, Nat.reduceLeDiff, nI_add, nI_1, nI_leI, nI_ltI, nI_eq, nI_clamp, kz_m1, kz_mn, kz_mn2, kz_n0, kz_0n, kz_0, kz_le0, kz_0lt, false_implies, true_implies, not_false_eq_true, not_true_eq_false, Nat.zero_le, kb_0, kz_10, kz_of, ky_sw, kz_mx, kz_mi, mh, g3]) | (refine ⟨vp_in_nI (by omega) (by omega), ?_⟩) | (refine ⟨fun zc => ?_, fun zc => ?_⟩ <;> try (exfalso; omega)) | fail)
      exact hq
  by_cases hl : W.length = L
  · have loop : ∀ m k, k + m = L → (∀ t, t < k → W.getD t 0 = c t) → ky_ok adK 225 20 [some (.ref (a 170)), some (.int (nI p)), some (.int 1), some (.int (nI k))] [] f 0 0 Q := by
      intro m
      induction m with
      | zero =>
        intro k hk hx
        obtain rfl : k = L := by omega
        repeat' (first | (refine ky_ok_stp rfl ?_; simp (disch := first | omega | assumption) only [ky_stp, ky_inv, ky_ldi, ky_ldl, ky_ldd, ky_lda, ky_cl2, ky_st1, ky_st2, ky_s1i, ky_s2i, ky_s1l, ky_s2l, ky_sli, ky_s1f, ky_s2f, ky_s1d, ky_s2d, ky_sr, ky_sai, ky_sasi, ky_sasl, ky_sasr, ky_svr, ky_sv, ky_sv2, ky_s1, ky_cs, ky_pop, ky_nth, ky_snt, ky_obj, ky_ari, ky_arl, ky_arr, ky_arn, ky_fv, ky_rcv, List.map_cons, List.map_nil, List.drop_succ_cons, List.drop_zero, Value.category, Nat.reduceAdd, Nat.reduceSub, true_and, and_true, true_or, or_true, reduceCtorEq, ite_true, ite_false, eq_self, Nat.reduceEqDiff, Nat.reduceLeDiff, nI_add, nI_1, nI_leI, nI_ltI, nI_eq, nI_clamp, kz_m1, kz_mn, kz_mn2, kz_n0, kz_0n, kz_0, kz_le0, kz_0lt, false_implies, true_implies, not_false_eq_true, not_true_eq_false, Nat.zero_le, kb_0, kz_10, kz_of, ky_sw, kz_mx, kz_mi, mh, g3]) | (refine ⟨vp_in_nI (by omega) (by omega), ?_⟩) | (refine ⟨fun zc => ?_, fun zc => ?_⟩ <;> try (exfalso; omega)) | fail)
        exact hy ⟨hl, hx⟩
      | succ m ih =>
        intro k hk hx
        have hcb := (hTc k (by omega)).2
        have hd := kWd_get hW k
        rw [if_pos (by omega)] at hd
        have e1 : 96 + (W.getD k 0 - 96) = W.getD k 0 := by omega
        by_cases e : c k = W.getD k 0
        · have hi := ih (k + 1) (by omega) (fun t ht => if z : t = k then z ▸ e.symm else hx t (by omega))
          repeat' (first | (refine kx200 hM (show k < L by omega) ?_; simp only [ky_aft, ky_vl, Nat.reduceAdd]) | (refine kx213 hMo hs hp hW h3 h4 (show k < 8 by omega) ?_; simp only [ky_aft, ky_vl, Nat.reduceAdd]) | (exact hi) | (refine ky_ok_stp rfl ?_; simp (disch := first | omega | assumption) only [ky_stp, ky_inv, ky_ldi, ky_ldl, ky_ldd, ky_lda, ky_cl2, ky_st1, ky_st2, ky_s1i, ky_s2i, ky_s1l, ky_s2l, ky_sli, ky_s1f, ky_s2f, ky_s1d, ky_s2d, ky_sr, ky_sai, ky_sasi, ky_sasl, ky_sasr, ky_svr, ky_sv, ky_sv2, ky_s1, ky_cs, ky_pop, ky_nth, ky_snt, ky_obj, ky_ari, ky_arl, ky_arr, ky_arn, ky_fv, ky_rcv, List.map_cons, List.map_nil, List.drop_succ_cons, List.drop_zero, Value.category, Nat.reduceAdd, Nat.reduceSub, true_and, and_true, true_or, or_true, reduceCtorEq, ite_true, ite_false, eq_self, Nat.reduceEqDiff, Nat.reduceLeDiff, nI_add, nI_1, nI_leI, nI_ltI, nI_eq, nI_clamp, kz_m1, kz_mn, kz_mn2, kz_n0, kz_0n, kz_0, kz_le0, kz_0lt, false_implies, true_implies, not_false_eq_true, not_true_eq_false, Nat.zero_le, kb_0, kz_10, kz_of, ky_sw, kz_mx, kz_mi, mh, g3, e96, e1, e]) | (refine ⟨vp_in_nI (by omega) (by omega), ?_⟩) | (refine ⟨fun zc => ?_, fun zc => ?_⟩ <;> try (exfalso; omega)) | fail)
        · have hi := no (fun w => e (w.2 k (by omega)).symm) (k + 1) (by omega)
          repeat' (first | (refine kx200 hM (show k < L by omega) ?_; simp only [ky_aft, ky_vl, Nat.reduceAdd]) | (refine kx213 hMo hs hp hW h3 h4 (show k < 8 by omega) ?_; simp only [ky_aft, ky_vl, Nat.reduceAdd]) | (exact hi) | (refine ky_ok_stp rfl ?_; simp (disch := first | omega | assumption) only [ky_stp, ky_inv, ky_ldi, ky_ldl, ky_ldd, ky_lda, ky_cl2, ky_st1, ky_st2, ky_s1i, ky_s2i, ky_s1l, ky_s2l, ky_sli, ky_s1f, ky_s2f, ky_s1d, ky_s2d, ky_sr, ky_sai, ky_sasi, ky_sasl, ky_sasr, ky_svr, ky_sv, ky_sv2, ky_s1, ky_cs, ky_pop, ky_nth, ky_snt, ky_obj, ky_ari, ky_arl, ky_arr, ky_arn, ky_fv, ky_rcv, List.map_cons, List.map_nil, List.drop_succ_cons, List.drop_zero, Value.category, Nat.reduceAdd, Nat.reduceSub, true_and, and_true, true_or, or_true, reduceCtorEq, ite_true, ite_false, eq_self, Nat.reduceEqDiff, Nat.reduceLeDiff, nI_add, nI_1, nI_leI, nI_ltI, nI_eq, nI_clamp, kz_m1, kz_mn, kz_mn2, kz_n0, kz_0n, kz_0, kz_le0, kz_0lt, false_implies, true_implies, not_false_eq_true, not_true_eq_false, Nat.zero_le, kb_0, kz_10, kz_of, ky_sw, kz_mx, kz_mi, mh, g3, e96, e1, eq_false e]) | (refine ⟨vp_in_nI (by omega) (by omega), ?_⟩) | (refine ⟨fun zc => ?_, fun zc => ?_⟩ <;> try (exfalso; omega)) | fail)
    have hlp := loop L 0 (by omega) (fun t ht => absurd ht (Nat.not_lt_zero t))
    refine ⟨Nat.le_of_ble_eq_true rfl, fun z => absurd z (by decide), ?_⟩; show ky_ok adK 225 0 [some (.ref (a 170)), some (.int (nI p)), none, none] [] f 0 0 _
    repeat' (first | (refine kx214 hMo hs hp hW h3 h4 ?_; simp only [ky_aft, ky_vl, Nat.reduceAdd]) | (exact hlp) | (refine ky_ok_stp rfl ?_; simp (disch := first | omega | assumption) only [ky_stp, ky_inv, ky_ldi, ky_ldl, ky_ldd, ky_lda, ky_cl2, ky_st1, ky_st2, ky_s1i, ky_s2i, ky_s1l, ky_s2l, ky_sli, ky_s1f, ky_s2f, ky_s1d, ky_s2d, ky_sr, ky_sai, ky_sasi, ky_sasl, ky_sasr, ky_svr, ky_sv, ky_sv2, ky_s1, ky_cs, ky_pop, ky_nth, ky_snt, ky_obj, ky_ari, ky_arl, ky_arr, ky_arn, ky_fv, ky_rcv, List.map_cons, List.map_nil, List.drop_succ_cons, List.drop_zero, Value.category, Nat.reduceAdd, Nat.reduceSub, true_and, and_true, true_or, or_true, reduceCtorEq, ite_true, ite_false, eq_self, Nat.reduceEqDiff, Nat.reduceLeDiff, nI_add, nI_1, nI_leI, nI_ltI, nI_eq, nI_clamp, kz_m1, kz_mn, kz_mn2, kz_n0, kz_0n, kz_0, kz_le0, kz_0lt, false_implies, true_implies, not_false_eq_true, not_true_eq_false, Nat.zero_le, kb_0, kz_10, kz_of, ky_sw, kz_mx, kz_mi, mh, g3, hl]) | (refine ⟨vp_in_nI (by omega) (by omega), ?_⟩) | (refine ⟨fun zc => ?_, fun zc => ?_⟩ <;> try (exfalso; omega)) | fail)
  · have hlp := no (fun w => hl w.1) 0 (Nat.zero_le _)
    refine ⟨Nat.le_of_ble_eq_true rfl, fun z => absurd z (by decide), ?_⟩; show ky_ok adK 225 0 [some (.ref (a 170)), some (.int (nI p)), none, none] [] f 0 0 _
    repeat' (first | (refine kx214 hMo hs hp hW h3 h4 ?_; simp only [ky_aft, ky_vl, Nat.reduceAdd]) | (exact hlp) | (refine ky_ok_stp rfl ?_; simp (disch := first | omega | assumption) only [ky_stp, ky_inv, ky_ldi, ky_ldl, ky_ldd, ky_lda, ky_cl2, ky_st1, ky_st2, ky_s1i, ky_s2i, ky_s1l, ky_s2l, ky_sli, ky_s1f, ky_s2f, ky_s1d, ky_s2d, ky_sr, ky_sai, ky_sasi, ky_sasl, ky_sasr, ky_svr, ky_sv, ky_sv2, ky_s1, ky_cs, ky_pop, ky_nth, ky_snt, ky_obj, ky_ari, ky_arl, ky_arr, ky_arn, ky_fv, ky_rcv, List.map_cons, List.map_nil, List.drop_succ_cons, List.drop_zero, Value.category, Nat.reduceAdd, Nat.reduceSub, true_and, and_true, true_or, or_true, reduceCtorEq, ite_true, ite_false, eq_self, Nat.reduceEqDiff, Nat.reduceLeDiff, nI_add, nI_1, nI_leI, nI_ltI, nI_eq, nI_clamp, kz_m1, kz_mn, kz_mn2, kz_n0, kz_0n, kz_0, kz_le0, kz_0lt, false_implies, true_implies, not_false_eq_true, not_true_eq_false, Nat.zero_le, kb_0, kz_10, kz_of, ky_sw, kz_mx, kz_mi, mh, g3, eq_false hl]) | (refine ⟨vp_in_nI (by omega) (by omega), ?_⟩) | (refine ⟨fun zc => ?_, fun zc => ?_⟩ <;> try (exfalso; omega)) | fail)
theorem kx226 (hM : kMt a f g L c) (ho : kZo z) (hD : kLd a f z z.n) (hp : p < z.n) (hy : kLk (kNO z p) L c → Q (.inl (some (.int 1))) f) (hz : ¬ kLk (kNO z p) L c → Q (.inl (some (.int 0))) f) : ky_cl adK 226 [.ref (a 170), .int (nI p)] f Q := by
  obtain ⟨mh, g3, hL7, T, h182, hTc⟩ := id hM
  have hMo := hM.1
  unfold kMo at mh
  have h60 := ho.n60
  obtain ⟨M, E, h178, h179, hd⟩ := id hD
  obtain ⟨hE, hMp⟩ := hd p hp
  have hl1 := kNO_l ho 6 p hp (ho.lv p hp).2.2
  have hv1 := (ho.lv p hp).2.2
  have hb := kNO_256 ho hp
  have no : ¬ kLk (kNO z p) L c → ∀ k, k ≤ L → ky_ok adK 226 21 [some (.ref (a 170)), some (.int (nI p)), some (.int 0), some (.int (nI k))] [] f 0 0 Q := by
    intro w k hk
    have hq := hz w
    by_cases e : k < L
    · repeat' (first | (refine ky_ok_stp rfl ?_; simp (disch := first | omega | assumption) only [ky_stp, ky_inv, ky_ldi, ky_ldl, ky_ldd, ky_lda, ky_cl2, ky_st1, ky_st2, ky_s1i, ky_s2i, ky_s1l, ky_s2l, ky_sli, ky_s1f, ky_s2f, ky_s1d, ky_s2d, ky_sr, ky_sai, ky_sasi, ky_sasl, ky_sasr, ky_svr, ky_sv, ky_sv2, ky_s1, ky_cs, ky_pop, ky_nth, ky_snt, ky_obj, ky_ari, ky_arl, ky_arr, ky_arn, ky_fv, ky_rcv, List.map_cons, List.map_nil, List.drop_succ_cons, List.drop_zero, Value.category, Nat.reduceAdd, Nat.reduceSub, true_and, and_true, true_or, or_true, reduceCtorEq, ite_true, ite_false, eq_self, Nat.reduceEqDiff, Nat.reduceLeDiff, nI_add, nI_1, nI_leI, nI_ltI, nI_eq, nI_clamp, kz_m1, kz_mn, kz_mn2, kz_n0, kz_0n, kz_0, kz_le0, kz_0lt, false_implies, true_implies, not_false_eq_true, not_true_eq_false, Nat.zero_le, kb_0, kz_10, kz_of, ky_sw, kz_mx, kz_mi, mh, g3]) | (refine ⟨vp_in_nI (by omega) (by omega), ?_⟩) | (refine ⟨fun zc => ?_, fun zc => ?_⟩ <;> try (exfalso; omega)) | fail)
      exact hq
    · repeat' (first | (refine ky_ok_stp rfl ?_; simp (disch := first | omega | assumption) only [ky_stp, ky_inv, ky_ldi, ky_ldl, ky_ldd, ky_lda, ky_cl2, ky_st1, ky_st2, ky_s1i, ky_s2i, ky_s1l, ky_s2l, ky_sli, ky_s1f, ky_s2f, ky_s1d, ky_s2d, ky_sr, ky_sai, ky_sasi, ky_sasl, ky_sasr, ky_svr, ky_sv, ky_sv2, ky_s1, ky_cs, ky_pop, ky_nth, ky_snt, ky_obj, ky_ari, ky_arl, ky_arr, ky_arn, ky_fv, ky_rcv, List.map_cons, List.map_nil, List.drop_succ_cons, List.drop_zero, Value.category, Nat.reduceAdd, Nat.reduceSub, true_and, and_true, true_or, or_true, reduceCtorEq, ite_true, ite_false, eq_self, Nat.reduceEqDiff, Nat.reduceLeDiff, nI_add, nI_1, nI_leI, nI_ltI, nI_eq, nI_clamp, kz_m1, kz_mn, kz_mn2, kz_n0, kz_0n, kz_0, kz_le0, kz_0lt, false_implies, true_implies, not_false_eq_true, not_true_eq_false, Nat.zero_le, kb_0, kz_10, kz_of, ky_sw, kz_mx, kz_mi, mh, g3]) | (refine ⟨vp_in_nI (by omega) (by omega), ?_⟩) | (refine ⟨fun zc => ?_, fun zc => ?_⟩ <;> try (exfalso; omega)) | fail)
      exact hq
  by_cases hl : (kNO z p).length = L
  · have loop : ∀ m k, k + m = L → (∀ t, t < k → (kNO z p).getD t 0 = c t) → ky_ok adK 226 21 [some (.ref (a 170)), some (.int (nI p)), some (.int 1), some (.int (nI k))] [] f 0 0 Q := by
      intro m
      induction m with
      | zero =>
        intro k hk hx
        obtain rfl : k = L := by omega
        repeat' (first | (refine ky_ok_stp rfl ?_; simp (disch := first | omega | assumption) only [ky_stp, ky_inv, ky_ldi, ky_ldl, ky_ldd, ky_lda, ky_cl2, ky_st1, ky_st2, ky_s1i, ky_s2i, ky_s1l, ky_s2l, ky_sli, ky_s1f, ky_s2f, ky_s1d, ky_s2d, ky_sr, ky_sai, ky_sasi, ky_sasl, ky_sasr, ky_svr, ky_sv, ky_sv2, ky_s1, ky_cs, ky_pop, ky_nth, ky_snt, ky_obj, ky_ari, ky_arl, ky_arr, ky_arn, ky_fv, ky_rcv, List.map_cons, List.map_nil, List.drop_succ_cons, List.drop_zero, Value.category, Nat.reduceAdd, Nat.reduceSub, true_and, and_true, true_or, or_true, reduceCtorEq, ite_true, ite_false, eq_self, Nat.reduceEqDiff, Nat.reduceLeDiff, nI_add, nI_1, nI_leI, nI_ltI, nI_eq, nI_clamp, kz_m1, kz_mn, kz_mn2, kz_n0, kz_0n, kz_0, kz_le0, kz_0lt, false_implies, true_implies, not_false_eq_true, not_true_eq_false, Nat.zero_le, kb_0, kz_10, kz_of, ky_sw, kz_mx, kz_mi, mh, g3]) | (refine ⟨vp_in_nI (by omega) (by omega), ?_⟩) | (refine ⟨fun zc => ?_, fun zc => ?_⟩ <;> try (exfalso; omega)) | fail)
        exact hy ⟨hl, hx⟩
      | succ m ih =>
        intro k hk hx
        have hcb := (hTc k (by omega)).2
        have hMk := hMp k (by omega)
        have hdb : (kNO z p).getD k 0 < 256 := by
          rw [List.getD_eq_getElem?_getD, List.getElem?_eq_getElem (show k < (kNO z p).length by omega)]
          exact hb _ (List.getElem_mem _)
        by_cases e : c k = (kNO z p).getD k 0
        · have hi := ih (k + 1) (by omega) (fun t ht => if z : t = k then z ▸ e.symm else hx t (by omega))
          repeat' (first | (refine kx200 hM (show k < L by omega) ?_; simp only [ky_aft, ky_vl, Nat.reduceAdd]) | (exact hi) | (refine ky_ok_stp rfl ?_; simp (disch := first | omega | assumption) only [ky_stp, ky_inv, ky_ldi, ky_ldl, ky_ldd, ky_lda, ky_cl2, ky_st1, ky_st2, ky_s1i, ky_s2i, ky_s1l, ky_s2l, ky_sli, ky_s1f, ky_s2f, ky_s1d, ky_s2d, ky_sr, ky_sai, ky_sasi, ky_sasl, ky_sasr, ky_svr, ky_sv, ky_sv2, ky_s1, ky_cs, ky_pop, ky_nth, ky_snt, ky_obj, ky_ari, ky_arl, ky_arr, ky_arn, ky_fv, ky_rcv, List.map_cons, List.map_nil, List.drop_succ_cons, List.drop_zero, Value.category, Nat.reduceAdd, Nat.reduceSub, true_and, and_true, true_or, or_true, reduceCtorEq, ite_true, ite_false, eq_self, Nat.reduceEqDiff, Nat.reduceLeDiff, nI_add, nI_1, nI_leI, nI_ltI, nI_eq, nI_clamp, kz_m1, kz_mn, kz_mn2, kz_n0, kz_0n, kz_0, kz_le0, kz_0lt, false_implies, true_implies, not_false_eq_true, not_true_eq_false, Nat.zero_le, kb_0, kz_10, kz_of, ky_sw, kz_mx, kz_mi, mh, g3, h178, hMk, e, kz_60, nI_mul]) | (refine ⟨vp_in_nI (by omega) (by omega), ?_⟩) | (refine ⟨fun zc => ?_, fun zc => ?_⟩ <;> try (exfalso; omega)) | fail)
        · have hi := no (fun w => e (w.2 k (by omega)).symm) (k + 1) (by omega)
          repeat' (first | (refine kx200 hM (show k < L by omega) ?_; simp only [ky_aft, ky_vl, Nat.reduceAdd]) | (exact hi) | (refine ky_ok_stp rfl ?_; simp (disch := first | omega | assumption) only [ky_stp, ky_inv, ky_ldi, ky_ldl, ky_ldd, ky_lda, ky_cl2, ky_st1, ky_st2, ky_s1i, ky_s2i, ky_s1l, ky_s2l, ky_sli, ky_s1f, ky_s2f, ky_s1d, ky_s2d, ky_sr, ky_sai, ky_sasi, ky_sasl, ky_sasr, ky_svr, ky_sv, ky_sv2, ky_s1, ky_cs, ky_pop, ky_nth, ky_snt, ky_obj, ky_ari, ky_arl, ky_arr, ky_arn, ky_fv, ky_rcv, List.map_cons, List.map_nil, List.drop_succ_cons, List.drop_zero, Value.category, Nat.reduceAdd, Nat.reduceSub, true_and, and_true, true_or, or_true, reduceCtorEq, ite_true, ite_false, eq_self, Nat.reduceEqDiff, Nat.reduceLeDiff, nI_add, nI_1, nI_leI, nI_ltI, nI_eq, nI_clamp, kz_m1, kz_mn, kz_mn2, kz_n0, kz_0n, kz_0, kz_le0, kz_0lt, false_implies, true_implies, not_false_eq_true, not_true_eq_false, Nat.zero_le, kb_0, kz_10, kz_of, ky_sw, kz_mx, kz_mi, mh, g3, h178, hMk, eq_false e, kz_60, nI_mul]) | (refine ⟨vp_in_nI (by omega) (by omega), ?_⟩) | (refine ⟨fun zc => ?_, fun zc => ?_⟩ <;> try (exfalso; omega)) | fail)
    have hlp := loop L 0 (by omega) (fun t ht => absurd ht (Nat.not_lt_zero t))
    refine ⟨Nat.le_of_ble_eq_true rfl, fun z => absurd z (by decide), ?_⟩; show ky_ok adK 226 0 [some (.ref (a 170)), some (.int (nI p)), none, none] [] f 0 0 _
    repeat' (first | (exact hlp) | (refine ky_ok_stp rfl ?_; simp (disch := first | omega | assumption) only [ky_stp, ky_inv, ky_ldi, ky_ldl, ky_ldd, ky_lda, ky_cl2, ky_st1, ky_st2, ky_s1i, ky_s2i, ky_s1l, ky_s2l, ky_sli, ky_s1f, ky_s2f, ky_s1d, ky_s2d, ky_sr, ky_sai, ky_sasi, ky_sasl, ky_sasr, ky_svr, ky_sv, ky_sv2, ky_s1, ky_cs, ky_pop, ky_nth, ky_snt, ky_obj, ky_ari, ky_arl, ky_arr, ky_arn, ky_fv, ky_rcv, List.map_cons, List.map_nil, List.drop_succ_cons, List.drop_zero, Value.category, Nat.reduceAdd, Nat.reduceSub, true_and, and_true, true_or, or_true, reduceCtorEq, ite_true, ite_false, eq_self, Nat.reduceEqDiff, Nat.reduceLeDiff, nI_add, nI_1, nI_leI, nI_ltI, nI_eq, nI_clamp, kz_m1, kz_mn, kz_mn2, kz_n0, kz_0n, kz_0, kz_le0, kz_0lt, false_implies, true_implies, not_false_eq_true, not_true_eq_false, Nat.zero_le, kb_0, kz_10, kz_of, ky_sw, kz_mx, kz_mi, mh, g3, h179, hE, hl]) | (refine ⟨vp_in_nI (by omega) (by omega), ?_⟩) | (refine ⟨fun zc => ?_, fun zc => ?_⟩ <;> try (exfalso; omega)) | fail)
  · have hlp := no (fun w => hl w.1) 0 (Nat.zero_le _)
    refine ⟨Nat.le_of_ble_eq_true rfl, fun z => absurd z (by decide), ?_⟩; show ky_ok adK 226 0 [some (.ref (a 170)), some (.int (nI p)), none, none] [] f 0 0 _
    repeat' (first | (exact hlp) | (refine ky_ok_stp rfl ?_; simp (disch := first | omega | assumption) only [ky_stp, ky_inv, ky_ldi, ky_ldl, ky_ldd, ky_lda, ky_cl2, ky_st1, ky_st2, ky_s1i, ky_s2i, ky_s1l, ky_s2l, ky_sli, ky_s1f, ky_s2f, ky_s1d, ky_s2d, ky_sr, ky_sai, ky_sasi, ky_sasl, ky_sasr, ky_svr, ky_sv, ky_sv2, ky_s1, ky_cs, ky_pop, ky_nth, ky_snt, ky_obj, ky_ari, ky_arl, ky_arr, ky_arn, ky_fv, ky_rcv, List.map_cons, List.map_nil, List.drop_succ_cons, List.drop_zero, Value.category, Nat.reduceAdd, Nat.reduceSub, true_and, and_true, true_or, or_true, reduceCtorEq, ite_true, ite_false, eq_self, Nat.reduceEqDiff, Nat.reduceLeDiff, nI_add, nI_1, nI_leI, nI_ltI, nI_eq, nI_clamp, kz_m1, kz_mn, kz_mn2, kz_n0, kz_0n, kz_0, kz_le0, kz_0lt, false_implies, true_implies, not_false_eq_true, not_true_eq_false, Nat.zero_le, kb_0, kz_10, kz_of, ky_sw, kz_mx, kz_mi, mh, g3, h179, hE, eq_false hl]) | (refine ⟨vp_in_nI (by omega) (by omega), ?_⟩) | (refine ⟨fun zc => ?_, fun zc => ?_⟩ <;> try (exfalso; omega)) | fail)
end KXM
