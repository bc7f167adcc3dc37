/-! THE METHODS, as statements of the abstract machine: what all of them need. -/
theorem kz_m1 (x : Int32) : x + (-1) = x - 1 := (Int32.sub_eq_add_neg x 1).symm
theorem kz_10 : ((1 : Int32) = 0) = False := by decide
theorem kz_of (n : Nat) : Int32.ofNat n = nI n := rfl
theorem kz_60 : (60 : Int32) = nI 60 := rfl
theorem kz_2 : (2 : Int32) = nI 2 := rfl
theorem kz_1 : (1 : Int32) = nI 1 := rfl
theorem kz_64 : (64 : Int32) = nI 64 := rfl
theorem kz_8 : (8 : Int32) = nI 8 := rfl
theorem kz_7 : (7 : Int32) = nI 7 := rfl
theorem kz_9 : (9 : Int32) = nI 9 := rfl
theorem kz_4 : (4 : Int32) = nI 4 := rfl
theorem kz_5 : (5 : Int32) = nI 5 := rfl
theorem kz_3x : (3 : Int32) = nI 3 := rfl
theorem kz_56 : (56 : Int32) = nI 56 := rfl
theorem kz_6 : (6 : Int32) = nI 6 := rfl
theorem kz_mx {a b : Nat} {inst : Decidable (a < b)} : @ite _ (a < b) inst (nI b) (nI a) = nI (max a b) := by
  by_cases h : a < b
  · rw [if_pos h]; congr 1; omega
  · rw [if_neg h]; congr 1; omega
theorem kz_mi {a b : Nat} {inst : Decidable (b < a)} : @ite _ (b < a) inst (nI b) (nI a) = nI (min a b) := by
  by_cases h : b < a
  · rw [if_pos h]; congr 1; omega
  · rw [if_neg h]; congr 1; omega
theorem kz_mn : ((-1 : Int32) < 0) = True := by simp
theorem kz_mn2 : ((0 : Int32) ≤ -1) = False := by decide
theorem kz_n0 {n : Nat} (h : n < 2 ^ 31) : (nI n < 0) = False := eq_false (nI_pos h)
theorem kz_0n {n : Nat} (h : n < 2 ^ 31) : ((0 : Int32) ≤ nI n) = True := eq_true (nI_pos' h)
theorem kz_z : nI 0 - 1 = -1 := by decide
theorem kz_0 {n : Nat} (h : n < 2 ^ 31) : (nI n = 0) = (n = 0) := by
  have := nI_eq h (show 0 < 2 ^ 31 by decide)
  exact propext this
theorem kz_le0 {n : Nat} (h : n < 2 ^ 31) : (nI n ≤ 0) = (n = 0) := by
  have h1 := nI_leI h (show 0 < 2 ^ 31 by decide)
  rw [show (0 : Int32) = nI 0 from rfl]
  exact propext (h1.trans Nat.le_zero)
theorem kz_0lt {n : Nat} (h : n < 2 ^ 31) : ((0 : Int32) < nI n) = (0 < n) := by
  have h1 := nI_ltI (show 0 < 2 ^ 31 by decide) h
  exact propext h1
/-- a boolean -/
def kb (x : Int32) : Int32 := if x = 0 then 0 else 1
theorem kb_0 (x : Int32) : (kb x = 0) = (x = 0) := by
  unfold kb
  by_cases h : x = 0
  · simp [h]
  · simp [h]
theorem kb_t {x : Int32} (h : ¬ x = 0) : (1 : Int32) = kb x := by rw [kb, if_neg h]
theorem kb_f {x : Int32} (h : x = 0) : (0 : Int32) = kb x := by rw [kb, if_pos h]
theorem kz_up {f : ky_H} {q x : Nat} {e : ky_E} : ky_up f q e x = if x = q then some e else f x := rfl
theorem kz_same {f : ky_H} {q : Nat} {e : ky_E} : ky_up f q e q = some e := if_pos rfl
theorem kz_ne {f : ky_H} {q x : Nat} {e : ky_E} (h : x ≠ q) : ky_up f q e x = f x := if_neg h
theorem kz_id {f : ky_H} {q : Nat} {e : ky_E} (h : f q = some e) : ky_up f q e = f := by
  funext x
  unfold ky_up
  by_cases hx : x = q
  · rw [if_pos hx, hx, h]
  · rw [if_neg hx]
theorem kz_uu {f : ky_H} {q : Nat} {e e' : ky_E} : ky_up (ky_up f q e) q e' = ky_up f q e' := by
  funext x
  unfold ky_up
  by_cases hx : x = q
  · rw [if_pos hx, if_pos hx]
  · rw [if_neg hx, if_neg hx, if_neg hx]
/-- addresses are apart -/
def kI (a : Nat → Nat) : Prop := ∀ i j, a i = a j → i = j
theorem kI_ne {a : Nat → Nat} (h : kI a) {i j : Nat} (hij : i ≠ j) : (a i = a j) = False := eq_false fun z => hij (h i j z)
/-- a list of places put into an array -/
def kput (g : Nat → Int32) (l : List Nat) : Nat → Int32 := fun t => if t < l.length then nI (l.getD t 0) else g t
theorem kput_nil (g : Nat → Int32) : kput g [] = g := by funext t; simp [kput]
theorem kput_snoc (g : Nat → Int32) (l : List Nat) (x : Nat) : upd (kput g l) l.length (nI x) = kput g (l ++ [x]) := by
  funext t
  unfold upd kput
  rw [List.length_append, List.length_singleton]
  by_cases h1 : t = l.length
  · subst h1; simp
  · by_cases h2 : t < l.length
    · rw [if_neg h1, if_pos h2, if_pos (by omega), List.getD_eq_getElem?_getD, List.getD_eq_getElem?_getD, List.getElem?_append_left h2]
    · rw [if_neg h1, if_neg h2, if_neg (by omega)]
theorem kput_sn {g : Nat → Int32} {l : List Nat} {c : Nat} (h : l.length = c) (x : Nat) : upd (kput g l) c (nI x) = kput g (l ++ [x]) := by
  rw [← h]; exact kput_snoc g l x
theorem ksn_len {l : List Nat} {c : Nat} (h : l.length = c) (x : Nat) : (l ++ [x]).length = c + 1 := by rw [List.length_append, List.length_singleton, h]
theorem kz_cmp (x y : Int64) : (0 ≤ lg_cmp x y) = ¬ x < y := by
  unfold lg_cmp
  by_cases h1 : x > y
  · rw [if_pos h1]; exact propext ⟨fun _ z => absurd (Int64.lt_trans h1 z) Int64.lt_irrefl, fun _ => by decide⟩
  · rw [if_neg h1]
    by_cases h2 : x = y
    · rw [if_pos h2, h2]; exact propext ⟨fun _ => Int64.lt_irrefl, fun _ => by decide⟩
    · rw [if_neg h2]
      refine propext ⟨fun z => absurd z (by decide), fun z => ?_⟩
      exact absurd (Int64.le_antisymm (Int64.not_lt.mp h1) (Int64.not_lt.mp z)) h2
/-! ## an outline, read -/
/-- a block of an outline: the object, its arrays -/
def kO (a : Nat → Nat) (k : Nat) (f : ky_H) (n : Nat) (N : Nat → Int64) (L P F G : Nat → Int32) : Prop :=
  f (a k) = some (.inr (3, [.int (nI n), .ref (a (k + 1)), .ref (a (k + 6)), .ref (a (k + 7)), .ref (a (k + 8)), .ref (a (k + 9)), .ref (a (k + 10))]))
  ∧ f (a (k + 6)) = some (.inl (2, 60, .inr (.inl N))) ∧ f (a (k + 7)) = some (.inl (1, 60, .inl L)) ∧ f (a (k + 8)) = some (.inl (3, 60, .inl P)) ∧ f (a (k + 9)) = some (.inl (3, 60, .inl F)) ∧ f (a (k + 10)) = some (.inl (1, 60, .inl G))
/-- behind a branch: from i on, at most m on -/
def kE (L : Nat → Int32) (lv : Int32) : Nat → Nat → Nat
  | i, 0 => i
  | i, m + 1 => if lv < L i then kE L lv (i + 1) m else i
/-- the place (plus 1) of the nearest heading ahead of j - 1 that is less deep -/
def kP (L : Nat → Int32) (lv : Int32) : Nat → Nat
  | 0 => 0
  | j + 1 => if lv ≤ L j then kP L lv j else j + 1
def kG (L : Nat → Int32) : Nat → Nat → Int32 → Int32
  | _, 0, g => g
  | i, m + 1, g => kG L (i + 1) m (if g < L i then L i else g)
def kSu (L : Nat → Int32) : Nat → Nat → Int32 → Int32
  | _, 0, g => g
  | i, m + 1, g => kSu L (i + 1) m (g + L i)
def kNf (F : Nat → Int32) : Nat → Nat → Nat → Nat
  | _, 0, g => g
  | i, m + 1, g => kNf F (i + 1) m (if F i = 0 then g else g + 1)
def kSb (L : Nat → Int32) (lv : Int32) : Nat → Nat → Nat
  | 0, g => g
  | j + 1, g => if L j < lv then g else kSb L lv j (if L j = lv then g + 1 else g)
/-- the level at a place (plus 1); 0 at none -/
def kLv (L : Nat → Int32) : Nat → Int32
  | 0 => 0
  | j + 1 => L j
def kCh (L : Nat → Int32) (lv : Int32) : Nat → Nat → List Nat → List Nat
  | _, 0, l => l
  | i, m + 1, l => kCh L lv (i + 1) m (if L i = lv then l ++ [i] else l)
def kVs (L F : Nat → Int32) : Int32 → Nat → Nat → List Nat → List Nat
  | _, _, 0, l => l
  | g, i, m + 1, l => if L i ≤ g then kVs L F (if F i = 0 then 6 else L i) (i + 1) m (l ++ [i]) else kVs L F g (i + 1) m l
theorem kE_le (L : Nat → Int32) (lv : Int32) : ∀ m i, i ≤ kE L lv i m ∧ kE L lv i m ≤ i + m
  | 0, i => ⟨Nat.le_refl _, Nat.le_refl _⟩
  | m + 1, i => by
    have := kE_le L lv m (i + 1)
    rw [kE]
    split <;> omega
theorem kCh_le (L : Nat → Int32) (lv : Int32) : ∀ m i l, (kCh L lv i m l).length ≤ l.length + m
  | 0, i, l => Nat.le_refl _
  | m + 1, i, l => by
    have := kCh_le L lv m (i + 1) (if L i = lv then l ++ [i] else l)
    have h2 : (if L i = lv then l ++ [i] else l).length ≤ l.length + 1 := by split <;> simp
    rw [kCh]
    omega
section KXO
variable {adK a : Nat → Nat} {k n i j q : Nat} {f : ky_H} {N : Nat → Int64} {L P F G PL : Nat → Int32} {Q : ky_Q} {x : Int32}
theorem kx25 (hO : kO a k f n N L P F G) (hn : n ≤ 60) (hy : ∀ i, i < n → x = nI i → Q (.inl (some (.int 1))) f) (hz : (∀ i, i < n → x ≠ nI i) → Q (.inl (some (.int 0))) f) : ky_cl adK 25 [.ref (a k), .int x] f Q := by
  obtain ⟨h0, h6, h7, h8, h9, h10⟩ := hO
  refine ⟨Nat.le_of_ble_eq_true rfl, fun z => absurd z (by decide), ?_⟩; show ky_ok adK 25 0 [some (.ref (a k)), some (.int x)] [] f 0 0 _
  repeat' (first | (refine ky_ok_stp rfl ?_; simp (disch := first | omega | assumption) only [ky_stp, ky_inv, ky_ldi, ky_ldl, ky_ldd, ky_lda, ky_cl2, ky_st1, ky_st2, ky_s1i, ky_s2i, ky_s1l, ky_s2l, ky_sli, ky_s1f, ky_s2f, ky_s1d, ky_s2d, ky_sr, ky_sai, ky_sasi, ky_sasl, ky_sasr, ky_svr, ky_sv, ky_sv2, ky_s1, ky_cs, ky_pop, ky_nth, ky_snt, ky_obj, ky_ari, ky_arl, ky_arr, ky_arn, ky_fv, ky_rcv, List.map_cons, List.map_nil, List.drop_succ_cons, List.drop_zero, Value.category, Nat.reduceAdd, Nat.reduceSub, true_and, and_true, true_or, or_true, reduceCtorEq, ite_true, ite_false, eq_self, Nat.reduceEqDiff, Nat.reduceLeDiff, nI_add, nI_1, nI_leI, nI_ltI, nI_eq, nI_clamp, kz_m1, kz_mn, kz_mn2, kz_n0, kz_0n, kz_0, kz_le0, kz_0lt, false_implies, true_implies, not_false_eq_true, not_true_eq_false, Nat.zero_le, kb_0, kz_10, kz_of, ky_sw, kz_mx, kz_mi, h0, h6, h7, h8, h9, h10]) | (refine ⟨vp_in_nI (by omega) (by omega), ?_⟩) | (refine ⟨fun zc => ?_, fun zc => ?_⟩ <;> try (exfalso; omega)) | fail)
  · refine hz fun i hi e => ?_
    subst e
    exact nI_pos (n := i) (by omega) (by assumption)
  · refine hz fun i hi e => ?_
    subst e
    exact nI_ge hi (by omega) (by assumption)
  · next zc1 =>
    obtain ⟨i, hi, rfl⟩ := nI_of zc1
    exact hy i ((nI_ltI hi (by omega)).mp (Int32.not_le.mp zc)) rfl
theorem kx25v (hO : kO a k f n N L P F G) (hn : n ≤ 60) (hi : i < n) (hQ : Q (.inl (some (.int 1))) f) : ky_cl adK 25 [.ref (a k), .int (nI i)] f Q :=
  kx25 hO hn (fun _ _ _ => hQ) fun h => absurd rfl (h i hi)
theorem kx25m (hO : kO a k f n N L P F G) (hn : n ≤ 60) (hQ : Q (.inl (some (.int 0))) f) : ky_cl adK 25 [.ref (a k), .int (-1)] f Q :=
  kx25 hO hn (fun i hi e => absurd (show (-1 : Int32) < 0 by decide) (by rw [e]; exact nI_pos (by omega))) fun _ => hQ
theorem kx27 (hO : kO a k f n N L P F G) (hn : n ≤ 60) (hi : i < n) (hQ : Q (.inl (some (.int (L i)))) f) : ky_cl adK 27 [.ref (a k), .int (nI i)] f Q := by
  obtain ⟨h0, h6, h7, h8, h9, h10⟩ := hO
  refine ⟨Nat.le_of_ble_eq_true rfl, fun z => absurd z (by decide), ?_⟩; show ky_ok adK 27 0 [some (.ref (a k)), some (.int (nI i))] [] f 0 0 _
  repeat' (first | (refine ky_ok_stp rfl ?_; simp (disch := first | omega | assumption) only [ky_stp, ky_inv, ky_ldi, ky_ldl, ky_ldd, ky_lda, ky_cl2, ky_st1, ky_st2, ky_s1i, ky_s2i, ky_s1l, ky_s2l, ky_sli, ky_s1f, ky_s2f, ky_s1d, ky_s2d, ky_sr, ky_sai, ky_sasi, ky_sasl, ky_sasr, ky_svr, ky_sv, ky_sv2, ky_s1, ky_cs, ky_pop, ky_nth, ky_snt, ky_obj, ky_ari, ky_arl, ky_arr, ky_arn, ky_fv, ky_rcv, List.map_cons, List.map_nil, List.drop_succ_cons, List.drop_zero, Value.category, Nat.reduceAdd, Nat.reduceSub, true_and, and_true, true_or, or_true, reduceCtorEq, ite_true, ite_false, eq_self, Nat.reduceEqDiff, Nat.reduceLeDiff, nI_add, nI_1, nI_leI, nI_ltI, nI_eq, nI_clamp, kz_m1, kz_mn, kz_mn2, kz_n0, kz_0n, kz_0, kz_le0, kz_0lt, false_implies, true_implies, not_false_eq_true, not_true_eq_false, Nat.zero_le, kb_0, kz_10, kz_of, ky_sw, kz_mx, kz_mi, h0, h6, h7, h8, h9, h10]) | (refine ⟨vp_in_nI (by omega) (by omega), ?_⟩) | (refine ⟨fun zc => ?_, fun zc => ?_⟩ <;> try (exfalso; omega)) | fail)
  exact hQ
theorem kx27m (hO : kO a k f n N L P F G) (hQ : Q (.inl (some (.int 0))) f) : ky_cl adK 27 [.ref (a k), .int (-1)] f Q := by
  obtain ⟨h0, h6, h7, h8, h9, h10⟩ := hO
  refine ⟨Nat.le_of_ble_eq_true rfl, fun z => absurd z (by decide), ?_⟩; show ky_ok adK 27 0 [some (.ref (a k)), some (.int (-1))] [] f 0 0 _
  repeat' (first | (refine ky_ok_stp rfl ?_; simp (disch := first | omega | assumption) only [ky_stp, ky_inv, ky_ldi, ky_ldl, ky_ldd, ky_lda, ky_cl2, ky_st1, ky_st2, ky_s1i, ky_s2i, ky_s1l, ky_s2l, ky_sli, ky_s1f, ky_s2f, ky_s1d, ky_s2d, ky_sr, ky_sai, ky_sasi, ky_sasl, ky_sasr, ky_svr, ky_sv, ky_sv2, ky_s1, ky_cs, ky_pop, ky_nth, ky_snt, ky_obj, ky_ari, ky_arl, ky_arr, ky_arn, ky_fv, ky_rcv, List.map_cons, List.map_nil, List.drop_succ_cons, List.drop_zero, Value.category, Nat.reduceAdd, Nat.reduceSub, true_and, and_true, true_or, or_true, reduceCtorEq, ite_true, ite_false, eq_self, Nat.reduceEqDiff, Nat.reduceLeDiff, nI_add, nI_1, nI_leI, nI_ltI, nI_eq, nI_clamp, kz_m1, kz_mn, kz_mn2, kz_n0, kz_0n, kz_0, kz_le0, kz_0lt, false_implies, true_implies, not_false_eq_true, not_true_eq_false, Nat.zero_le, kb_0, kz_10, kz_of, ky_sw, kz_mx, kz_mi, h0, h6, h7, h8, h9, h10]) | (refine ⟨vp_in_nI (by omega) (by omega), ?_⟩) | (refine ⟨fun zc => ?_, fun zc => ?_⟩ <;> try (exfalso; omega)) | fail)
  exact hQ
theorem kx27j (hO : kO a k f n N L P F G) (hn : n ≤ 60) (hj : j ≤ n) (hQ : Q (.inl (some (.int (kLv L j)))) f) : ky_cl adK 27 [.ref (a k), .int (nI j - 1)] f Q := by
  cases j with
  | zero => rw [kz_z]; exact kx27m hO hQ
  | succ j => rw [nI_pred]; exact kx27 hO hn hj hQ
theorem kx26 (hO : kO a k f n N L P F G) (hn : n ≤ 60) (hi : i < n) (hQ : Q (.inl (some (.long (N i)))) f) : ky_cl adK 26 [.ref (a k), .int (nI i)] f Q := by
  have hO' := hO
  obtain ⟨h0, h6, h7, h8, h9, h10⟩ := hO
  refine ⟨Nat.le_of_ble_eq_true rfl, fun z => absurd z (by decide), ?_⟩; show ky_ok adK 26 0 [some (.ref (a k)), some (.int (nI i))] [] f 0 0 _
  repeat' (first | (refine kx25v hO' hn hi ?_; simp only [ky_aft, ky_vl, Nat.reduceAdd]) | (refine ky_ok_stp rfl ?_; simp (disch := first | omega | assumption) only [ky_stp, ky_inv, ky_ldi, ky_ldl, ky_ldd, ky_lda, ky_cl2, ky_st1, ky_st2, ky_s1i, ky_s2i, ky_s1l, ky_s2l, ky_sli, ky_s1f, ky_s2f, ky_s1d, ky_s2d, ky_sr, ky_sai, ky_sasi, ky_sasl, ky_sasr, ky_svr, ky_sv, ky_sv2, ky_s1, ky_cs, ky_pop, ky_nth, ky_snt, ky_obj, ky_ari, ky_arl, ky_arr, ky_arn, ky_fv, ky_rcv, List.map_cons, List.map_nil, List.drop_succ_cons, List.drop_zero, Value.category, Nat.reduceAdd, Nat.reduceSub, true_and, and_true, true_or, or_true, reduceCtorEq, ite_true, ite_false, eq_self, Nat.reduceEqDiff, Nat.reduceLeDiff, nI_add, nI_1, nI_leI, nI_ltI, nI_eq, nI_clamp, kz_m1, kz_mn, kz_mn2, kz_n0, kz_0n, kz_0, kz_le0, kz_0lt, false_implies, true_implies, not_false_eq_true, not_true_eq_false, Nat.zero_le, kb_0, kz_10, kz_of, ky_sw, kz_mx, kz_mi, h0, h6, h7, h8, h9, h10]) | (refine ⟨vp_in_nI (by omega) (by omega), ?_⟩) | (refine ⟨fun zc => ?_, fun zc => ?_⟩ <;> try (exfalso; omega)) | fail)
  exact hQ
theorem kx28 (hO : kO a k f n N L P F G) (hn : n ≤ 60) (hi : i < n) (hQ : Q (.inl (some (.int (kb (P i))))) f) : ky_cl adK 28 [.ref (a k), .int (nI i)] f Q := by
  have hO' := hO
  obtain ⟨h0, h6, h7, h8, h9, h10⟩ := hO
  refine ⟨Nat.le_of_ble_eq_true rfl, fun z => absurd z (by decide), ?_⟩; show ky_ok adK 28 0 [some (.ref (a k)), some (.int (nI i))] [] f 0 0 _
  repeat' (first | (refine kx25v hO' hn hi ?_; simp only [ky_aft, ky_vl, Nat.reduceAdd]) | (refine ky_ok_stp rfl ?_; simp (disch := first | omega | assumption) only [ky_stp, ky_inv, ky_ldi, ky_ldl, ky_ldd, ky_lda, ky_cl2, ky_st1, ky_st2, ky_s1i, ky_s2i, ky_s1l, ky_s2l, ky_sli, ky_s1f, ky_s2f, ky_s1d, ky_s2d, ky_sr, ky_sai, ky_sasi, ky_sasl, ky_sasr, ky_svr, ky_sv, ky_sv2, ky_s1, ky_cs, ky_pop, ky_nth, ky_snt, ky_obj, ky_ari, ky_arl, ky_arr, ky_arn, ky_fv, ky_rcv, List.map_cons, List.map_nil, List.drop_succ_cons, List.drop_zero, Value.category, Nat.reduceAdd, Nat.reduceSub, true_and, and_true, true_or, or_true, reduceCtorEq, ite_true, ite_false, eq_self, Nat.reduceEqDiff, Nat.reduceLeDiff, nI_add, nI_1, nI_leI, nI_ltI, nI_eq, nI_clamp, kz_m1, kz_mn, kz_mn2, kz_n0, kz_0n, kz_0, kz_le0, kz_0lt, false_implies, true_implies, not_false_eq_true, not_true_eq_false, Nat.zero_le, kb_0, kz_10, kz_of, ky_sw, kz_mx, kz_mi, h0, h6, h7, h8, h9, h10]) | (refine ⟨vp_in_nI (by omega) (by omega), ?_⟩) | (refine ⟨fun zc => ?_, fun zc => ?_⟩ <;> try (exfalso; omega)) | fail)
  · rw [kb_f (by assumption)]; exact hQ
  · rw [kb_t (by assumption)]; exact hQ
theorem kx29 (hO : kO a k f n N L P F G) (hn : n ≤ 60) (hi : i < n) (hQ : Q (.inl (some (.int (kb (F i))))) f) : ky_cl adK 29 [.ref (a k), .int (nI i)] f Q := by
  have hO' := hO
  obtain ⟨h0, h6, h7, h8, h9, h10⟩ := hO
  refine ⟨Nat.le_of_ble_eq_true rfl, fun z => absurd z (by decide), ?_⟩; show ky_ok adK 29 0 [some (.ref (a k)), some (.int (nI i))] [] f 0 0 _
  repeat' (first | (refine kx25v hO' hn hi ?_; simp only [ky_aft, ky_vl, Nat.reduceAdd]) | (refine ky_ok_stp rfl ?_; simp (disch := first | omega | assumption) only [ky_stp, ky_inv, ky_ldi, ky_ldl, ky_ldd, ky_lda, ky_cl2, ky_st1, ky_st2, ky_s1i, ky_s2i, ky_s1l, ky_s2l, ky_sli, ky_s1f, ky_s2f, ky_s1d, ky_s2d, ky_sr, ky_sai, ky_sasi, ky_sasl, ky_sasr, ky_svr, ky_sv, ky_sv2, ky_s1, ky_cs, ky_pop, ky_nth, ky_snt, ky_obj, ky_ari, ky_arl, ky_arr, ky_arn, ky_fv, ky_rcv, List.map_cons, List.map_nil, List.drop_succ_cons, List.drop_zero, Value.category, Nat.reduceAdd, Nat.reduceSub, true_and, and_true, true_or, or_true, reduceCtorEq, ite_true, ite_false, eq_self, Nat.reduceEqDiff, Nat.reduceLeDiff, nI_add, nI_1, nI_leI, nI_ltI, nI_eq, nI_clamp, kz_m1, kz_mn, kz_mn2, kz_n0, kz_0n, kz_0, kz_le0, kz_0lt, false_implies, true_implies, not_false_eq_true, not_true_eq_false, Nat.zero_le, kb_0, kz_10, kz_of, ky_sw, kz_mx, kz_mi, h0, h6, h7, h8, h9, h10]) | (refine ⟨vp_in_nI (by omega) (by omega), ?_⟩) | (refine ⟨fun zc => ?_, fun zc => ?_⟩ <;> try (exfalso; omega)) | fail)
  · rw [kb_f (by assumption)]; exact hQ
  · rw [kb_t (by assumption)]; exact hQ
theorem kx30 (hO : kO a k f n N L P F G) (hn : n ≤ 60) (hi : i < n) (hQ : Q (.inl (some (.int (G i)))) f) : ky_cl adK 30 [.ref (a k), .int (nI i)] f Q := by
  have hO' := hO
  obtain ⟨h0, h6, h7, h8, h9, h10⟩ := hO
  refine ⟨Nat.le_of_ble_eq_true rfl, fun z => absurd z (by decide), ?_⟩; show ky_ok adK 30 0 [some (.ref (a k)), some (.int (nI i))] [] f 0 0 _
  repeat' (first | (refine kx25v hO' hn hi ?_; simp only [ky_aft, ky_vl, Nat.reduceAdd]) | (refine ky_ok_stp rfl ?_; simp (disch := first | omega | assumption) only [ky_stp, ky_inv, ky_ldi, ky_ldl, ky_ldd, ky_lda, ky_cl2, ky_st1, ky_st2, ky_s1i, ky_s2i, ky_s1l, ky_s2l, ky_sli, ky_s1f, ky_s2f, ky_s1d, ky_s2d, ky_sr, ky_sai, ky_sasi, ky_sasl, ky_sasr, ky_svr, ky_sv, ky_sv2, ky_s1, ky_cs, ky_pop, ky_nth, ky_snt, ky_obj, ky_ari, ky_arl, ky_arr, ky_arn, ky_fv, ky_rcv, List.map_cons, List.map_nil, List.drop_succ_cons, List.drop_zero, Value.category, Nat.reduceAdd, Nat.reduceSub, true_and, and_true, true_or, or_true, reduceCtorEq, ite_true, ite_false, eq_self, Nat.reduceEqDiff, Nat.reduceLeDiff, nI_add, nI_1, nI_leI, nI_ltI, nI_eq, nI_clamp, kz_m1, kz_mn, kz_mn2, kz_n0, kz_0n, kz_0, kz_le0, kz_0lt, false_implies, true_implies, not_false_eq_true, not_true_eq_false, Nat.zero_le, kb_0, kz_10, kz_of, ky_sw, kz_mx, kz_mi, h0, h6, h7, h8, h9, h10]) | (refine ⟨vp_in_nI (by omega) (by omega), ?_⟩) | (refine ⟨fun zc => ?_, fun zc => ?_⟩ <;> try (exfalso; omega)) | fail)
  exact hQ
theorem kx32 (hO : kO a k f n N L P F G) (hn : n ≤ 60) (hj : j ≤ n) (hx : x = nI j - 1) (hQ : Q (.inl (some (.int (nI (kE L (kLv L j) j (n - j)))))) f) : ky_cl adK 32 [.ref (a k), .int x] f Q := by
  subst hx
  have hO' := hO
  obtain ⟨h0, h6, h7, h8, h9, h10⟩ := hO
  have loop : ∀ m i, i + m = n → Q (.inl (some (.int (nI (kE L (kLv L j) i m))))) f → ky_ok adK 32 10 [some (.ref (a k)), some (.int (nI j - 1)), some (.int (kLv L j)), some (.int (nI i))] [] f 0 0 Q := by
    intro m
    induction m with
    | zero =>
      intro i hi hq
      repeat' (first | (refine ky_ok_stp rfl ?_; simp (disch := first | omega | assumption) only [ky_stp, ky_inv, ky_ldi, ky_ldl, ky_ldd, ky_lda, ky_cl2, ky_st1, ky_st2, ky_s1i, ky_s2i, ky_s1l, ky_s2l, ky_sli, ky_s1f, ky_s2f, ky_s1d, ky_s2d, ky_sr, ky_sai, ky_sasi, ky_sasl, ky_sasr, ky_svr, ky_sv, ky_sv2, ky_s1, ky_cs, ky_pop, ky_nth, ky_snt, ky_obj, ky_ari, ky_arl, ky_arr, ky_arn, ky_fv, ky_rcv, List.map_cons, List.map_nil, List.drop_succ_cons, List.drop_zero, Value.category, Nat.reduceAdd, Nat.reduceSub, true_and, and_true, true_or, or_true, reduceCtorEq, ite_true, ite_false, eq_self, Nat.reduceEqDiff, Nat.reduceLeDiff, nI_add, nI_1, nI_leI, nI_ltI, nI_eq, nI_clamp, kz_m1, kz_mn, kz_mn2, kz_n0, kz_0n, kz_0, kz_le0, kz_0lt, false_implies, true_implies, not_false_eq_true, not_true_eq_false, Nat.zero_le, kb_0, kz_10, kz_of, ky_sw, kz_mx, kz_mi, h0, h6, h7, h8, h9, h10]) | (refine ⟨vp_in_nI (by omega) (by omega), ?_⟩) | (refine ⟨fun zc => ?_, fun zc => ?_⟩ <;> try (exfalso; omega)) | fail)
      have e : i = n := by omega
      subst e
      exact hq
    | succ m ih =>
      intro i hi hq
      rw [kE] at hq
      repeat' (first | (refine ih (i + 1) (by omega) ?_) | (refine kx27 hO' hn (show i < n by omega) ?_; simp only [ky_aft, ky_vl, Nat.reduceAdd]) | (refine ky_ok_stp rfl ?_; simp (disch := first | omega | assumption) only [ky_stp, ky_inv, ky_ldi, ky_ldl, ky_ldd, ky_lda, ky_cl2, ky_st1, ky_st2, ky_s1i, ky_s2i, ky_s1l, ky_s2l, ky_sli, ky_s1f, ky_s2f, ky_s1d, ky_s2d, ky_sr, ky_sai, ky_sasi, ky_sasl, ky_sasr, ky_svr, ky_sv, ky_sv2, ky_s1, ky_cs, ky_pop, ky_nth, ky_snt, ky_obj, ky_ari, ky_arl, ky_arr, ky_arn, ky_fv, ky_rcv, List.map_cons, List.map_nil, List.drop_succ_cons, List.drop_zero, Value.category, Nat.reduceAdd, Nat.reduceSub, true_and, and_true, true_or, or_true, reduceCtorEq, ite_true, ite_false, eq_self, Nat.reduceEqDiff, Nat.reduceLeDiff, nI_add, nI_1, nI_leI, nI_ltI, nI_eq, nI_clamp, kz_m1, kz_mn, kz_mn2, kz_n0, kz_0n, kz_0, kz_le0, kz_0lt, false_implies, true_implies, not_false_eq_true, not_true_eq_false, Nat.zero_le, kb_0, kz_10, kz_of, ky_sw, kz_mx, kz_mi, h0, h6, h7, h8, h9, h10]) | (refine ⟨vp_in_nI (by omega) (by omega), ?_⟩) | (refine ⟨fun zc => ?_, fun zc => ?_⟩ <;> try (exfalso; omega)) | fail)
      · rw [if_pos (by assumption)] at hq; exact hq
      · rw [if_neg (by assumption)] at hq; exact hq
  refine ⟨Nat.le_of_ble_eq_true rfl, fun z => absurd z (by decide), ?_⟩; show ky_ok adK 32 0 [some (.ref (a k)), some (.int (nI j - 1)), none, none] [] f 0 0 _
  repeat' (first | (refine loop (n - j) j (by omega) hQ) | (refine kx27j hO' hn hj ?_; simp only [ky_aft, ky_vl, Nat.reduceAdd]) | (refine ky_ok_stp rfl ?_; simp (disch := first | omega | assumption) only [ky_stp, ky_inv, ky_ldi, ky_ldl, ky_ldd, ky_lda, ky_cl2, ky_st1, ky_st2, ky_s1i, ky_s2i, ky_s1l, ky_s2l, ky_sli, ky_s1f, ky_s2f, ky_s1d, ky_s2d, ky_sr, ky_sai, ky_sasi, ky_sasl, ky_sasr, ky_svr, ky_sv, ky_sv2, ky_s1, ky_cs, ky_pop, ky_nth, ky_snt, ky_obj, ky_ari, ky_arl, ky_arr, ky_arn, ky_fv, ky_rcv, List.map_cons, List.map_nil, List.drop_succ_cons, List.drop_zero, Value.category, Nat.reduceAdd, Nat.reduceSub, true_and, and_true, true_or, or_true, reduceCtorEq, ite_true, ite_false, eq_self, Nat.reduceEqDiff, Nat.reduceLeDiff, nI_add, nI_1, nI_leI, nI_ltI, nI_eq, nI_clamp, kz_m1, kz_mn, kz_mn2, kz_n0, kz_0n, kz_0, kz_le0, kz_0lt, false_implies, true_implies, not_false_eq_true, not_true_eq_false, Nat.zero_le, kb_0, kz_10, kz_of, ky_sw, kz_mx, kz_mi, h0, h6, h7, h8, h9, h10, Int32.sub_add_cancel]) | (refine ⟨vp_in_nI (by omega) (by omega), ?_⟩) | (refine ⟨fun zc => ?_, fun zc => ?_⟩ <;> try (exfalso; omega)) | fail)
end KXO
