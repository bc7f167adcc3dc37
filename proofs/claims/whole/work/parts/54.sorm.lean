/-! ## children sorted: the outline -/
def kLj (z : kZ) (j : Nat) : Nat := if j = 0 then 0 else kV z.R (j - 1)
def kEj (z : kZ) (j : Nat) : Nat := kE (kL z.R) (kLv (kL z.R) j) j (z.n - j)
def kRa (i m : Nat) : List Nat := (List.range m).map (i + ·)
def kBr (z : kZ) (c : Nat) : List Nat := kRa c (kEnd z c - c)
def kOrg (z : kZ) (j : Nat) (sl : List Nat) : List Nat := kRa 0 j ++ (sl.flatMap (kBr z) ++ kRa (kEj z j) (z.n - kEj z j))
theorem kRa_len (i m : Nat) : (kRa i m).length = m := by unfold kRa; rw [List.length_map, List.length_range]
theorem kRa_s (i m : Nat) : kRa i (m + 1) = i :: kRa (i + 1) m := by
  unfold kRa
  rw [List.range_succ_eq_map, List.map_cons, List.map_map]
  congr 1
  refine List.map_congr_left fun x _ => ?_
  show i + (x + 1) = i + 1 + x
  omega
theorem kRa_app : ∀ (k i m : Nat), kRa i k ++ kRa (i + k) m = kRa i (k + m)
  | 0, i, m => by rw [Nat.add_zero, Nat.zero_add]; rfl
  | k + 1, i, m => by
    rw [kRa_s, List.cons_append, show i + (k + 1) = i + 1 + k by omega, kRa_app k (i + 1) m, show k + 1 + m = (k + m) + 1 by omega, kRa_s]
theorem kRa_get {i m t : Nat} (h : t < m) : (kRa i m).getD t 0 = i + t := by
  unfold kRa
  rw [List.getD_eq_getElem?_getD, List.getElem?_map, List.getElem?_range h]; rfl
theorem kRa_mem {i m x : Nat} (h : x ∈ kRa i m) : i ≤ x ∧ x < i + m := by
  unfold kRa at h
  obtain ⟨t, ht, rfl⟩ := List.mem_map.mp h
  rw [List.mem_range] at ht
  show i ≤ i + t ∧ i + t < i + m
  omega
theorem kEj_V {z : kZ} (h : kZo z) {j : Nat} (hj : j ≤ z.n) : (∀ i, j ≤ i → i < kEj z j → kLj z j < kV z.R i) ∧ (kEj z j < z.n → kV z.R (kEj z j) ≤ kLj z j) ∧ j ≤ kEj z j ∧ kEj z j ≤ z.n := by
  have hle := kE_le (kL z.R) (kLv (kL z.R) j) (z.n - j) j
  have hlv : kLv (kL z.R) j = nI (kLj z j) := by
    unfold kLj
    cases j with
    | zero => rfl
    | succ t => rw [if_neg (by omega), Nat.add_sub_cancel]; exact (h.lv t (by omega)).1
  have hl6 : kLj z j ≤ 6 := by
    unfold kLj
    split
    · omega
    · exact (h.lv (j - 1) (by omega)).2.2
  have hc : ∀ i, i < z.n → (kLv (kL z.R) j < kL z.R i) = (kLj z j < kV z.R i) := fun i hi => by
    obtain ⟨e1, e2, e3⟩ := h.lv i hi
    rw [hlv, e1]; exact propext (nI_ltI (by omega) (by omega))
  refine ⟨fun i h1 h2 => ?_, fun h1 => ?_, hle.1, by unfold kEj; omega⟩
  · have := kE_in (kL z.R) (kLv (kL z.R) j) (z.n - j) j i h1 h2
    rwa [hc i (by unfold kEj at h2; omega)] at this
  · have := kE_at (kL z.R) (kLv (kL z.R) j) (z.n - j) j (by unfold kEj at h1; omega)
    change ¬ kLv (kL z.R) j < kL z.R (kEj z j) at this
    rw [hc _ h1] at this
    omega
theorem kCh_a (L : Nat → Int32) (lv : Int32) : ∀ m i l, kCh L lv i m l = l ++ kCh L lv i m []
  | 0, i, l => by rw [kCh, kCh, List.append_nil]
  | m + 1, i, l => by
    rw [kCh, kCh]
    by_cases e : L i = lv
    · rw [if_pos e, if_pos e, kCh_a L lv m (i + 1) (l ++ [i]), List.nil_append, kCh_a L lv m (i + 1) [i], List.append_assoc]
    · rw [if_neg e, if_neg e]; exact kCh_a L lv m (i + 1) l
theorem kCh_sk (L : Nat → Int32) (lv : Int32) : ∀ k i m, (∀ t, i ≤ t → t < i + k → ¬ L t = lv) → kCh L lv i (k + m) [] = kCh L lv (i + k) m []
  | 0, i, m, _ => by rw [Nat.zero_add, Nat.add_zero]
  | k + 1, i, m, h => by
    rw [show k + 1 + m = (k + m) + 1 by omega, kCh, if_neg (h i (Nat.le_refl _) (by omega)), kCh_sk L lv k (i + 1) m fun t z1 z2 => h t (by omega) (by omega), show i + 1 + k = i + (k + 1) by omega]
/-- the children's branches are all that lies behind -/
theorem kCh_part {z : kZ} (h : kZo z) {j : Nat} (hj : j ≤ z.n) : ∀ m i, j ≤ i → i + m = kEj z j → (m ≠ 0 → kV z.R i = kLj z j + 1) → (kCh (kL z.R) (nI (kLj z j + 1)) i m []).flatMap (kBr z) = kRa i m ∧ ∀ c ∈ kCh (kL z.R) (nI (kLj z j + 1)) i m [], c < z.n ∧ kV z.R c = kLj z j + 1 := by
  obtain ⟨E1, E2, E3, E4⟩ := kEj_V h hj
  intro m
  induction m using Nat.strongRecOn with
  | _ m ih =>
    intro i hji him hi
    cases m with
    | zero => exact ⟨rfl, fun c hc => by cases hc⟩
    | succ m =>
      have hiv := hi (by omega)
      have hin : i < z.n := by omega
      have hE := kEnd_le hin
      obtain ⟨F1, F2, F3⟩ := kEnd_V h hin
      obtain ⟨e1, e2, e3⟩ := h.lv i hin
      have hee : kEnd z i ≤ kEj z j := by
        by_cases g : kEj z j < z.n
        · have := E2 g
          exact F3 _ (by omega) g (by omega)
        · omega
      have hL : kL z.R i = nI (kLj z j + 1) := by rw [e1, hiv]
      have hsk : ∀ t, i + 1 ≤ t → t < i + 1 + (kEnd z i - (i + 1)) → ¬ kL z.R t = nI (kLj z j + 1) := by
        intro t h1 h2 h3
        obtain ⟨g1, g2, g3⟩ := h.lv t (by omega)
        have := F1 t (by omega) (by omega)
        rw [g1, nI_eq (by omega) (by omega)] at h3
        omega
      have hm : m = (kEnd z i - (i + 1)) + (kEj z j - kEnd z i) := by omega
      have hnext := ih (kEj z j - kEnd z i) (by omega) (kEnd z i) (by omega) (by omega) fun g => by
        have a1 := E1 (kEnd z i) (by omega) (by omega)
        have a2 := F2 (by omega)
        omega
      have hcs : kCh (kL z.R) (nI (kLj z j + 1)) i (m + 1) [] = i :: kCh (kL z.R) (nI (kLj z j + 1)) (kEnd z i) (kEj z j - kEnd z i) [] := by
        rw [kCh, if_pos hL, List.nil_append, kCh_a, hm, kCh_sk _ _ _ _ _ hsk, show i + 1 + (kEnd z i - (i + 1)) = kEnd z i by omega]; rfl
      rw [hcs]
      refine ⟨?_, fun c hc => ?_⟩
      · rw [List.flatMap_cons, hnext.1]
        unfold kBr
        have := kRa_app (kEnd z i - i) i (kEj z j - kEnd z i)
        rw [show i + (kEnd z i - i) = kEnd z i by omega, show kEnd z i - i + (kEj z j - kEnd z i) = m + 1 by omega] at this
        exact this
      · rcases List.mem_cons.mp hc with rfl | hc
        · exact ⟨hin, hiv⟩
        · exact hnext.2 c hc
theorem kCl_part {z : kZ} (h : kZo z) {j : Nat} (hj : j ≤ z.n) : (kCl z j).flatMap (kBr z) = kRa j (kEj z j - j) ∧ ∀ c ∈ kCl z j, c < z.n ∧ kV z.R c = kLj z j + 1 := by
  obtain ⟨E1, E2, E3, E4⟩ := kEj_V h hj
  have hlv : kLv (kL z.R) j + 1 = nI (kLj z j + 1) := by
    unfold kLj
    cases j with
    | zero => rfl
    | succ t =>
      rw [if_neg (by omega), Nat.add_sub_cancel]
      show kL z.R t + 1 = _
      rw [(h.lv t (by omega)).1, kz_1, nI_add]
  have := kCh_part h hj (kEj z j - j) j (Nat.le_refl _) (by omega) fun g => by
    have a1 := E1 j (Nat.le_refl _) (by omega)
    have hov := kZo_ov h
    unfold kLj at a1 ⊢
    by_cases e : j = 0
    · subst e; rw [if_pos rfl]; exact hov.1 (by omega)
    · rw [if_neg e] at a1 ⊢
      have := hov.2.1 (j - 1) (by omega)
      rw [show j - 1 + 1 = j by omega] at this
      omega
  unfold kCl
  rw [hlv]
  exact this
theorem kOrg_p {z : kZ} (h : kZo z) {j : Nat} (hj : j ≤ z.n) {sl : List Nat} (hp : sl.Perm (kCl z j)) : (kOrg z j sl).Perm (kRa 0 z.n) := by
  obtain ⟨E1, E2, E3, E4⟩ := kEj_V h hj
  have h1 : (sl.flatMap (kBr z)).Perm (kRa j (kEj z j - j)) := by
    rw [← (kCl_part h hj).1]
    exact List.Perm.flatMap_right _ hp
  unfold kOrg
  have h2 : (kRa 0 j ++ (kRa j (kEj z j - j) ++ kRa (kEj z j) (z.n - kEj z j))) = kRa 0 z.n := by
    have a := kRa_app (kEj z j - j) j (z.n - kEj z j)
    rw [show j + (kEj z j - j) = kEj z j by omega] at a
    rw [a]
    have b := kRa_app j 0 (kEj z j - j + (z.n - kEj z j))
    rw [Nat.zero_add] at b
    rw [b, show j + (kEj z j - j + (z.n - kEj z j)) = z.n by omega]
  rw [← h2]
  exact List.Perm.append_left _ (List.Perm.append_right _ h1)
/-- levels along a row of places -/
def kOk (V : Nat → Nat) : Nat → List Nat → Prop
  | _, [] => True
  | p, x :: r => V x ≤ p + 1 ∧ kOk V (V x) r
def kLl (V : Nat → Nat) : Nat → List Nat → Nat
  | p, [] => p
  | _, x :: r => kLl V (V x) r
theorem kOk_app {V : Nat → Nat} : ∀ (A B : List Nat) p, kOk V p A → kOk V (kLl V p A) B → kOk V p (A ++ B)
  | [], _, _, _, h => h
  | x :: A, B, p, h, h' => ⟨h.1, kOk_app A B (V x) h.2 h'⟩
theorem kLl_app {V : Nat → Nat} : ∀ (A B : List Nat) p, kLl V p (A ++ B) = kLl V (kLl V p A) B
  | [], _, _ => rfl
  | x :: A, B, p => kLl_app A B (V x)
theorem kOk_ra {V : Nat → Nat} : ∀ m i p, (m ≠ 0 → V i ≤ p + 1) → (∀ t, i ≤ t → t + 1 < i + m → V (t + 1) ≤ V t + 1) → kOk V p (kRa i m)
  | 0, _, _, _, _ => trivial
  | m + 1, i, p, h1, h2 => by
    rw [kRa_s]
    refine ⟨h1 (by omega), kOk_ra m (i + 1) (V i) (fun g => h2 i (Nat.le_refl _) (by omega)) fun t z1 z2 => h2 t (by omega) (by omega)⟩
theorem kLl_ra {V : Nat → Nat} : ∀ m i p, kLl V p (kRa i m) = if m = 0 then p else V (i + m - 1)
  | 0, _, _ => rfl
  | m + 1, i, p => by
    have e2 : ¬ m + 1 = 0 := by omega
    rw [kRa_s, kLl, kLl_ra m (i + 1) (V i), if_neg e2]
    by_cases e : m = 0
    · rw [if_pos e, e]; rfl
    · rw [if_neg e, show i + 1 + m - 1 = i + (m + 1) - 1 by omega]
theorem kOk_ge {V : Nat → Nat} : ∀ (A : List Nat) p t, kOk V p A → t + 1 < A.length → V (A.getD (t + 1) 0) ≤ V (A.getD t 0) + 1
  | [], _, _, _, h => by simp at h
  | [x], _, _, _, h => by simp at h
  | x :: y :: r, p, 0, h, _ => h.2.1
  | x :: y :: r, p, t + 1, h, hl => kOk_ge (y :: r) (V x) t h.2 (by simp only [List.length_cons] at hl ⊢; omega)
theorem kOk_fm {z : kZ} (h : kZo z) {lv : Nat} : ∀ (sl : List Nat) p, lv ≤ p → (∀ c ∈ sl, c < z.n ∧ kV z.R c = lv + 1) → kOk (kV z.R) p (sl.flatMap (kBr z)) ∧ lv ≤ kLl (kV z.R) p (sl.flatMap (kBr z))
  | [], p, hp, _ => ⟨trivial, hp⟩
  | c :: sl, p, hp, hc => by
    obtain ⟨c1, c2⟩ := hc c List.mem_cons_self
    have hE := kEnd_le c1
    obtain ⟨F1, F2, F3⟩ := kEnd_V h c1
    have hov := kZo_ov h
    have a1 : kOk (kV z.R) p (kBr z c) := kOk_ra _ _ _ (fun _ => by omega) fun t z1 z2 => hov.2.1 t (by omega)
    have a2 : lv ≤ kLl (kV z.R) p (kBr z c) := by
      unfold kBr
      rw [kLl_ra, if_neg (by omega)]
      by_cases e : c + (kEnd z c - c) - 1 = c
      · rw [e]; omega
      · have := F1 (c + (kEnd z c - c) - 1) (by omega) (by omega)
        omega
    obtain ⟨b1, b2⟩ := kOk_fm h sl (kLl (kV z.R) p (kBr z c)) a2 fun x hx => hc x (List.mem_cons_of_mem _ hx)
    rw [List.flatMap_cons]
    exact ⟨kOk_app _ _ _ a1 b1, by rw [kLl_app]; exact b2⟩
noncomputable def kSoz (z : kZ) (j b : Nat) : kZ := ⟨z.n, fun t => z.R ((kOrg z j (kSrt z b (kCl z j))).getD t 0), z.S⟩
theorem kSoz_ok {z : kZ} (h : kZo z) {j b : Nat} (hj : j ≤ z.n) : kZo (kSoz z j b) := by
  obtain ⟨E1, E2, E3, E4⟩ := kEj_V h hj
  have hov := kZo_ov h
  have hsp := kSrt_p z b (kCl z j)
  have hpm := kOrg_p h hj hsp
  have hlen : (kOrg z j (kSrt z b (kCl z j))).length = z.n := by rw [hpm.length_eq, kRa_len]
  have hlt : ∀ t, t < z.n → (kOrg z j (kSrt z b (kCl z j))).getD t 0 < z.n := fun t ht => by
    rw [List.getD_eq_getElem?_getD, List.getElem?_eq_getElem (by omega)]
    have := kRa_mem (hpm.mem_iff.mp (List.getElem_mem (show t < (kOrg z j (kSrt z b (kCl z j))).length by omega)))
    show (kOrg z j (kSrt z b (kCl z j)))[t] < z.n
    omega
  have hcl : ∀ c ∈ kSrt z b (kCl z j), c < z.n ∧ kV z.R c = kLj z j + 1 := fun c hc => (kCl_part h hj).2 c (hsp.mem_iff.mp hc)
  have hok : kOk (kV z.R) 0 (kOrg z j (kSrt z b (kCl z j))) := by
    have a1 : kOk (kV z.R) 0 (kRa 0 j) := kOk_ra _ _ _ (fun g => by rw [hov.1 (by omega)]; omega) fun t z1 z2 => hov.2.1 t (by omega)
    have a2 : kLl (kV z.R) 0 (kRa 0 j) = kLj z j := by
      rw [kLl_ra, Nat.zero_add]; rfl
    obtain ⟨b1, b2⟩ := kOk_fm h (kSrt z b (kCl z j)) (kLj z j) (Nat.le_refl _) hcl
    unfold kOrg
    refine kOk_app _ _ _ a1 ?_
    rw [a2]
    refine kOk_app _ _ _ b1 ?_
    refine kOk_ra _ _ _ (fun g => ?_) fun t z1 z2 => hov.2.1 t (by omega)
    have := E2 (by omega)
    omega
  unfold kSoz
  generalize kOrg z j (kSrt z b (kCl z j)) = O at hlen hlt hok ⊢
  obtain ⟨s1, s2⟩ := kZo_src h (R := fun t => z.R (O.getD t 0)) (n := z.n) fun t ht => ⟨O.getD t 0, hlt t ht, rfl, rfl⟩
  refine kZo_mk h (V := fun t => kV z.R (O.getD t 0)) h.n60 (fun t ht => (h.lv _ (hlt t ht)).1) ⟨fun h0 => ?_, fun i hi => kOk_ge O 0 i hok (by omega), fun i hi => hov.2.2 _ (hlt i hi)⟩ s1 s2
  show kV z.R (O.getD 0 0) = 1
  have a1 := (hov.2.2 _ (hlt 0 h0)).1
  cases O with
  | nil => simp at hlen; omega
  | cons x r =>
    have : kV z.R x ≤ 0 + 1 := hok.1
    have e : (x :: r).getD 0 0 = x := rfl
    rw [e] at a1 ⊢
    omega
