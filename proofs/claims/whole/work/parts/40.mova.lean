/-! ## an outline in which a branch is moved: it is as it may be -/
theorem kE_in (L : Nat → Int32) (lv : Int32) : ∀ m i j, i ≤ j → j < kE L lv i m → lv < L j
  | 0, i, j, h1, h2 => by rw [kE] at h2; omega
  | m + 1, i, j, h1, h2 => by
    rw [kE] at h2
    by_cases e : lv < L i
    · rw [if_pos e] at h2
      by_cases e2 : i = j
      · subst e2; exact e
      · exact kE_in L lv m (i + 1) j (by omega) h2
    · rw [if_neg e] at h2; omega
theorem kE_at (L : Nat → Int32) (lv : Int32) : ∀ m i, kE L lv i m < i + m → ¬ lv < L (kE L lv i m)
  | 0, i, h => by rw [kE] at h; omega
  | m + 1, i, h => by
    rw [kE] at h ⊢
    by_cases e : lv < L i
    · rw [if_pos e] at h ⊢; exact kE_at L lv m (i + 1) (by omega)
    · rw [if_neg e]; exact e
theorem kE_min (L : Nat → Int32) (lv : Int32) : ∀ m i j, i ≤ j → j < i + m → ¬ lv < L j → kE L lv i m ≤ j
  | 0, i, j, h1, h2, _ => by omega
  | m + 1, i, j, h1, h2, h3 => by
    rw [kE]
    by_cases e : lv < L i
    · rw [if_pos e]
      by_cases e2 : i = j
      · subst e2; exact absurd e h3
      · exact kE_min L lv m (i + 1) j (by omega) (by omega) h3
    · rw [if_neg e]; exact h1
/-- levels as they may be -/
def kOv (n : Nat) (V : Nat → Nat) : Prop := (0 < n → V 0 = 1) ∧ (∀ i, i + 1 < n → V (i + 1) ≤ V i + 1) ∧ ∀ i, i < n → 1 ≤ V i ∧ V i ≤ 6
theorem kZo_ov {z : kZ} (h : kZo z) : kOv z.n (kV z.R) := ⟨h.l0, h.ls, fun i hi => (h.lv i hi).2⟩
theorem kZ_lt {z : kZ} (h : kZo z) {i j : Nat} (hi : i < z.n) (hj : j < z.n) : (kL z.R i < kL z.R j) = (kV z.R i < kV z.R j) := by
  obtain ⟨e1, a1, a6⟩ := h.lv i hi
  obtain ⟨e2, b1, b6⟩ := h.lv j hj
  rw [e1, e2]
  exact propext (nI_ltI (by omega) (by omega))
/-- a branch, by levels -/
theorem kEnd_V {z : kZ} (h : kZo z) {p : Nat} (hp : p < z.n) : (∀ j, p < j → j < kEnd z p → kV z.R p < kV z.R j) ∧ (kEnd z p < z.n → kV z.R (kEnd z p) ≤ kV z.R p) ∧ ∀ j, p < j → j < z.n → kV z.R j ≤ kV z.R p → kEnd z p ≤ j := by
  have hle := kEnd_le hp
  refine ⟨fun j h1 h2 => ?_, fun h1 => ?_, fun j h1 h2 h3 => ?_⟩
  · have := kE_in (kL z.R) (kL z.R p) (z.n - (p + 1)) (p + 1) j h1 h2
    rwa [kZ_lt h hp (by omega)] at this
  · have := kE_at (kL z.R) (kL z.R p) (z.n - (p + 1)) (p + 1) (by unfold kEnd at h1; omega)
    change ¬ kL z.R p < kL z.R (kEnd z p) at this
    rw [kZ_lt h hp h1] at this
    omega
  · refine kE_min (kL z.R) (kL z.R p) (z.n - (p + 1)) (p + 1) j h1 (by omega) ?_
    rw [kZ_lt h hp h2]; omega
/-- a branch is taken out -/
theorem kOv_rm {n p e : Nat} {V : Nat → Nat} (h : kOv n V) (hp : p < e) (he : e ≤ n) (hE : e < n → V e ≤ V p) : kOv (n - (e - p)) (fun j => if j < p then V j else V (j + (e - p))) := by
  obtain ⟨h0, h1, h2⟩ := h
  refine ⟨fun hn => ?_, fun i hi => ?_, fun i hi => ?_⟩
  · show (if 0 < p then V 0 else V (0 + (e - p))) = 1
    by_cases e0 : 0 < p
    · rw [if_pos e0]; exact h0 (by omega)
    · have ee : 0 + (e - p) = e := by omega
      rw [if_neg e0, ee]
      have a := h0 (by omega)
      have b := hE (by omega)
      have c := (h2 e (by omega)).1
      have : p = 0 := by omega
      rw [this] at b; omega
  · show (if i + 1 < p then V (i + 1) else V (i + 1 + (e - p))) ≤ (if i < p then V i else V (i + (e - p))) + 1
    by_cases e1 : i + 1 < p
    · rw [if_pos e1, if_pos (by omega)]; exact h1 i (by omega)
    · rw [if_neg e1]
      by_cases e2 : i < p
      · rw [if_pos e2]
        have ee : i + 1 + (e - p) = e := by omega
        rw [ee]
        have a := hE (by omega)
        have b := h1 i (by omega)
        have : i + 1 = p := by omega
        rw [this] at b; omega
      · rw [if_neg e2, show i + 1 + (e - p) = i + (e - p) + 1 by omega]; exact h1 _ (by omega)
  · show 1 ≤ (if i < p then V i else V (i + (e - p))) ∧ (if i < p then V i else V (i + (e - p))) ≤ 6
    split
    · exact h2 i (by omega)
    · exact h2 _ (by omega)
/-- a block is put in -/
theorem kOv_in {n m q l : Nat} {V B : Nat → Nat} (h : kOv n V) (hq : q ≤ n) (hm : 0 < m) (hB0 : B 0 = l) (hB1 : ∀ i, i + 1 < m → B (i + 1) ≤ B i + 1) (hB2 : ∀ i, i < m → l ≤ B i ∧ B i ≤ 6) (hl : 1 ≤ l) (q0 : q = 0 → l = 1) (q1 : 0 < q → l ≤ V (q - 1) + 1) (q2 : q < n → V q ≤ l + 1) : kOv (n + m) (fun j => if j < q then V j else if j < q + m then B (j - q) else V (j - m)) := by
  obtain ⟨h0, h1, h2⟩ := h
  refine ⟨fun hn => ?_, fun i hi => ?_, fun i hi => ?_⟩
  · show (if 0 < q then V 0 else if 0 < q + m then B (0 - q) else V (0 - m)) = 1
    by_cases e0 : 0 < q
    · rw [if_pos e0]; exact h0 (by omega)
    · rw [if_neg e0, if_pos (by omega), Nat.zero_sub, hB0]; exact q0 (by omega)
  · show (if i + 1 < q then V (i + 1) else if i + 1 < q + m then B (i + 1 - q) else V (i + 1 - m)) ≤ (if i < q then V i else if i < q + m then B (i - q) else V (i - m)) + 1
    by_cases e1 : i + 1 < q
    · rw [if_pos e1, if_pos (by omega)]; exact h1 i (by omega)
    · rw [if_neg e1]
      by_cases e2 : i < q
      · rw [if_pos e2, if_pos (by omega)]
        have a := q1 (by omega)
        have ee : i + 1 - q = 0 := by omega
        have ef : q - 1 = i := by omega
        rw [ee, hB0]; rw [ef] at a; exact a
      · rw [if_neg e2]
        by_cases e3 : i + 1 < q + m
        · rw [if_pos e3, if_pos (by omega), show i + 1 - q = i - q + 1 by omega]; exact hB1 _ (by omega)
        · rw [if_neg e3]
          by_cases e4 : i < q + m
          · rw [if_pos e4]
            have a := (hB2 (i - q) (by omega)).1
            have b := q2 (by omega)
            rw [show i + 1 - m = q by omega]; omega
          · rw [if_neg e4, show i + 1 - m = i - m + 1 by omega]; exact h1 _ (by omega)
  · show 1 ≤ (if i < q then V i else if i < q + m then B (i - q) else V (i - m)) ∧ (if i < q then V i else if i < q + m then B (i - q) else V (i - m)) ≤ 6
    split
    · exact h2 i (by omega)
    · split
      · have := hB2 (i - q) (by omega); omega
      · exact h2 _ (by omega)
/-- which heading stands at j when the branch from p to e goes to t -/
def kMi (p e t j : Nat) : Nat :=
  if t ≤ p then (if j < t then j else if j + p < t + e then j + p - t else if j < e then j + p - e else j)
  else (if j < p then j else if j + e < p + t then j + e - p else if j < t then j + e - t else j)
theorem kMi_r {p e t j : Nat} (he : p < e) (h : t ≤ p ∨ e ≤ t) : kMr p e t (kMi p e t j) j := by
  unfold kMr kMi
  by_cases e1 : t ≤ p
  · rw [if_pos e1]
    refine Or.inl ⟨e1, ?_⟩
    split
    · omega
    · split
      · omega
      · split <;> omega
  · rw [if_neg e1]
    refine Or.inr ⟨by omega, ?_⟩
    split
    · omega
    · split
      · omega
      · split <;> omega
def kTo2 (z : kZ) (t w : Nat) : Nat := kPB (kL z.R) z.n (t + 1) w
def kNl (z : kZ) (t w : Nat) : Nat := if w = 0 ∨ w = 1 then kV z.R t else kV z.R t + 1
/-- the outline in which p's branch is moved -/
def kMz (z : kZ) (p t w : Nat) : kZ := ⟨z.n, fun j => if p ≤ kMi p (kEnd z p) (kTo2 z t w) j ∧ kMi p (kEnd z p) (kTo2 z t w) j < kEnd z p then ksh (kLB (kL z.R) (t + 1) w - kL z.R p) (z.R (kMi p (kEnd z p) (kTo2 z t w) j)) else z.R (kMi p (kEnd z p) (kTo2 z t w) j), z.S⟩
theorem kTo2_e (z : kZ) (t w : Nat) : kTo2 z t w = if w = 0 then t else if w = 2 then t + 1 else kEnd z t := by
  unfold kTo2 kPB kEnd
  rfl
theorem kG_le {V : Nat → Nat} {L : Nat → Int32} : ∀ m i g, (∀ j, i ≤ j → j < i + m → L j = nI (V j) ∧ V j ≤ 6) → g ≤ 6 → ∃ x, kG L i m (nI g) = nI x ∧ x ≤ 6 ∧ g ≤ x ∧ ∀ j, i ≤ j → j < i + m → V j ≤ x
  | 0, i, g, _, hg => ⟨g, rfl, hg, Nat.le_refl _, fun j h1 h2 => by omega⟩
  | m + 1, i, g, h, hg => by
    obtain ⟨e1, e2⟩ := h i (Nat.le_refl _) (by omega)
    have e3 : (nI g < L i) = (g < V i) := by rw [e1]; exact propext (nI_ltI (by omega) (by omega))
    rw [kG]
    simp only [e3]
    by_cases hlt : g < V i
    · rw [if_pos hlt, e1]
      obtain ⟨x, x1, x2, x3, x4⟩ := kG_le (V := V) (L := L) m (i + 1) (V i) (fun j z1 z2 => h j (by omega) (by omega)) e2
      refine ⟨x, x1, x2, by omega, fun j z1 z2 => ?_⟩
      by_cases e : j = i
      · subst e; exact x3
      · exact x4 j (by omega) (by omega)
    · rw [if_neg hlt]
      obtain ⟨x, x1, x2, x3, x4⟩ := kG_le (V := V) (L := L) m (i + 1) g (fun j z1 z2 => h j (by omega) (by omega)) hg
      refine ⟨x, x1, x2, x3, fun j z1 z2 => ?_⟩
      by_cases e : j = i
      · subst e; omega
      · exact x4 j (by omega) (by omega)
theorem nI_sb2 {a b c : Nat} (h : c ≤ a) : nI a + (nI b - nI c) = nI (a + b - c) := by
  have e : a + b - c + c = a + b := by omega
  rw [Int32.sub_eq_add_neg, ← Int32.add_assoc, ← Int32.sub_eq_add_neg, nI_add, ← e, ← nI_add, Int32.add_sub_cancel, e]
/-- a move that is not refused -/
theorem kMR_0 {z : kZ} (h : kZo z) {p t w : Nat} (hp : p < z.n) (ht : t < z.n) (h0 : kMR z p t w = 0) : (t < p ∨ kEnd z p ≤ t) ∧ ∀ j, p ≤ j → j < kEnd z p → kV z.R j + kNl z t w ≤ 6 + kV z.R p := by
  have hE := kEnd_le hp
  have hEV := kEnd_V h hp
  obtain ⟨ep, p1, p6⟩ := h.lv p hp
  obtain ⟨et, t1, t6⟩ := h.lv t ht
  obtain ⟨x, x1, x2, x3, x4⟩ := kG_le (V := kV z.R) (L := kL z.R) (kEnd z p - p) p 0 (fun j z1 z2 => ⟨(h.lv j (by omega)).1, (h.lv j (by omega)).2.2⟩) (by decide)
  have hlb : kLB (kL z.R) (t + 1) w = nI (kNl z t w) := by
    unfold kLB kNl
    by_cases e : w = 0 ∨ w = 1
    · rw [if_pos e, if_pos e]; exact et
    · rw [if_neg e, if_neg e]
      show kL z.R t + 1 = _
      rw [et, show (1 : Int32) = nI 1 from rfl, nI_add]
  have hxp : kV z.R p ≤ x := x4 p (Nat.le_refl _) (by omega)
  have hnl : kNl z t w ≤ 7 := by unfold kNl; split <;> omega
  unfold kMR at h0
  by_cases e1 : p ≤ t ∧ t < kEnd z p
  · rw [if_pos e1] at h0; exact absurd h0 (by decide)
  · rw [if_neg e1] at h0
    refine ⟨by omega, fun j z1 z2 => ?_⟩
    have x1' : kG (kL z.R) p (kEnd z p - p) 0 = nI x := x1
    rw [x1', hlb, ep, nI_sb2 hxp, show (6 : Int32) = nI 6 from rfl] at h0
    by_cases e2 : nI 6 < nI (x + kNl z t w - kV z.R p)
    · rw [if_pos e2] at h0; exact absurd h0 (by decide)
    · rw [nI_ltI (by omega) (by omega)] at e2
      have := x4 j z1 (by omega)
      omega
theorem kMR_to {z : kZ} (h : kZo z) {p t w : Nat} (hp : p < z.n) (ht : t < z.n) (hd : t < p ∨ kEnd z p ≤ t) : (kTo2 z t w ≤ p ∨ kEnd z p ≤ kTo2 z t w) ∧ kTo2 z t w ≤ z.n := by
  have hE := kEnd_le hp
  have hT := kEnd_le ht
  have hEV := kEnd_V h hp
  have hTV := kEnd_V h ht
  rw [kTo2_e]
  split
  · omega
  · split
    · omega
    · rcases hd with hd | hd
      · by_cases e : kEnd z t ≤ p
        · omega
        · have a := hTV.1 p hd (by omega)
          by_cases en : kEnd z t < z.n
          · have b := hTV.2.1 en
            have c := hEV.2.2 (kEnd z t) (by omega) en (by omega)
            omega
          · omega
      · omega
theorem kMz_ok {z : kZ} (h : kZo z) {p t w : Nat} (hp : p < z.n) (ht : t < z.n) (h0 : kMR z p t w = 0) : kZo (kMz z p t w) := by
  have hE := kEnd_le hp
  have hT := kEnd_le ht
  have hEV := kEnd_V h hp
  have hTV := kEnd_V h ht
  obtain ⟨hd, h6⟩ := kMR_0 h hp ht h0
  obtain ⟨hto, hton⟩ := kMR_to (w := w) h hp ht hd
  obtain ⟨ep, p1, p6⟩ := h.lv p hp
  obtain ⟨et, t1, t6⟩ := h.lv t ht
  have hoe := kTo2_e z t w
  have hov := kZo_ov h
  have hlb : kLB (kL z.R) (t + 1) w = nI (kNl z t w) := by
    unfold kLB kNl
    by_cases e : w = 0 ∨ w = 1
    · rw [if_pos e, if_pos e]; exact et
    · rw [if_neg e, if_neg e]
      show kL z.R t + 1 = _
      rw [et, show (1 : Int32) = nI 1 from rfl, nI_add]
  have hnl : kV z.R t ≤ kNl z t w ∧ kNl z t w ≤ kV z.R t + 1 ∧ (w = 0 → kNl z t w = kV z.R t) ∧ (w = 2 → kNl z t w = kV z.R t + 1) := by
    unfold kNl
    split
    · omega
    · omega
  generalize hl : kNl z t w = l at hlb h6 hnl
  generalize hto' : kTo2 z t w = to at hto hton hoe
  have hmi : ∀ j, j < z.n → kMi p (kEnd z p) to j < z.n := fun j hj => by
    have := kMi_r (j := j) (show p < kEnd z p by omega) hto
    unfold kMr at this; omega
  -- the levels
  have hlev : ∀ j, j < z.n → kL (kMz z p t w).R j = nI (if p ≤ kMi p (kEnd z p) to j ∧ kMi p (kEnd z p) to j < kEnd z p then kV z.R (kMi p (kEnd z p) to j) + l - kV z.R p else kV z.R (kMi p (kEnd z p) to j)) := by
    intro j hj
    have hi := hmi j hj
    show (if p ≤ kMi p (kEnd z p) (kTo2 z t w) j ∧ kMi p (kEnd z p) (kTo2 z t w) j < kEnd z p then ksh (kLB (kL z.R) (t + 1) w - kL z.R p) (z.R (kMi p (kEnd z p) (kTo2 z t w) j)) else z.R (kMi p (kEnd z p) (kTo2 z t w) j)).2.1 = _
    rw [hto']
    obtain ⟨ei, i1, i6⟩ := h.lv _ hi
    split
    · next hc =>
      show kL z.R (kMi p (kEnd z p) to j) + (kLB (kL z.R) (t + 1) w - kL z.R p) = _
      have hle : kV z.R p ≤ kV z.R (kMi p (kEnd z p) to j) := by
        by_cases e : kMi p (kEnd z p) to j = p
        · rw [e]; exact Nat.le_refl _
        · exact Nat.le_of_lt (hEV.1 _ (by omega) hc.2)
      rw [ei, hlb, ep, nI_sb2 hle]
    · exact ei
  -- the seams
  have sD : 0 < p → kV z.R p ≤ kV z.R (p - 1) + 1 := fun h => by
    have := hov.2.1 (p - 1) (by omega)
    rwa [show p - 1 + 1 = p by omega] at this
  have sA : 0 < to → l ≤ kV z.R (to - 1) + 1 := fun h0 => by
    by_cases w0 : w = 0
    · rw [if_pos w0] at hoe
      have := hov.2.1 (t - 1) (by omega)
      rw [show t - 1 + 1 = t by omega] at this
      rw [hoe, hnl.2.2.1 w0]; exact this
    · rw [if_neg w0] at hoe
      by_cases w2 : w = 2
      · rw [if_pos w2] at hoe
        rw [hoe, Nat.add_sub_cancel]; omega
      · rw [if_neg w2] at hoe
        by_cases e : to - 1 = t
        · rw [e]; omega
        · have := hTV.1 (to - 1) (by omega) (by omega)
          omega
  have sB : to < z.n → kV z.R to ≤ l + 1 := fun h0 => by
    by_cases w0 : w = 0
    · rw [if_pos w0] at hoe
      rw [hoe]; omega
    · rw [if_neg w0] at hoe
      by_cases w2 : w = 2
      · rw [if_pos w2] at hoe
        have := hov.2.1 t (by omega)
        rw [hoe]; omega
      · rw [if_neg w2] at hoe
        have := hTV.2.1 (by omega)
        rw [hoe]; omega
  have sC : to = kEnd z p → 0 < p → l ≤ kV z.R (p - 1) + 1 := fun h0 hp0 => by
    have d := sD hp0
    by_cases w0 : w = 0
    · rw [if_pos w0] at hoe
      have a := hEV.2.1 (by omega)
      have b := hnl.2.2.1 w0
      rw [← h0, hoe] at a
      omega
    · rw [if_neg w0] at hoe
      by_cases w2 : w = 2
      · rw [if_pos w2] at hoe; omega
      · rw [if_neg w2] at hoe
        by_cases e : p - 1 = t
        · rw [e]; omega
        · have := hTV.1 (p - 1) (by omega) (by omega)
          omega
  have hov2 : kOv z.n (fun j => if p ≤ kMi p (kEnd z p) to j ∧ kMi p (kEnd z p) to j < kEnd z p then kV z.R (kMi p (kEnd z p) to j) + l - kV z.R p else kV z.R (kMi p (kEnd z p) to j)) := by
    have hrm := kOv_rm hov (show p < kEnd z p by omega) hE.2 hEV.2.1
    have hin := kOv_in (m := kEnd z p - p) (q := if to ≤ p then to else to - (kEnd z p - p)) (l := l) (B := fun i => kV z.R (p + i) + l - kV z.R p) hrm (by split <;> omega) (by omega) (by show kV z.R (p + 0) + l - kV z.R p = l; rw [Nat.add_zero]; omega)
      (fun i hi => by
        show kV z.R (p + (i + 1)) + l - kV z.R p ≤ kV z.R (p + i) + l - kV z.R p + 1
        have a := hov.2.1 (p + i) (by omega)
        rw [show p + (i + 1) = p + i + 1 by omega]
        have b : kV z.R p ≤ kV z.R (p + i) := by
          by_cases e : i = 0
          · subst e; exact Nat.le_refl _
          · exact Nat.le_of_lt (hEV.1 _ (by omega) (by omega))
        omega)
      (fun i hi => by
        show l ≤ kV z.R (p + i) + l - kV z.R p ∧ kV z.R (p + i) + l - kV z.R p ≤ 6
        have a := h6 (p + i) (by omega) (by omega)
        have b : kV z.R p ≤ kV z.R (p + i) := by
          by_cases e : i = 0
          · subst e; exact Nat.le_refl _
          · exact Nat.le_of_lt (hEV.1 _ (by omega) (by omega))
        omega) (by omega)
      (fun hq0 => by
        -- the front
        by_cases w0 : w = 0
        · rw [if_pos w0] at hoe
          have hl' := hnl.2.2.1 w0
          by_cases e1 : to ≤ p
          · rw [if_pos e1] at hq0
            have : t = 0 := by omega
            rw [hl', this]; exact hov.1 (by omega)
          · rw [if_neg e1] at hq0
            have hp0 : p = 0 := by omega
            have hte : t = kEnd z p := by omega
            have a := hEV.2.1 (by omega)
            have b := hov.1 (by omega)
            have c : kV z.R p = 1 := by rw [hp0]; exact b
            rw [← hte] at a
            omega
        · rw [if_neg w0] at hoe
          by_cases w2 : w = 2
          · rw [if_pos w2] at hoe
            by_cases e1 : to ≤ p
            · rw [if_pos e1] at hq0; omega
            · rw [if_neg e1] at hq0; omega
          · rw [if_neg w2] at hoe
            by_cases e1 : to ≤ p
            · rw [if_pos e1] at hq0; omega
            · rw [if_neg e1] at hq0; omega)
      (fun hq1 => by
        show l ≤ (if (if to ≤ p then to else to - (kEnd z p - p)) - 1 < p then kV z.R ((if to ≤ p then to else to - (kEnd z p - p)) - 1) else kV z.R ((if to ≤ p then to else to - (kEnd z p - p)) - 1 + (kEnd z p - p))) + 1
        by_cases e1 : to ≤ p
        · rw [if_pos e1] at hq1 ⊢
          rw [if_pos (by omega)]; exact sA hq1
        · rw [if_neg e1] at hq1 ⊢
          by_cases e2 : to = kEnd z p
          · have e3 : to - (kEnd z p - p) = p := by omega
            rw [e3] at hq1 ⊢
            rw [if_pos (by omega)]; exact sC e2 hq1
          · rw [if_neg (by omega), show to - (kEnd z p - p) - 1 + (kEnd z p - p) = to - 1 by omega]; exact sA (by omega))
      (fun hq2 => by
        show (if (if to ≤ p then to else to - (kEnd z p - p)) < p then kV z.R (if to ≤ p then to else to - (kEnd z p - p)) else kV z.R ((if to ≤ p then to else to - (kEnd z p - p)) + (kEnd z p - p))) ≤ l + 1
        by_cases e1 : to ≤ p
        · rw [if_pos e1] at hq2 ⊢
          by_cases e2 : to < p
          · rw [if_pos e2]; exact sB (by omega)
          · have e3 : to = p := by omega
            rw [if_neg e2, show to + (kEnd z p - p) = kEnd z p by omega]
            have a := hEV.2.1 (by omega)
            have b := sB (by omega)
            rw [e3] at b; omega
        · rw [if_neg e1] at hq2 ⊢
          rw [if_neg (by omega), show to - (kEnd z p - p) + (kEnd z p - p) = to by omega]; exact sB (by omega))
    have hn : z.n - (kEnd z p - p) + (kEnd z p - p) = z.n := by omega
    rw [hn] at hin
    have hpt : ∀ j, j < z.n → (if p ≤ kMi p (kEnd z p) to j ∧ kMi p (kEnd z p) to j < kEnd z p then kV z.R (kMi p (kEnd z p) to j) + l - kV z.R p else kV z.R (kMi p (kEnd z p) to j)) = (fun j => if j < (if to ≤ p then to else to - (kEnd z p - p)) then (fun j => if j < p then kV z.R j else kV z.R (j + (kEnd z p - p))) j else if j < (if to ≤ p then to else to - (kEnd z p - p)) + (kEnd z p - p) then (fun i => kV z.R (p + i) + l - kV z.R p) (j - (if to ≤ p then to else to - (kEnd z p - p))) else (fun j => if j < p then kV z.R j else kV z.R (j + (kEnd z p - p))) (j - (kEnd z p - p))) j := by
      intro j hj
      have hr := kMi_r (j := j) (show p < kEnd z p by omega) hto
      generalize kMi p (kEnd z p) to j = i at hr ⊢
      unfold kMr at hr
      show _ = if j < (if to ≤ p then to else to - (kEnd z p - p)) then (if j < p then kV z.R j else kV z.R (j + (kEnd z p - p))) else if j < (if to ≤ p then to else to - (kEnd z p - p)) + (kEnd z p - p) then kV z.R (p + (j - (if to ≤ p then to else to - (kEnd z p - p)))) + l - kV z.R p else (if j - (kEnd z p - p) < p then kV z.R (j - (kEnd z p - p)) else kV z.R (j - (kEnd z p - p) + (kEnd z p - p)))
      by_cases e1 : to ≤ p
      · rw [if_pos e1]
        by_cases c1 : j < to
        · rw [if_pos c1, if_neg (show ¬ (p ≤ i ∧ i < kEnd z p) by omega), if_pos (show j < p by omega), show i = j by omega]
        · rw [if_neg c1]
          by_cases c2 : j < to + (kEnd z p - p)
          · rw [if_pos c2, if_pos (by omega), show p + (j - to) = i by omega]
          · rw [if_neg c2, if_neg (by omega)]
            by_cases c3 : j - (kEnd z p - p) < p
            · rw [if_pos c3, show i = j - (kEnd z p - p) by omega]
            · rw [if_neg c3, show i = j - (kEnd z p - p) + (kEnd z p - p) by omega]
      · rw [if_neg e1]
        by_cases c1 : j < to - (kEnd z p - p)
        · rw [if_pos c1, if_neg (by omega)]
          by_cases c3 : j < p
          · rw [if_pos c3, show i = j by omega]
          · rw [if_neg c3, show i = j + (kEnd z p - p) by omega]
        · rw [if_neg c1]
          by_cases c2 : j < to - (kEnd z p - p) + (kEnd z p - p)
          · rw [if_pos c2, if_pos (by omega), show p + (j - (to - (kEnd z p - p))) = i by omega]
          · rw [if_neg c2, if_neg (by omega), if_neg (by omega), show i = j - (kEnd z p - p) + (kEnd z p - p) by omega]
    refine ⟨fun h0 => ?_, fun i hi => ?_, fun i hi => ?_⟩
    · show (if _ then _ else _) = 1
      rw [hpt 0 h0]; exact hin.1 h0
    · show (if _ then _ else _) ≤ (if _ then _ else _) + 1
      rw [hpt i (by omega), hpt (i + 1) hi]; exact hin.2.1 i hi
    · show 1 ≤ (if _ then _ else _) ∧ (if _ then _ else _) ≤ 6
      rw [hpt i hi]; exact hin.2.2 i hi
  have hkv : ∀ j, j < z.n → kV (kMz z p t w).R j = if p ≤ kMi p (kEnd z p) to j ∧ kMi p (kEnd z p) to j < kEnd z p then kV z.R (kMi p (kEnd z p) to j) + l - kV z.R p else kV z.R (kMi p (kEnd z p) to j) := by
    intro j hj
    unfold kV
    rw [hlev j hj]
    have := (hov2.2.2 j hj).2
    exact nI_clamp (by exact Nat.lt_of_le_of_lt this (by decide))
  have hnm : ∀ j, ((kMz z p t w).R j).1 = (z.R (kMi p (kEnd z p) to j)).1 ∧ ((kMz z p t w).R j).2.2 = (z.R (kMi p (kEnd z p) to j)).2.2 := by
    intro j
    show (if p ≤ kMi p (kEnd z p) (kTo2 z t w) j ∧ kMi p (kEnd z p) (kTo2 z t w) j < kEnd z p then ksh (kLB (kL z.R) (t + 1) w - kL z.R p) (z.R (kMi p (kEnd z p) (kTo2 z t w) j)) else z.R (kMi p (kEnd z p) (kTo2 z t w) j)).1 = _ ∧ (if p ≤ kMi p (kEnd z p) (kTo2 z t w) j ∧ kMi p (kEnd z p) (kTo2 z t w) j < kEnd z p then ksh (kLB (kL z.R) (t + 1) w - kL z.R p) (z.R (kMi p (kEnd z p) (kTo2 z t w) j)) else z.R (kMi p (kEnd z p) (kTo2 z t w) j)).2.2 = _
    rw [hto']
    split
    · exact ⟨rfl, rfl⟩
    · exact ⟨rfl, rfl⟩
  refine ⟨h.n60, fun i hi => ?_, fun h0 => ?_, fun i hi => ?_, fun i hi => ?_, h.st, fun i hi => ?_, h.fs⟩
  · rw [hkv i hi]; exact ⟨hlev i hi, hov2.2.2 i hi⟩
  · rw [hkv 0 h0]; exact hov2.1 h0
  · have hi' : i + 1 < z.n := hi
    rw [hkv i (by omega), hkv (i + 1) hi]; exact hov2.2.1 i hi
  · obtain ⟨v, v1, v2⟩ := h.wd _ (hmi i hi)
    exact ⟨v, by unfold kN at v1 ⊢; rw [(hnm i).1]; exact v1, v2⟩
  · have := h.fl _ (hmi i hi)
    unfold kPl kFo at this ⊢
    rw [(hnm i).2]; exact this
