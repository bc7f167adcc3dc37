/-! ## acts -/
/-- two states alike -/
def kSe (s s' : kSt) : Prop := kZe s.o s'.o ∧ s'.un = s.un ∧ (∀ j, j < s.un → kZe (s.u j) (s'.u j)) ∧ (∀ i, i < 2 → s.v i = none ∧ s'.v i = none ∨ ∃ z z', s.v i = some z ∧ s'.v i = some z' ∧ kZe z z') ∧ s'.ac = s.ac ∧ s'.bl = s.bl ∧ (∀ i, i < s.bl → s'.bc i = s.bc i) ∧ s'.wl = s.wl ∧ (∀ i, i < s.wl → s'.wc i = s.wc i) ∧ s'.er = s.er ∧ s'.ep = s.ep
theorem kSe_v (v : Nat → Option kZ) (i : Nat) : v i = none ∧ v i = none ∨ ∃ z z', v i = some z ∧ v i = some z' ∧ kZe z z' := by
  cases h : v i with
  | none => exact Or.inl ⟨rfl, rfl⟩
  | some z => exact Or.inr ⟨z, z, rfl, rfl, kZe_rf z⟩
theorem kSe_rf (s : kSt) : kSe s s := ⟨kZe_rf _, rfl, fun _ _ => kZe_rf _, fun i _ => kSe_v s.v i, rfl, rfl, fun _ _ => rfl, rfl, fun _ _ => rfl, rfl, rfl⟩
def kBeg' (s : kSt) (z : kZ) : kSt := (s.setA (upd s.ac 0 (s.ac 0 + 1))).setU (min (s.un + 1) 8) (kCons z s.u)
def kBeg (s : kSt) : kSt := kBeg' s s.o
theorem kAct_e {s : kSt} {z' wm w : kZ} (he : kZe s.o z') (hm : kZe wm w) : kSe ((kBeg s).setO wm) ((kBeg' s z').setO w) := by
  refine ⟨hm, rfl, fun j hj => ?_, fun i _ => kSe_v s.v i, rfl, rfl, fun _ _ => rfl, rfl, fun _ _ => rfl, rfl, rfl⟩
  show kZe (kCons s.o s.u j) (kCons z' s.u j)
  unfold kCons
  split
  · exact he
  · exact kZe_rf _
theorem kZo_mk {z : kZ} (h : kZo z) {n : Nat} {R : Nat → kR} {V : Nat → Nat} (hn : n ≤ 60) (hl : ∀ j, j < n → kL R j = nI (V j)) (hv : kOv n V) (hw : ∀ j, j < n → ∃ w, kN R j = kNW w ∧ kWd w) (hf : ∀ j, j < n → k01 (kPl R j) ∧ k01 (kFo R j)) : kZo ⟨n, R, z.S⟩ := by
  have hkv : ∀ j, j < n → kV R j = V j := by
    intro j hj
    unfold kV
    rw [hl j hj]
    have := (hv.2.2 j hj).2
    exact nI_clamp (by omega)
  refine ⟨hn, fun i hi => ?_, fun h0 => ?_, fun i hi => ?_, hw, h.st, hf, h.fs⟩
  · have hi' : i < n := hi
    show kL R i = nI (kV R i) ∧ 1 ≤ kV R i ∧ kV R i ≤ 6
    rw [hkv i hi']; exact ⟨hl i hi', hv.2.2 i hi'⟩
  · show kV R 0 = 1
    rw [hkv 0 h0]; exact hv.1 h0
  · have hi' : i + 1 < n := hi
    show kV R (i + 1) ≤ kV R i + 1
    rw [hkv i (by omega), hkv (i + 1) hi']; exact hv.2.1 i hi'
theorem kZo_src {z : kZ} (h : kZo z) {n : Nat} {R : Nat → kR} (hm : ∀ j, j < n → ∃ i, i < z.n ∧ (R j).1 = (z.R i).1 ∧ (R j).2.2 = (z.R i).2.2) : (∀ j, j < n → ∃ w, kN R j = kNW w ∧ kWd w) ∧ ∀ j, j < n → k01 (kPl R j) ∧ k01 (kFo R j) := by
  refine ⟨fun j hj => ?_, fun j hj => ?_⟩
  · obtain ⟨i, hi, e1, e2⟩ := hm j hj
    obtain ⟨w, w1, w2⟩ := h.wd i hi
    exact ⟨w, e1.trans w1, w2⟩
  · obtain ⟨i, hi, e1, e2⟩ := hm j hj
    have := h.fl i hi
    unfold kPl kFo at this ⊢
    rw [e2]; exact this
theorem ksh_s (d : Int32) (r : kR) : (ksh d r).1 = r.1 ∧ (ksh d r).2.2 = r.2.2 := ⟨rfl, rfl⟩
theorem nI_m1 {x : Nat} (h : 1 ≤ x) : nI x + (-1) = nI (x - 1) := by
  have := nI_sub (a := x) (b := 1) h
  rw [← this]; exact kz_m1 _
/-! what the acts make -/
def kRmz (z : kZ) (p : Nat) : kZ := ⟨z.n - (kEnd z p - p), fun j => if j < p then z.R j else z.R (j + (kEnd z p - p)), z.S⟩
theorem kRmz_ok {z : kZ} (h : kZo z) {p : Nat} (hp : p < z.n) : kZo (kRmz z p) := by
  have hE := kEnd_le hp
  have hn := h.n60
  have hm : ∀ j, j < z.n - (kEnd z p - p) → ∃ i, i < z.n ∧ (if j < p then z.R j else z.R (j + (kEnd z p - p))) = z.R i := by
    intro j hj
    by_cases e : j < p
    · exact ⟨j, by omega, if_pos e⟩
    · exact ⟨j + (kEnd z p - p), by omega, if_neg e⟩
  obtain ⟨s1, s2⟩ := kZo_src h (R := fun j => if j < p then z.R j else z.R (j + (kEnd z p - p))) (n := z.n - (kEnd z p - p)) fun j hj => by
    obtain ⟨i, i1, i2⟩ := hm j hj
    exact ⟨i, i1, by show (if j < p then z.R j else z.R (j + (kEnd z p - p))).1 = _; rw [i2], by show (if j < p then z.R j else z.R (j + (kEnd z p - p))).2.2 = _; rw [i2]⟩
  refine kZo_mk h (by omega) (fun j hj => ?_) (kOv_rm (kZo_ov h) (show p < kEnd z p by omega) hE.2 (kEnd_V h hp).2.1) s1 s2
  show (if j < p then z.R j else z.R (j + (kEnd z p - p))).2.1 = nI (if j < p then kV z.R j else kV z.R (j + (kEnd z p - p)))
  by_cases e : j < p
  · rw [if_pos e, if_pos e]; exact (h.lv j (by omega)).1
  · rw [if_neg e, if_neg e]; exact (h.lv _ (by omega)).1
def kDsz (z : kZ) (p : Nat) : kZ := ⟨z.n - 1, fun j => if j < p then z.R j else if j + 1 < kEnd z p then ksh (-1) (z.R (j + 1)) else z.R (j + 1), z.S⟩
theorem kDsz_ok {z : kZ} (h : kZo z) {p : Nat} (hp : p < z.n) : kZo (kDsz z p) := by
  have hE := kEnd_le hp
  have hn := h.n60
  obtain ⟨E1, E2, E3⟩ := kEnd_V h hp
  obtain ⟨o1, o2, o3⟩ := kZo_ov h
  obtain ⟨s1, s2⟩ := kZo_src h (R := fun j => if j < p then z.R j else if j + 1 < kEnd z p then ksh (-1) (z.R (j + 1)) else z.R (j + 1)) (n := z.n - 1) fun j hj => by
    show ∃ i, i < z.n ∧ (if j < p then z.R j else if j + 1 < kEnd z p then ksh (-1) (z.R (j + 1)) else z.R (j + 1)).1 = _ ∧ (if j < p then z.R j else if j + 1 < kEnd z p then ksh (-1) (z.R (j + 1)) else z.R (j + 1)).2.2 = _
    by_cases e : j < p
    · exact ⟨j, by omega, by rw [if_pos e], by rw [if_pos e]⟩
    · rw [if_neg e]
      by_cases e2 : j + 1 < kEnd z p
      · rw [if_pos e2]; exact ⟨j + 1, by omega, (ksh_s _ _).1, (ksh_s _ _).2⟩
      · rw [if_neg e2]; exact ⟨j + 1, by omega, rfl, rfl⟩
  refine kZo_mk h (V := fun j => if j < p then kV z.R j else if j + 1 < kEnd z p then kV z.R (j + 1) - 1 else kV z.R (j + 1)) (by omega) (fun j hj => ?_) ⟨fun h0 => ?_, fun i hi => ?_, fun i hi => ?_⟩ s1 s2
  · show (if j < p then z.R j else if j + 1 < kEnd z p then ksh (-1) (z.R (j + 1)) else z.R (j + 1)).2.1 = nI (if j < p then kV z.R j else if j + 1 < kEnd z p then kV z.R (j + 1) - 1 else kV z.R (j + 1))
    by_cases e : j < p
    · rw [if_pos e, if_pos e]; exact (h.lv j (by omega)).1
    · rw [if_neg e, if_neg e]
      by_cases e2 : j + 1 < kEnd z p
      · rw [if_pos e2, if_pos e2]
        obtain ⟨q1, q2, q3⟩ := h.lv (j + 1) (by omega)
        show kL z.R (j + 1) + (-1) = _
        rw [q1, nI_m1 q2]
      · rw [if_neg e2, if_neg e2]; exact (h.lv _ (by omega)).1
  · show (if 0 < p then kV z.R 0 else if 0 + 1 < kEnd z p then kV z.R (0 + 1) - 1 else kV z.R (0 + 1)) = 1
    have a0 := o1 (by omega)
    by_cases e : 0 < p
    · rw [if_pos e]; exact a0
    · have hp0 : p = 0 := by omega
      rw [if_neg e]
      have a1 := o2 0 (by omega)
      have a2 := (o3 (0 + 1) (by omega)).1
      by_cases e2 : 0 + 1 < kEnd z p
      · rw [if_pos e2]
        have a3 := E1 (0 + 1) (by omega) e2
        rw [hp0] at a3; omega
      · rw [if_neg e2]
        have e3 : kEnd z p = 0 + 1 := by omega
        have a3 := E2 (by omega)
        rw [e3, hp0] at a3; omega
  · show (if i + 1 < p then kV z.R (i + 1) else if i + 1 + 1 < kEnd z p then kV z.R (i + 1 + 1) - 1 else kV z.R (i + 1 + 1)) ≤ (if i < p then kV z.R i else if i + 1 < kEnd z p then kV z.R (i + 1) - 1 else kV z.R (i + 1)) + 1
    have a1 := o2 i (by omega)
    have a2 := o2 (i + 1) (by omega)
    have a3 := o3 (i + 1) (by omega)
    by_cases c1 : i + 1 < p
    · rw [if_pos c1, if_pos (by omega)]; exact a1
    · rw [if_neg c1]
      by_cases c2 : i < p
      · rw [if_pos c2]
        have ep : i + 1 = p := by omega
        rw [ep] at a1 a2 ⊢
        by_cases c3 : p + 1 < kEnd z p
        · rw [if_pos c3]; omega
        · rw [if_neg c3]
          have ee : kEnd z p = p + 1 := by omega
          have := E2 (by omega)
          rw [ee] at this; omega
      · rw [if_neg c2]
        by_cases c3 : i + 1 + 1 < kEnd z p
        · rw [if_pos c3, if_pos (by omega)]; omega
        · rw [if_neg c3]
          by_cases c4 : i + 1 < kEnd z p
          · rw [if_pos c4]
            have ee : kEnd z p = i + 1 + 1 := by omega
            have b1 := E2 (by omega)
            have b2 := E1 (i + 1) (by omega) c4
            rw [ee] at b1; omega
          · rw [if_neg c4]; exact a2
  · show 1 ≤ (if i < p then kV z.R i else if i + 1 < kEnd z p then kV z.R (i + 1) - 1 else kV z.R (i + 1)) ∧ (if i < p then kV z.R i else if i + 1 < kEnd z p then kV z.R (i + 1) - 1 else kV z.R (i + 1)) ≤ 6
    have a1 := o3 i (by omega)
    have a2 := o3 (i + 1) (by omega)
    have a3 := o3 p hp
    by_cases c1 : i < p
    · rw [if_pos c1]; exact a1
    · rw [if_neg c1]
      by_cases c2 : i + 1 < kEnd z p
      · rw [if_pos c2]
        have := E1 (i + 1) (by omega) c2
        omega
      · rw [if_neg c2]; exact a2
/-- a branch is shifted by one level -/
def kShz (z : kZ) (p : Nat) (d : Int32) : kZ := ⟨z.n, fun j => if p ≤ j ∧ j < kEnd z p then ksh d (z.R j) else z.R j, z.S⟩
theorem kShz_s {z : kZ} (h : kZo z) {p : Nat} {d : Int32} : (∀ j, j < z.n → ∃ w, kN (kShz z p d).R j = kNW w ∧ kWd w) ∧ ∀ j, j < z.n → k01 (kPl (kShz z p d).R j) ∧ k01 (kFo (kShz z p d).R j) := by
  refine kZo_src h fun j hj => ⟨j, hj, ?_⟩
  show (if p ≤ j ∧ j < kEnd z p then ksh d (z.R j) else z.R j).1 = _ ∧ (if p ≤ j ∧ j < kEnd z p then ksh d (z.R j) else z.R j).2.2 = _
  split
  · exact ksh_s _ _
  · exact ⟨rfl, rfl⟩
theorem kPro_ok {z : kZ} (h : kZo z) {p : Nat} (hp : p < z.n) (h1 : kV z.R p ≠ 1) : kZo (kShz z p (-1)) := by
  have hE := kEnd_le hp
  obtain ⟨E1, E2, E3⟩ := kEnd_V h hp
  obtain ⟨o1, o2, o3⟩ := kZo_ov h
  obtain ⟨s1, s2⟩ := kShz_s h (p := p) (d := -1)
  have hp0 : p ≠ 0 := fun e => h1 (by rw [e]; exact o1 (by omega))
  have a3 := o3 p hp
  refine kZo_mk h (V := fun j => if p ≤ j ∧ j < kEnd z p then kV z.R j - 1 else kV z.R j) h.n60 (fun j hj => ?_) ⟨fun h0 => ?_, fun i hi => ?_, fun i hi => ?_⟩ s1 s2
  · show (if p ≤ j ∧ j < kEnd z p then ksh (-1) (z.R j) else z.R j).2.1 = nI (if p ≤ j ∧ j < kEnd z p then kV z.R j - 1 else kV z.R j)
    obtain ⟨q1, q2, q3⟩ := h.lv j hj
    by_cases e : p ≤ j ∧ j < kEnd z p
    · rw [if_pos e, if_pos e]
      show kL z.R j + (-1) = _
      rw [q1, nI_m1 q2]
    · rw [if_neg e, if_neg e]; exact q1
  · show (if p ≤ 0 ∧ 0 < kEnd z p then kV z.R 0 - 1 else kV z.R 0) = 1
    rw [if_neg (by omega)]; exact o1 h0
  · show (if p ≤ i + 1 ∧ i + 1 < kEnd z p then kV z.R (i + 1) - 1 else kV z.R (i + 1)) ≤ (if p ≤ i ∧ i < kEnd z p then kV z.R i - 1 else kV z.R i) + 1
    have hi' : i + 1 < z.n := hi
    have a1 := o2 i hi'
    by_cases c1 : p ≤ i + 1 ∧ i + 1 < kEnd z p
    · rw [if_pos c1]
      by_cases c2 : p ≤ i ∧ i < kEnd z p
      · rw [if_pos c2]; omega
      · rw [if_neg c2]; omega
    · rw [if_neg c1]
      by_cases c2 : p ≤ i ∧ i < kEnd z p
      · rw [if_pos c2]
        have ee : kEnd z p = i + 1 := by omega
        have b1 := E2 (by omega)
        rw [ee] at b1
        have b2 : kV z.R p ≤ kV z.R i := by
          by_cases e : i = p
          · rw [e]; exact Nat.le_refl _
          · exact Nat.le_of_lt (E1 i (by omega) c2.2)
        omega
      · rw [if_neg c2]; exact a1
  · show 1 ≤ (if p ≤ i ∧ i < kEnd z p then kV z.R i - 1 else kV z.R i) ∧ (if p ≤ i ∧ i < kEnd z p then kV z.R i - 1 else kV z.R i) ≤ 6
    have a1 := o3 i hi
    by_cases c1 : p ≤ i ∧ i < kEnd z p
    · rw [if_pos c1]
      have b2 : kV z.R p ≤ kV z.R i := by
        by_cases e : i = p
        · rw [e]; exact Nat.le_refl _
        · exact Nat.le_of_lt (E1 i (by omega) c1.2)
      omega
    · rw [if_neg c1]; exact a1
theorem kDem_ok {z : kZ} (h : kZo z) {p : Nat} (hp : p < z.n) (hp0 : p ≠ 0) (hpre : kV z.R p ≤ kV z.R (p - 1)) (h6 : ∀ j, p ≤ j → j < kEnd z p → kV z.R j < 6) : kZo (kShz z p 1) := by
  have hE := kEnd_le hp
  obtain ⟨E1, E2, E3⟩ := kEnd_V h hp
  obtain ⟨o1, o2, o3⟩ := kZo_ov h
  obtain ⟨s1, s2⟩ := kShz_s h (p := p) (d := 1)
  refine kZo_mk h (V := fun j => if p ≤ j ∧ j < kEnd z p then kV z.R j + 1 else kV z.R j) h.n60 (fun j hj => ?_) ⟨fun h0 => ?_, fun i hi => ?_, fun i hi => ?_⟩ s1 s2
  · show (if p ≤ j ∧ j < kEnd z p then ksh 1 (z.R j) else z.R j).2.1 = nI (if p ≤ j ∧ j < kEnd z p then kV z.R j + 1 else kV z.R j)
    obtain ⟨q1, q2, q3⟩ := h.lv j hj
    by_cases e : p ≤ j ∧ j < kEnd z p
    · rw [if_pos e, if_pos e]
      show kL z.R j + 1 = _
      rw [q1, kz_1, nI_add]
    · rw [if_neg e, if_neg e]; exact q1
  · show (if p ≤ 0 ∧ 0 < kEnd z p then kV z.R 0 + 1 else kV z.R 0) = 1
    rw [if_neg (by omega)]; exact o1 h0
  · show (if p ≤ i + 1 ∧ i + 1 < kEnd z p then kV z.R (i + 1) + 1 else kV z.R (i + 1)) ≤ (if p ≤ i ∧ i < kEnd z p then kV z.R i + 1 else kV z.R i) + 1
    have hi' : i + 1 < z.n := hi
    have a1 := o2 i hi'
    by_cases c1 : p ≤ i + 1 ∧ i + 1 < kEnd z p
    · rw [if_pos c1]
      by_cases c2 : p ≤ i ∧ i < kEnd z p
      · rw [if_pos c2]; omega
      · rw [if_neg c2]
        have ep : i + 1 = p := by omega
        rw [ep, show i = p - 1 by omega]; omega
    · rw [if_neg c1]
      by_cases c2 : p ≤ i ∧ i < kEnd z p
      · rw [if_pos c2]; omega
      · rw [if_neg c2]; exact a1
  · show 1 ≤ (if p ≤ i ∧ i < kEnd z p then kV z.R i + 1 else kV z.R i) ∧ (if p ≤ i ∧ i < kEnd z p then kV z.R i + 1 else kV z.R i) ≤ 6
    have a1 := o3 i hi
    by_cases c1 : p ≤ i ∧ i < kEnd z p
    · rw [if_pos c1]
      have := h6 i c1.1 c1.2
      omega
    · rw [if_neg c1]; exact a1
