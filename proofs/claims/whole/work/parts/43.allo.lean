/-! ## new things: their addresses -/
/-- what was there is there still, but for X; addresses may be told anew -/
def kAl (a : Nat → Nat) (f : ky_H) (a' : Nat → Nat) (f' : ky_H) (X : Nat → Prop) : Prop := kI a' ∧ (∀ j, ¬ X j → f (a j) ≠ none → a' j = a j ∧ f' (a j) = f (a j)) ∧ a' 0 = a 0
theorem kAl_fr {a : Nat → Nat} {f f' : ky_H} {X : Nat → Prop} (ha : kI a) (h : kfr a f f' X) : kAl a f a f' X := ⟨ha, fun j hj _ => ⟨rfl, h j hj⟩, rfl⟩
theorem kAl_tr {a a1 a2 : Nat → Nat} {f f1 f2 : ky_H} {X Y Z : Nat → Prop} (h : kAl a f a1 f1 X) (h' : kAl a1 f1 a2 f2 Y) (hs : ∀ j, ¬ Z j → ¬ X j ∧ ¬ Y j) : kAl a f a2 f2 Z := by
  refine ⟨h'.1, fun j hj hf => ?_, h'.2.2.trans h.2.2⟩
  obtain ⟨hx, hy⟩ := hs j hj
  obtain ⟨e1, e2⟩ := h.2.1 j hx hf
  obtain ⟨e3, e4⟩ := h'.2.1 j hy (by rw [e1, e2]; exact hf)
  exact ⟨e3.trans e1, by rw [← e1, e4, e1, e2]⟩
theorem kAl_at {a a' : Nat → Nat} {f f' : ky_H} {X : Nat → Prop} {j : Nat} {e : ky_E} (h : kAl a f a' f' X) (hj : ¬ X j) (hf : f (a j) = some e) : a' j = a j ∧ f' (a' j) = some e := by
  obtain ⟨e1, e2⟩ := h.2.1 j hj (by rw [hf]; exact fun z => by cases z)
  exact ⟨e1, by rw [e1, e2, hf]⟩
theorem kI_sw {a : Nat → Nat} {f : ky_H} {q t : Nat} {e00 : ky_E} (ha : kI a) (hq : f q = none) (h00 : f (a 0) = some e00) (ht : 1 ≤ t) (e : ky_E) : ∃ a', kAl a f a' (ky_up f q e) (fun j => j = t) ∧ a' t = q := by
  refine ⟨fun j => if j = t then q else if a j = q then a t else a j, ⟨fun i j h => ?_, fun j hj hf => ?_, ?_⟩, if_pos rfl⟩
  · simp only at h
    by_cases i1 : i = t
    · rw [if_pos i1] at h
      by_cases j1 : j = t
      · rw [i1, j1]
      · rw [if_neg j1] at h
        by_cases j2 : a j = q
        · rw [if_pos j2] at h; exact absurd (ha _ _ (j2.trans h)) j1
        · rw [if_neg j2] at h; exact absurd h.symm j2
    · rw [if_neg i1] at h
      by_cases j1 : j = t
      · rw [if_pos j1] at h
        by_cases i2 : a i = q
        · rw [if_pos i2] at h; exact absurd (ha _ _ (i2.trans h.symm)) i1
        · rw [if_neg i2] at h; exact absurd h i2
      · rw [if_neg j1] at h
        by_cases i2 : a i = q
        · rw [if_pos i2] at h
          by_cases j2 : a j = q
          · exact ha _ _ (i2.trans j2.symm)
          · rw [if_neg j2] at h; exact absurd (ha _ _ h).symm j1
        · rw [if_neg i2] at h
          by_cases j2 : a j = q
          · rw [if_pos j2] at h; exact absurd (ha _ _ h) i1
          · rw [if_neg j2] at h; exact ha _ _ h
  · have hne : a j ≠ q := fun z => hf (by rw [z]; exact hq)
    exact ⟨by simp only; rw [if_neg hj, if_neg hne], kz_ne hne⟩
  · have hne : a 0 ≠ q := fun z => by rw [z, hq] at h00; cases h00
    simp only
    rw [if_neg (show ¬ 0 = t by omega), if_neg hne]
section KAL
variable {a a' : Nat → Nat} {f f' : ky_H} {X : Nat → Prop} {k len cap : Nat} {z : kZ} {c : Nat → Nat} {s : kSt}
theorem kZb_al (h : kZb a k f z) (hA : kAl a f a' f' X) (hX : ∀ j, k ≤ j → j ≤ k + 10 → ¬ X j) : kZb a' k f' z := by
  obtain ⟨⟨G, ⟨h0, h6, h7, h8, h9, h10⟩, hb⟩, s1, s2, s3, s4, s5, sb⟩ := h
  have e0 := kAl_at hA (hX k (by omega) (by omega)) h0
  have e1 := kAl_at hA (hX (k + 1) (by omega) (by omega)) s1
  have e2 := kAl_at hA (hX (k + 2) (by omega) (by omega)) s2
  have e3 := kAl_at hA (hX (k + 3) (by omega) (by omega)) s3
  have e4 := kAl_at hA (hX (k + 4) (by omega) (by omega)) s4
  have e5 := kAl_at hA (hX (k + 5) (by omega) (by omega)) s5
  have e6 := kAl_at hA (hX (k + 6) (by omega) (by omega)) h6
  have e7 := kAl_at hA (hX (k + 7) (by omega) (by omega)) h7
  have e8 := kAl_at hA (hX (k + 8) (by omega) (by omega)) h8
  have e9 := kAl_at hA (hX (k + 9) (by omega) (by omega)) h9
  have e10 := kAl_at hA (hX (k + 10) (by omega) (by omega)) h10
  refine ⟨⟨G, ⟨?_, e6.2, e7.2, e8.2, e9.2, e10.2⟩, hb⟩, ?_, e2.2, e3.2, e4.2, e5.2, sb⟩
  · rw [e0.2, e1.1, e6.1, e7.1, e8.1, e9.1, e10.1]
  · rw [e1.2, e2.1, e3.1, e4.1, e5.1]
theorem kB_al (h : kB a k f cap len c) (hA : kAl a f a' f' X) (h0 : ¬ X k) (h1 : ¬ X (k + 1)) : kB a' k f' cap len c := by
  obtain ⟨B, g0, g1, g2⟩ := h
  have e0 := kAl_at hA h0 g0
  have e1 := kAl_at hA h1 g1
  exact ⟨B, by rw [e0.2, e1.1], e1.2, g2⟩
theorem kNB_al {KD CT PX NL LV CH : Nat → Int32} (h : kNB a k f KD CT PX NL LV CH) (hA : kAl a f a' f' X) (hX : ∀ j, k ≤ j → j ≤ k + 6 → ¬ X j) : kNB a' k f' KD CT PX NL LV CH := by
  obtain ⟨h0, h1, h2, h3, h4, h5, h6⟩ := h
  have e0 := kAl_at hA (hX k (by omega) (by omega)) h0
  have e1 := kAl_at hA (hX (k + 1) (by omega) (by omega)) h1
  have e2 := kAl_at hA (hX (k + 2) (by omega) (by omega)) h2
  have e3 := kAl_at hA (hX (k + 3) (by omega) (by omega)) h3
  have e4 := kAl_at hA (hX (k + 4) (by omega) (by omega)) h4
  have e5 := kAl_at hA (hX (k + 5) (by omega) (by omega)) h5
  have e6 := kAl_at hA (hX (k + 6) (by omega) (by omega)) h6
  exact ⟨by rw [e0.2, e1.1, e2.1, e3.1, e4.1, e5.1, e6.1], e1.2, e2.2, e3.2, e4.2, e5.2, e6.2⟩
theorem kNn_al (h : kNn a k f) (hA : kAl a f a' f' X) (hX : ∀ j, k ≤ j → j ≤ k + 6 → ¬ X j) : kNn a' k f' := by
  obtain ⟨KD, CT, PX, NL, LV, CH, h⟩ := h
  exact ⟨KD, CT, PX, NL, LV, CH, kNB_al h hA hX⟩
theorem kK2_al (h : kK2 a f) (hb : ∃ l c, kB a 40 f 700 l c) (hA : kAl a f a' f' X) (hX : ∀ j, j < 60 → j ≠ 37 → j ≠ 38 → j ≠ 39 → ¬ X j) : kK2 a' f' := by
  obtain ⟨l0, c0, B0, b0, -⟩ := hb
  have e40 := kAl_at hA (hX 40 (by omega) (by omega) (by omega) (by omega)) b0
  have tk := h.tk
  obtain ⟨k1, k2, k3, k4, k5, g46⟩ := tk
  have e46 := kAl_at hA (hX 46 (by omega) (by omega) (by omega) (by omega)) g46
  obtain ⟨n, g1, g2, g3, g4, g48, g49, g50, g51, g52⟩ := h.sc
  have e48 := kAl_at hA (hX 48 (by omega) (by omega) (by omega) (by omega)) g48
  have e49 := kAl_at hA (hX 49 (by omega) (by omega) (by omega) (by omega)) g49
  have e50 := kAl_at hA (hX 50 (by omega) (by omega) (by omega) (by omega)) g50
  have e51 := kAl_at hA (hX 51 (by omega) (by omega) (by omega) (by omega)) g51
  have e52 := kAl_at hA (hX 52 (by omega) (by omega) (by omega) (by omega)) g52
  refine ⟨?_, ?_, ?_, ?_, ⟨k1, k2, k3, k4, k5, by rw [e46.2, e40.1]⟩, ⟨n, g1, g2, g3, g4, by rw [e48.2, e49.1, e50.1, e51.1, e52.1, e46.1], e49.2, e50.2, e51.2, e52.2⟩, ?_, ?_, ?_⟩
  · obtain ⟨z, hz⟩ := h.d
    exact ⟨z, kZb_al hz hA fun j z1 z2 => hX j (by omega) (by omega) (by omega) (by omega)⟩
  · exact kNn_al h.nb hA fun j z1 z2 => hX j (by omega) (by omega) (by omega) (by omega)
  · exact kNn_al h.db hA fun j z1 z2 => hX j (by omega) (by omega) (by omega) (by omega)
  · obtain ⟨l, c, hB⟩ := h.tx
    exact ⟨l, c, kB_al hB hA (hX 44 (by omega) (by omega) (by omega) (by omega)) (hX 45 (by omega) (by omega) (by omega) (by omega))⟩
  · obtain ⟨P, hP⟩ := h.pl
    exact ⟨P, (kAl_at hA (hX 54 (by omega) (by omega) (by omega) (by omega)) hP).2⟩
  · obtain ⟨P, hP⟩ := h.so
    exact ⟨P, (kAl_at hA (hX 55 (by omega) (by omega) (by omega) (by omega)) hP).2⟩
  · obtain ⟨P, hP⟩ := h.tr
    exact ⟨P, (kAl_at hA (hX 56 (by omega) (by omega) (by omega) (by omega)) hP).2⟩
theorem kSv_al {v : Nat → Option kZ} (h : kSv a f v) (hA : kAl a f a' f' X) (h0 : ¬ X 39) (hX : ∀ j, 148 ≤ j → j < 170 → ¬ X j) : kSv a' f' v := by
  obtain ⟨g, h1, h2⟩ := h
  refine ⟨g, (kAl_at hA h0 h1).2, fun i hi => ?_⟩
  rcases h2 i hi with h | ⟨z, e1, e2, hz⟩
  · exact Or.inl h
  · obtain ⟨⟨G, ⟨b0, -⟩, -⟩, -⟩ := id hz
    exact Or.inr ⟨z, e1, by rw [e2, (kAl_at hA (hX _ (by omega) (by omega)) b0).1], kZb_al hz hA fun j z1 z2 => hX j (by omega) (by omega)⟩
theorem kHi_al {un : Nat} {u : Nat → kZ} (h : kHi a f un u) (hA : kAl a f a' f' X) (h0 : ¬ X 37) (h1 : ¬ X 38) (hX : ∀ j, 60 ≤ j → j < 148 → ¬ X j) : kHi a' f' un u := by
  obtain ⟨nx, g, n8, x8, e37, e38, hg, hu⟩ := h
  have f37 := kAl_at hA h0 e37
  have f38 := kAl_at hA h1 e38
  refine ⟨nx, g, n8, x8, by rw [f37.2, f38.1], f38.2, fun i hi => ?_, fun j hj => ?_⟩
  · rcases hg i hi with h | ⟨h, z, hz⟩
    · exact Or.inl h
    · obtain ⟨⟨G, ⟨b0, -⟩, -⟩, -⟩ := id hz
      exact Or.inr ⟨by rw [h, (kAl_at hA (hX _ (by omega) (by omega)) b0).1], z, kZb_al hz hA fun t z1 z2 => hX t (by omega) (by omega)⟩
  · have hm : (nx + 7 - j) % 8 < 8 := Nat.mod_lt _ (by decide)
    obtain ⟨u1, u2⟩ := hu j hj
    obtain ⟨⟨G, ⟨b0, -⟩, -⟩, -⟩ := id u2
    exact ⟨by rw [u1, (kAl_at hA (hX _ (by omega) (by omega)) b0).1], kZb_al u2 hA fun t z1 z2 => hX t (by omega) (by omega)⟩
end KAL
