-- deps: 22.count 23.word 24.tokn
/-! ## the keeper: what it holds -/
def kZ : Type := Nat × (Nat → kR) × (Nat → Nat → Int32)
abbrev kZ.n (z : kZ) : Nat := Prod.fst z
abbrev kZ.R (z : kZ) : Nat → kR := Prod.fst (Prod.snd z)
abbrev kZ.S (z : kZ) : Nat → Nat → Int32 := Prod.snd (Prod.snd z)
def kV (R : Nat → kR) (i : Nat) : Nat := (kL R i).toNatClampNeg
def ksk (S : Nat → Nat → Int32) (l : Nat) : Nat := (S 0 l).toNatClampNeg
def kss (S : Nat → Nat → Int32) (l : Nat) : Nat := (S 1 l).toNatClampNeg
/-- an outline as it may be -/
def kZo (z : kZ) : Prop := (z.n ≤ 60) ∧ (∀ i, i < z.n → kL z.R i = nI (kV z.R i) ∧ 1 ≤ kV z.R i ∧ kV z.R i ≤ 6) ∧ (0 < z.n → kV z.R 0 = 1) ∧ (∀ i, i + 1 < z.n → kV z.R (i + 1) ≤ kV z.R i + 1) ∧ (∀ i, i < z.n → ∃ w, kN z.R i = kNW w ∧ kWd w) ∧ (kSok z.S (ksk z.S) (kss z.S)) ∧ (∀ i, i < z.n → k01 (kPl z.R i) ∧ k01 (kFo z.R i)) ∧ (∀ l, 1 ≤ l → l ≤ 6 → k01 (z.S 2 l) ∧ k01 (z.S 3 l))
theorem kZo.n60 {z : kZ} (h : kZo z) : z.n ≤ 60 := h.1
theorem kZo.lv {z : kZ} (h : kZo z) : ∀ i, i < z.n → kL z.R i = nI (kV z.R i) ∧ 1 ≤ kV z.R i ∧ kV z.R i ≤ 6 := h.2.1
theorem kZo.l0 {z : kZ} (h : kZo z) : 0 < z.n → kV z.R 0 = 1 := h.2.2.1
theorem kZo.ls {z : kZ} (h : kZo z) : ∀ i, i + 1 < z.n → kV z.R (i + 1) ≤ kV z.R i + 1 := h.2.2.2.1
theorem kZo.wd {z : kZ} (h : kZo z) : ∀ i, i < z.n → ∃ w, kN z.R i = kNW w ∧ kWd w := h.2.2.2.2.1
theorem kZo.st {z : kZ} (h : kZo z) : kSok z.S (ksk z.S) (kss z.S) := h.2.2.2.2.2.1
theorem kZo.fl {z : kZ} (h : kZo z) : ∀ i, i < z.n → k01 (kPl z.R i) ∧ k01 (kFo z.R i) := h.2.2.2.2.2.2.1
theorem kZo.fs {z : kZ} (h : kZo z) : ∀ l, 1 ≤ l → l ≤ 6 → k01 (z.S 2 l) ∧ k01 (z.S 3 l) := h.2.2.2.2.2.2.2
/-- two outlines alike as far as they are read -/
def kZe (z z' : kZ) : Prop := z'.n = z.n ∧ (∀ i, i < z.n → z'.R i = z.R i) ∧ ∀ l, 1 ≤ l → l ≤ 6 → kSq z'.S z.S l
def kSt : Type := (kZ) × (Nat) × (Nat → kZ) × (Nat → Option kZ) × (Nat → Int32) × (Nat) × (Nat → Nat) × (Nat) × (Nat → Nat) × (Int32) × (Int32)
abbrev kSt.o (s : kSt) : kZ := Prod.fst s
abbrev kSt.un (s : kSt) : Nat := Prod.fst (Prod.snd s)
abbrev kSt.u (s : kSt) : Nat → kZ := Prod.fst (Prod.snd (Prod.snd s))
abbrev kSt.v (s : kSt) : Nat → Option kZ := Prod.fst (Prod.snd (Prod.snd (Prod.snd s)))
abbrev kSt.ac (s : kSt) : Nat → Int32 := Prod.fst (Prod.snd (Prod.snd (Prod.snd (Prod.snd s))))
abbrev kSt.bl (s : kSt) : Nat := Prod.fst (Prod.snd (Prod.snd (Prod.snd (Prod.snd (Prod.snd s)))))
abbrev kSt.bc (s : kSt) : Nat → Nat := Prod.fst (Prod.snd (Prod.snd (Prod.snd (Prod.snd (Prod.snd (Prod.snd s))))))
abbrev kSt.wl (s : kSt) : Nat := Prod.fst (Prod.snd (Prod.snd (Prod.snd (Prod.snd (Prod.snd (Prod.snd (Prod.snd s)))))))
abbrev kSt.wc (s : kSt) : Nat → Nat := Prod.fst (Prod.snd (Prod.snd (Prod.snd (Prod.snd (Prod.snd (Prod.snd (Prod.snd (Prod.snd s))))))))
abbrev kSt.er (s : kSt) : Int32 := Prod.fst (Prod.snd (Prod.snd (Prod.snd (Prod.snd (Prod.snd (Prod.snd (Prod.snd (Prod.snd (Prod.snd s)))))))))
abbrev kSt.ep (s : kSt) : Int32 := Prod.snd (Prod.snd (Prod.snd (Prod.snd (Prod.snd (Prod.snd (Prod.snd (Prod.snd (Prod.snd (Prod.snd s)))))))))
/-- a block with an outline -/
def kZb (a : Nat → Nat) (k : Nat) (f : ky_H) (z : kZ) : Prop := (∃ G, kW a k f z.n z.R G) ∧ kS a k f z.S
def kNn (a : Nat → Nat) (k : Nat) (f : ky_H) : Prop := ∃ KD CT PX NL LV CH, kNB a k f KD CT PX NL LV CH
def kTk0 (a : Nat → Nat) (f : ky_H) : Prop := ∃ k s b v : Int32, ∃ w : Int64, f (a 46) = some (.inr (7, [.int k, .int s, .long w, .int v, .int b, .ref (a 40)]))
def kSc0 (a : Nat → Nat) (f : ky_H) : Prop := ∃ n : Int32, ∃ g1 g2 g3 g4 : Nat → Int32, f (a 48) = some (.inr (5, [.int n, .ref (a 49), .ref (a 50), .ref (a 51), .ref (a 52), .ref (a 46)])) ∧ f (a 49) = some (.inl (1, 40, .inl g1)) ∧ f (a 50) = some (.inl (1, 40, .inl g2)) ∧ f (a 51) = some (.inl (1, 40, .inl g3)) ∧ f (a 52) = some (.inl (1, 40, .inl g4))
/-- the ring of kept outlines, the newest one first -/
def kHi (a : Nat → Nat) (f : ky_H) (un : Nat) (u : Nat → kZ) : Prop := ∃ nx : Nat, ∃ g : Nat → Option Nat, un ≤ 8 ∧ nx < 8 ∧ f (a 37) = some (.inr (1, [.int (nI un), .int (nI nx), .ref (a 38)])) ∧ f (a 38) = some (.inl (4, 8, .inr (.inr (.inr (.inr g))))) ∧ (∀ i, i < 8 → g i = none ∨ g i = some (a (60 + 11 * i)) ∧ ∃ z, kZb a (60 + 11 * i) f z) ∧ ∀ j, j < un → g ((nx + 7 - j) % 8) = some (a (60 + 11 * ((nx + 7 - j) % 8))) ∧ kZb a (60 + 11 * ((nx + 7 - j) % 8)) f (u j)
def kSv (a : Nat → Nat) (f : ky_H) (v : Nat → Option kZ) : Prop := ∃ g : Nat → Option Nat, f (a 39) = some (.inl (4, 2, .inr (.inr (.inr (.inr g))))) ∧ ∀ i, i < 2 → (v i = none ∧ g i = none) ∨ ∃ z, v i = some z ∧ g i = some (a (148 + 11 * i)) ∧ kZb a (148 + 11 * i) f z
def kKo (a : Nat → Nat) (f : ky_H) (er ep : Int32) : Prop := f (a 0) = some (.inr (8, [.ref (a 1), .ref (a 12), .ref (a 23), .ref (a 30), .ref (a 37), .ref (a 39), .ref (a 40), .ref (a 42), .ref (a 44), .ref (a 46), .ref (a 47), .ref (a 48), .ref (a 53), .ref (a 54), .ref (a 55), .ref (a 56), .int er, .int ep]))
/-- what is the keeper's for good -/
def kK1 (a : Nat → Nat) (f : ky_H) (s : kSt) : Prop := (kKo a f s.er s.ep) ∧ (kZb a 1 f s.o) ∧ (kHi a f s.un s.u) ∧ (kSv a f s.v) ∧ (kB a 40 f 700 s.bl s.bc) ∧ (kB a 42 f 4260 s.wl s.wc) ∧ (f (a 47) = some (.inr (4, [.ref (a 46)]))) ∧ (f (a 53) = some (.inl (1, 8, .inl s.ac)))
theorem kK1.o {a : Nat → Nat} {f : ky_H} {s : kSt} (h : kK1 a f s) : kKo a f s.er s.ep := h.1
theorem kK1.z {a : Nat → Nat} {f : ky_H} {s : kSt} (h : kK1 a f s) : kZb a 1 f s.o := h.2.1
theorem kK1.h {a : Nat → Nat} {f : ky_H} {s : kSt} (h : kK1 a f s) : kHi a f s.un s.u := h.2.2.1
theorem kK1.v {a : Nat → Nat} {f : ky_H} {s : kSt} (h : kK1 a f s) : kSv a f s.v := h.2.2.2.1
theorem kK1.bu {a : Nat → Nat} {f : ky_H} {s : kSt} (h : kK1 a f s) : kB a 40 f 700 s.bl s.bc := h.2.2.2.2.1
theorem kK1.wr {a : Nat → Nat} {f : ky_H} {s : kSt} (h : kK1 a f s) : kB a 42 f 4260 s.wl s.wc := h.2.2.2.2.2.1
theorem kK1.rd {a : Nat → Nat} {f : ky_H} {s : kSt} (h : kK1 a f s) : f (a 47) = some (.inr (4, [.ref (a 46)])) := h.2.2.2.2.2.2.1
theorem kK1.ac {a : Nat → Nat} {f : ky_H} {s : kSt} (h : kK1 a f s) : f (a 53) = some (.inl (1, 8, .inl s.ac)) := h.2.2.2.2.2.2.2
/-- what is overwritten -/
def kK2 (a : Nat → Nat) (f : ky_H) : Prop := (∃ z, kZb a 12 f z) ∧ (kNn a 23 f) ∧ (kNn a 30 f) ∧ (∃ l c, kB a 44 f 54 l c) ∧ (kTk0 a f) ∧ (kSc0 a f) ∧ (∃ P : Nat → Int32, f (a 54) = some (.inl (1, 60, .inl P))) ∧ (∃ P : Nat → Int32, f (a 55) = some (.inl (1, 60, .inl P))) ∧ (∃ P : Nat → Int32, f (a 56) = some (.inl (3, 61, .inl P)))
theorem kK2.d {a : Nat → Nat} {f : ky_H} (h : kK2 a f) : ∃ z, kZb a 12 f z := h.1
theorem kK2.nb {a : Nat → Nat} {f : ky_H} (h : kK2 a f) : kNn a 23 f := h.2.1
theorem kK2.db {a : Nat → Nat} {f : ky_H} (h : kK2 a f) : kNn a 30 f := h.2.2.1
theorem kK2.tx {a : Nat → Nat} {f : ky_H} (h : kK2 a f) : ∃ l c, kB a 44 f 54 l c := h.2.2.2.1
theorem kK2.tk {a : Nat → Nat} {f : ky_H} (h : kK2 a f) : kTk0 a f := h.2.2.2.2.1
theorem kK2.sc {a : Nat → Nat} {f : ky_H} (h : kK2 a f) : kSc0 a f := h.2.2.2.2.2.1
theorem kK2.pl {a : Nat → Nat} {f : ky_H} (h : kK2 a f) : ∃ P : Nat → Int32, f (a 54) = some (.inl (1, 60, .inl P)) := h.2.2.2.2.2.2.1
theorem kK2.so {a : Nat → Nat} {f : ky_H} (h : kK2 a f) : ∃ P : Nat → Int32, f (a 55) = some (.inl (1, 60, .inl P)) := h.2.2.2.2.2.2.2.1
theorem kK2.tr {a : Nat → Nat} {f : ky_H} (h : kK2 a f) : ∃ P : Nat → Int32, f (a 56) = some (.inl (3, 61, .inl P)) := h.2.2.2.2.2.2.2.2
/-- the outlines are as they may be -/
def kKz (s : kSt) : Prop := (kZo s.o) ∧ (∀ j, j < s.un → kZo (s.u j)) ∧ (∀ i z, i < 2 → s.v i = some z → kZo z)
theorem kKz.o {s : kSt} (h : kKz s) : kZo s.o := h.1
theorem kKz.u {s : kSt} (h : kKz s) : ∀ j, j < s.un → kZo (s.u j) := h.2.1
theorem kKz.v {s : kSt} (h : kKz s) : ∀ i z, i < 2 → s.v i = some z → kZo z := h.2.2
def kK (a : Nat → Nat) (f : ky_H) (s : kSt) : Prop := kI a ∧ kK1 a f s ∧ kK2 a f ∧ kKz s
theorem kZb_fr {a : Nat → Nat} {k : Nat} {f f' : ky_H} {z : kZ} (h : kZb a k f z) (hf : ∀ j, k ≤ j → j ≤ k + 10 → f' (a j) = f (a j)) : kZb a k f' z := by
  obtain ⟨⟨G, h1⟩, h2⟩ := h
  exact ⟨⟨G, kW_fr h1 hf⟩, kS_fr h2 fun j z1 z2 => hf j (by omega) (by omega)⟩
theorem kNn_fr {a : Nat → Nat} {k : Nat} {f f' : ky_H} (h : kNn a k f) (hf : ∀ j, k ≤ j → j ≤ k + 6 → f' (a j) = f (a j)) : kNn a k f' := by
  obtain ⟨KD, CT, PX, NL, LV, CH, h⟩ := h
  exact ⟨KD, CT, PX, NL, LV, CH, kNB_fr h hf⟩
theorem kHi_fr {a : Nat → Nat} {f f' : ky_H} {un : Nat} {u : Nat → kZ} (h : kHi a f un u) (hf : ∀ j, j = 37 ∨ j = 38 ∨ 60 ≤ j ∧ j < 148 → f' (a j) = f (a j)) : kHi a f' un u := by
  obtain ⟨nx, g, h1, h2, h3, h4, h5, h6⟩ := h
  refine ⟨nx, g, h1, h2, (hf _ (by omega)).trans h3, (hf _ (by omega)).trans h4, fun i hi => ?_, fun j hj => ?_⟩
  · rcases h5 i hi with h | ⟨h, z, hz⟩
    · exact Or.inl h
    · exact Or.inr ⟨h, z, kZb_fr hz fun t z1 z2 => hf t (by omega)⟩
  · have hm : (nx + 7 - j) % 8 < 8 := Nat.mod_lt _ (by decide)
    exact ⟨(h6 j hj).1, kZb_fr (h6 j hj).2 fun t z1 z2 => hf t (by omega)⟩
theorem kSv_fr {a : Nat → Nat} {f f' : ky_H} {v : Nat → Option kZ} (h : kSv a f v) (hf : ∀ j, j = 39 ∨ 148 ≤ j ∧ j < 170 → f' (a j) = f (a j)) : kSv a f' v := by
  obtain ⟨g, h1, h2⟩ := h
  refine ⟨g, (hf _ (by omega)).trans h1, fun i hi => ?_⟩
  rcases h2 i hi with h | ⟨z, e1, e2, h⟩
  · exact Or.inl h
  · exact Or.inr ⟨z, e1, e2, kZb_fr h fun t z1 z2 => hf t (by omega)⟩
/-- the places that are overwritten -/
def ksc (j : Nat) : Prop := 12 ≤ j ∧ j ≤ 36 ∨ 44 ≤ j ∧ j ≤ 46 ∨ 48 ≤ j ∧ j ≤ 52 ∨ 54 ≤ j ∧ j ≤ 56
theorem kK1_fr {a : Nat → Nat} {f f' : ky_H} {s : kSt} (h : kK1 a f s) (hf : kfr a f f' ksc) : kK1 a f' s := by
  unfold kfr ksc at hf
  exact ⟨(hf 0 (by omega)).trans h.o, kZb_fr h.z fun j z1 z2 => hf j (by omega), kHi_fr h.h fun j z1 => hf j (by omega), kSv_fr h.v fun j z1 => hf j (by omega), kB_fr h.bu (hf 40 (by omega)) (hf 41 (by omega)), kB_fr h.wr (hf 42 (by omega)) (hf 43 (by omega)), (hf 47 (by omega)).trans h.rd, (hf 53 (by omega)).trans h.ac⟩
theorem kTk0_fr {a : Nat → Nat} {f f' : ky_H} (h : kTk0 a f) (hf : f' (a 46) = f (a 46)) : kTk0 a f' := by
  obtain ⟨k, s, b, v, w, h⟩ := h
  exact ⟨k, s, b, v, w, hf.trans h⟩
theorem kSc0_fr {a : Nat → Nat} {f f' : ky_H} (h : kSc0 a f) (hf : ∀ j, 48 ≤ j → j ≤ 52 → f' (a j) = f (a j)) : kSc0 a f' := by
  obtain ⟨n, g1, g2, g3, g4, h0, h1, h2, h3, h4⟩ := h
  exact ⟨n, g1, g2, g3, g4, (hf _ (by omega) (by omega)).trans h0, (hf _ (by omega) (by omega)).trans h1, (hf _ (by omega) (by omega)).trans h2, (hf _ (by omega) (by omega)).trans h3, (hf _ (by omega) (by omega)).trans h4⟩
theorem kB_fr' {a : Nat → Nat} {k cap : Nat} {f f' : ky_H} (h : ∃ l c, kB a k f cap l c) (h0 : f' (a k) = f (a k)) (h1 : f' (a (k + 1)) = f (a (k + 1))) : ∃ l c, kB a k f' cap l c := by
  obtain ⟨l, c, h⟩ := h
  exact ⟨l, c, kB_fr h h0 h1⟩
theorem kZb_fr' {a : Nat → Nat} {k : Nat} {f f' : ky_H} (h : ∃ z, kZb a k f z) (hf : ∀ j, k ≤ j → j ≤ k + 10 → f' (a j) = f (a j)) : ∃ z, kZb a k f' z := by
  obtain ⟨z, h⟩ := h
  exact ⟨z, kZb_fr h hf⟩
theorem kPa_fr {a : Nat → Nat} {q t n : Nat} {f f' : ky_H} (h : ∃ P : Nat → Int32, f (a q) = some (.inl (t, n, .inl P))) (hf : f' (a q) = f (a q)) : ∃ P : Nat → Int32, f' (a q) = some (.inl (t, n, .inl P)) := by
  obtain ⟨P, h⟩ := h
  exact ⟨P, hf.trans h⟩
/-- what is overwritten stays as far as it is framed; the rest is given anew -/
theorem kK2_fr {a : Nat → Nat} {f f' : ky_H} {X : Nat → Prop} (h : kK2 a f) (hf : kfr a f f' X) (hd : (∀ j, 12 ≤ j → j ≤ 22 → ¬ X j) ∨ ∃ z, kZb a 12 f' z) (hn : (∀ j, 23 ≤ j → j ≤ 29 → ¬ X j) ∨ kNn a 23 f') (hm : (∀ j, 30 ≤ j → j ≤ 36 → ¬ X j) ∨ kNn a 30 f') (ht : (¬ X 44 ∧ ¬ X 45) ∨ ∃ l c, kB a 44 f' 54 l c) (hk : ¬ X 46 ∨ kTk0 a f') (hs : (∀ j, 48 ≤ j → j ≤ 52 → ¬ X j) ∨ kSc0 a f') (hp : ¬ X 54 ∨ ∃ P : Nat → Int32, f' (a 54) = some (.inl (1, 60, .inl P))) (ho : ¬ X 55 ∨ ∃ P : Nat → Int32, f' (a 55) = some (.inl (1, 60, .inl P))) (hr : ¬ X 56 ∨ ∃ P : Nat → Int32, f' (a 56) = some (.inl (3, 61, .inl P))) : kK2 a f' := by
  refine ⟨?_, ?_, ?_, ?_, ?_, ?_, ?_, ?_, ?_⟩
  · exact hd.elim (fun g => kZb_fr' h.d fun j z1 z2 => hf j (g j z1 z2)) id
  · exact hn.elim (fun g => kNn_fr h.nb fun j z1 z2 => hf j (g j z1 z2)) id
  · exact hm.elim (fun g => kNn_fr h.db fun j z1 z2 => hf j (g j z1 z2)) id
  · exact ht.elim (fun g => kB_fr' h.tx (hf 44 g.1) (hf 45 g.2)) id
  · exact hk.elim (fun g => kTk0_fr h.tk (hf 46 g)) id
  · exact hs.elim (fun g => kSc0_fr h.sc fun j z1 z2 => hf j (g j z1 z2)) id
  · exact hp.elim (fun g => kPa_fr h.pl (hf 54 g)) id
  · exact ho.elim (fun g => kPa_fr h.so (hf 55 g)) id
  · exact hr.elim (fun g => kPa_fr h.tr (hf 56 g)) id
/-- places alone -/
theorem kK_p {a : Nat → Nat} {f f' : ky_H} {s : kSt} (h : kK a f s) {P : Nat → Int32} (hf : f' = ky_up f (a 54) (.inl (1, 60, .inl P))) : kK a f' s := by
  obtain ⟨ha, h1, h2, h3⟩ := h
  subst hf
  have hF : kfr a f (ky_up f (a 54) (.inl (1, 60, .inl P))) (fun j => j = 54) := kfr_up ha kfr_rf rfl
  refine ⟨ha, kK1_fr h1 fun j hj => hF j (by unfold ksc at hj; omega), kK2_fr h2 hF (.inl fun j _ _ => by omega) (.inl fun j _ _ => by omega) (.inl fun j _ _ => by omega) (.inl (by omega)) (.inl (by omega)) (.inl fun j _ _ => by omega) (.inr ⟨P, kz_same⟩) (.inl (by omega)) (.inl (by omega)), h3⟩
/-- numbers alone -/
theorem kK_n {a : Nat → Nat} {f f' : ky_H} {s : kSt} (h : kK a f s) (hf : kfr a f f' (fun j => 23 ≤ j ∧ j ≤ 29)) (hn : kNn a 23 f') : kK a f' s := by
  obtain ⟨ha, h1, h2, h3⟩ := h
  refine ⟨ha, kK1_fr h1 fun j hj => hf j (by unfold ksc at hj; omega), kK2_fr h2 hf (.inl fun j _ _ => by omega) (.inr hn) (.inl fun j _ _ => by omega) (.inl (by omega)) (.inl (by omega)) (.inl fun j _ _ => by omega) (.inl (by omega)) (.inl (by omega)) (.inl (by omega)), h3⟩
/-- text (and what addNumber writes into numbers) -/
theorem kK_t {a : Nat → Nat} {f f' : ky_H} {s : kSt} (h : kK a f s) (hf : kfr a f f' (fun j => j = 44 ∨ j = 45)) (hn : ∃ l c, kB a 44 f' 54 l c) : kK a f' s := by
  obtain ⟨ha, h1, h2, h3⟩ := h
  refine ⟨ha, kK1_fr h1 fun j hj => hf j (by unfold ksc at hj; omega), kK2_fr h2 hf (.inl fun j _ _ => by omega) (.inl fun j _ _ => by omega) (.inl fun j _ _ => by omega) (.inr hn) (.inl (by omega)) (.inl fun j _ _ => by omega) (.inl (by omega)) (.inl (by omega)) (.inl (by omega)), h3⟩
/-- the heads of the keeper's things -/
theorem kK_hd {a : Nat → Nat} {f : ky_H} {s : kSt} (h : kK a f s) :
    f (a 0) = some (.inr (8, [.ref (a 1), .ref (a 12), .ref (a 23), .ref (a 30), .ref (a 37), .ref (a 39), .ref (a 40), .ref (a 42), .ref (a 44), .ref (a 46), .ref (a 47), .ref (a 48), .ref (a 53), .ref (a 54), .ref (a 55), .ref (a 56), .int s.er, .int s.ep]))
    ∧ f (a 1) = some (.inr (3, [.int (nI s.o.n), .ref (a 2), .ref (a 7), .ref (a 8), .ref (a 9), .ref (a 10), .ref (a 11)]))
    ∧ f (a 2) = some (.inr (6, [.ref (a 3), .ref (a 4), .ref (a 5), .ref (a 6)]))
    ∧ f (a 23) = some (.inr (2, [.ref (a 24), .ref (a 25), .ref (a 26), .ref (a 27), .ref (a 28), .ref (a 29)]))
    ∧ f (a 30) = some (.inr (2, [.ref (a 31), .ref (a 32), .ref (a 33), .ref (a 34), .ref (a 35), .ref (a 36)]))
    ∧ f (a 40) = some (.inr (0, [.int (nI s.bl), .ref (a 41)]))
    ∧ f (a 42) = some (.inr (0, [.int (nI s.wl), .ref (a 43)]))
    ∧ (∃ nx, f (a 37) = some (.inr (1, [.int (nI s.un), .int nx, .ref (a 38)])))
    ∧ (∃ tl, f (a 44) = some (.inr (0, [.int tl, .ref (a 45)])))
    ∧ (∃ l, f (a 46) = some (.inr (7, l)))
    ∧ f (a 47) = some (.inr (4, [.ref (a 46)]))
    ∧ (∃ l, f (a 48) = some (.inr (5, l)))
    ∧ (∃ l, f (a 12) = some (.inr (3, l)))
    ∧ f (a 53) = some (.inl (1, 8, .inl s.ac)) := by
  obtain ⟨ha, h1, h2, h3⟩ := h
  obtain ⟨⟨G, hW⟩, hS⟩ := h1.z
  obtain ⟨nx, g, -, -, e37, -⟩ := h1.h
  obtain ⟨B, e40, -⟩ := h1.bu
  obtain ⟨B2, e42, -⟩ := h1.wr
  obtain ⟨z, ⟨G2, hW2⟩, -⟩ := h2.d
  obtain ⟨_, _, _, _, _, _, e23, -⟩ := h2.nb
  obtain ⟨_, _, _, _, _, _, e30, -⟩ := h2.db
  obtain ⟨tl, tc, B3, e44, -⟩ := h2.tx
  obtain ⟨k, s', b, v, w, e46⟩ := h2.tk
  obtain ⟨n, g1, g2, g3, g4, e48, -⟩ := h2.sc
  exact ⟨h1.o, hW.1.1, hS.1, e23, e30, e40, e42, ⟨_, e37⟩, ⟨_, e44⟩, ⟨_, e46⟩, h1.rd, ⟨_, e48⟩, ⟨_, hW2.1.1⟩, h1.ac⟩
