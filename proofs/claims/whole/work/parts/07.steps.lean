/-! THE STEPS: the abstract machine's statement of a point gives the machine's. -/
/-- a constructor's first argument is a reference -/
def ky_rf1 : List Value → Prop
  | .ref _ :: _ => True
  | _ => False
def ky_ii (m : Nat) (As : List Value) : Prop := (ky_y m).name = "<init>" → ky_rf1 As
noncomputable def ky_one (G : ky_G) (P : Nat → Nat → ky_L → List Value → ky_H → Nat → Nat → ky_Q → Prop) (m pc : Nat) (ls : ky_L) (st : List Value) (f : ky_H) (cn sn : Nat) (Q : ky_Q) : Prop :=
  match ky_cd m pc with
  | none => False
  | some (i, _, a, b, c1, c2, v, cs) => ky_stp G (ky_ce m) (ky_so m) (ky_hs m) i a b c1 c2 v cs pc ls st f cn sn (fun pc' ls' st' f' cn' sn' => P m pc' ls' st' f' cn' sn' Q)
      (fun m' As f' Q' => ∃ R, ky_cs As ≤ ky_ml m' ∧ ky_ii m' As ∧ P m' 0 (ky_ent As (ky_ml m')) [] f' 0 0 R ∧ ∀ o g, R o g → Q' o g) Q
def ky_GG (adK : Nat → Nat) : ky_G := (adK, ky_tx, ky_df)
/-- what holds of an invocation of the method m -/
def ky_Ac (l : Launch) (D : va_G) (c : Nat → ClassId) (adK adV : Nat → Nat) (m : Nat) (p : Program) (R : Room) (s : State) (mm : MethodId) (args : Array Value) (meth : Method) (cc : Code) (A : Nat → Prop) (f0 : ky_H) : Prop :=
  m < 328 ∧ p.tables.exec = Jvm.exec ∧ cc.code = ky_by m ∧ cc.maxLocals = ky_ml m ∧ meth.sig.returnType = ky_rt m ∧ s.vm.findClass (ky_R (ky_ow m)) = some mm.cls ∧ meth.name = (ky_y m).name ∧ meth.locks = false ∧ (∀ w ∈ ky_WS, w.before args s = true) ∧ (∀ q, s.heap.size ≤ q → A q) ∧ ky_F D c adK adV A s s.heap ∧ ky_Sc A f0 s ∧ cc.exceptionTable.toList = tableOf (ky_hh m) ∧ ky_dp m ≤ R.frames ∧ ky_lo m ≤ R.locals ∧ R.cells = ky_ce m ∧ R.slots = ky_so m ∧ l.stackTraces = false
/-- the machine's statement of a point -/
def ky_Pd (l : Launch) (D : va_G) (c : Nat → ClassId) (adK adV : Nat → Nat) : Nat → Nat → ky_L → List Value → ky_H → Nat → Nat → ky_Q → Prop := fun m pc ls st f cn sn Q =>
  ∀ (p : Program) (e : Env) (R : Room) (s : State) (mm : MethodId) (args : Array Value) (below : List Frame) (meth : Method) (cc : Code) (A : Nat → Prop) (f0 : ky_H),
    ky_Ac l D c adK adV m p R s mm args meth cc A f0 →
    ∀ (H : Heap) (locs : List Loc) (arr : Array Slot), ky_Wp D c A f H → ky_5 f0 f → va_S A s.heap H locs → lv_has arr (ky_ml m) (ky_al 0 ls) → cn ≤ ky_ce m → sn ≤ ky_so m →
      W p l e R s mm args below meth cc H locs cn sn (vx_MQ below (ky_Qc D c A f0 Q) (ky_Xc D c A f0 Q) args s (ky_ce m) (ky_so m) A) (F0 mm pc arr st)
theorem ky_vc_get {a : Nat} (h : a < 10) : vwCl[a]? = some ((ky_vc a).1, (ky_vc a).2.1, (ky_vc a).2.2) := by
  rcases (show a = 0 ∨ a = 1 ∨ a = 2 ∨ a = 3 ∨ a = 4 ∨ a = 5 ∨ a = 6 ∨ a = 7 ∨ a = 8 ∨ a = 9 by omega) with rfl | rfl | rfl | rfl | rfl | rfl | rfl | rfl | rfl | rfl <;> rfl
theorem ky_hin {a : Nat} (h : a < 10) : ∀ w ∈ u_ws (ky_vc a).1 (ky_vc a).2.1 (ky_vc a).2.2, w ∈ ky_WS := by
  intro w hw
  have h1 := List.all_eq_true.mp (ky_in_ok a h) w hw
  simp only [Bool.and_eq_true, decide_eq_true_eq] at h1
  exact List.mem_filter.mpr h1
theorem ky_new_none {A : Nat → Prop} {f f0 : ky_H} {c : Nat → ClassId} {L : List Nat} {s : State} (hL : ∀ a, a ∈ L ↔ ky_own (f a) = true) (h6 : ∀ a t x, f a = some (.inl (t, x)) → t ≤ 5) (hSc : ky_Sc A f0 s) (h5 : ky_5 f0 f) {q : Nat} {e : va_E} (hD : va_D A (va_pl L (fun a => ky_re c (f a)) ++ [(q, e)])) : f q = none := by
  have hq := ky_new_no hD
  have hA : A q := hD.2 (va_pl L fun a => ky_re c (f a)).length (q, e) (by simp)
  cases hf : f q with
  | none => rfl
  | some x =>
    exfalso
    cases ho : ky_own (f q) with
    | true => exact hq ((hL q).mpr ho)
    | false =>
      rw [hf] at ho
      rcases x with ⟨t, y⟩ | y
      · simp only [ky_own, decide_eq_false_iff_not] at ho
        obtain rfl : t = 5 := by have := h6 q t y hf; omega
        obtain ⟨g, -, -, h2, -⟩ := hSc q y (h5 q y hf)
        exact h2 hA
      · simp [ky_own] at ho
section KYS
variable {l : Launch} {p : Program} {e : Env} {R : Room} {s : State} {m : MethodId} {args : Array Value} {below : List Frame} {meth : Method} {c : Code} {H : Heap} {locs : List Loc} {cells slots : Nat} {Q : State → Prop}
theorem ky_ldcS3 (hexec : p.tables.exec = Jvm.exec) {cc : ByteArray} (hb : c.code = cc) {own tx : String} {index q pc : Nat} {ls : Array Slot} {rest : List Value} (hown : s.vm.findClass own = some m.cls) (hZ : vk_R own index tx q s) (hdg : decode cc pc = .ok (.ldc_w index, 3))
    (k : W p l e R s m args below meth c H locs cells slots Q (F0 m (pc + 3) ls (.ref q :: rest))) : W p l e R s m args below meth c H locs cells slots Q (F0 m pc ls rest) := by
  intro T hT X
  obtain ⟨t, a1, b1⟩ := k T hT X
  exact ⟨t, X.ldcStringW hexec hown (text := tx) (a := q) hZ.1 hZ.2 (g := F0 m pc ls rest) rfl (by rw [hb]; exact hdg) t a1, b1⟩
end KYS
theorem ky_fl_get {m k a b : Nat} (h : (ky_fl.any fun y => y.1 == ky_ow m && y.2.1 == k && y.2.2.1 == a && y.2.2.2.1 == b) = true) : a < 10 ∧ b < (ky_vc a).2.2 ∧ Cond.fieldLink (ky_R (ky_ow m)) k ((ky_vc a).2.1 b).1 ((ky_vc a).2.1 b).2.1 ((ky_vc a).2.1 b).2.2.1 ∈ ky_WS := by
  simp only [List.any_eq_true, Bool.and_eq_true, beq_iff_eq] at h
  obtain ⟨⟨y1, y2, y3, y4, y5⟩, hy, ⟨⟨rfl, rfl⟩, rfl⟩, rfl⟩ := h
  have h1 := List.all_eq_true.mp ky_fl_ok _ hy
  simp only [ky_flc, Bool.and_eq_true, decide_eq_true_eq] at h1
  exact ⟨h1.1.1, h1.1.2, ky_at_ws h1.2⟩
theorem ky_nk_get {m k a : Nat} (h : (ky_nk.any fun y => y.1 == ky_ow m && y.2.1 == k && y.2.2.1 == a) = true) : a < 10 ∧ Cond.classLink (ky_R (ky_ow m)) k (ky_vc a).1 ∈ ky_WS := by
  simp only [List.any_eq_true, Bool.and_eq_true, beq_iff_eq] at h
  obtain ⟨⟨y1, y2, y3, y4⟩, hy, ⟨rfl, rfl⟩, rfl⟩ := h
  have h1 := List.all_eq_true.mp ky_nk_ok _ hy
  simp only [ky_nkc, Bool.and_eq_true, decide_eq_true_eq] at h1
  exact ⟨h1.1, ky_at_ws h1.2⟩
theorem ky_cw_get {a : Nat} (h : a < 10) : Cond.instantiable (ky_vc a).1 (ky_vc a).2.2 ∈ ky_WS ∧ Cond.initialized (ky_vc a).1 ∈ ky_WS := by
  have h1 := ky_cw_ok a h
  simp only [Bool.and_eq_true] at h1
  exact ⟨ky_at_ws h1.1, ky_at_ws h1.2⟩
theorem ky_cA {D : va_G} {c : Nat → ClassId} {s : State} (hK : va_K D vwCl (ky_tys c) s) {ty : FieldType} {cA : ClassId} (hK2 : va_K D vwCl (ky_tys c ++ [(cA, ty)]) s) {a : Nat} (ha : (ky_tys c)[a]? = some (c a, ty)) (hf : ∀ C, ty ≠ .object C) : cA = c a := by
  have h1 := (hK2.2 5 (cA, ty) rfl).2
  have h2 := (hK.2 a _ ha).2
  cases ty <;> first | exact absurd rfl (hf _) | exact Option.some.inj (h1.symm.trans h2)
theorem ky_cAo {D : va_G} {c : Nat → ClassId} {s : State} (hK : va_K D vwCl (ky_tys c) s) {C : String} {cA : ClassId} (hK2 : va_K D vwCl (ky_tys c ++ [(cA, .object C)]) s) {a : Nat} (ha : (ky_tys c)[a]? = some (c a, .object C)) : cA = c a := by
  obtain ⟨_, _, _, _, _, h1⟩ := (hK2.2 5 (cA, .object C) rfl).2
  obtain ⟨_, _, _, _, _, h2⟩ := (hK.2 a _ ha).2
  exact Option.some.inj (h1.symm.trans h2)

set_option maxRecDepth 100000 in
theorem ky_ar_ok : ∀ ty ∈ ([.byte, .int, .long, .boolean] : List FieldType), Cond.arrayClass ty ∈ ky_WS := by decide +kernel
section KYH
variable {p : Program} {l : Launch} {e : Env} {R : Room} {s : State} {m : MethodId} {args : Array Value} {below : List Frame} {meth : Method} {c : Code} {H : Heap} {locs : List Loc} {cells slots : Nat} {Q : State → Prop}
variable {cc : ByteArray} {pc : Nat} {ls : Array Slot} {rest : List Value} {D : va_G} {ws : va_W} {co : Nat → ClassId}
theorem ky_alen (hexec : p.tables.exec = Jvm.exec) (hb : c.code = cc) (hP : va_P D vwCl ws H) (q0 : Nat) {q t : Nat} {x : vp_A} (ha : ws[q0]? = some (q, ky_re co (some (.inl (t, x))))) (hK : va_K D vwCl (ky_tys co) s) (ht5 : t < 5) (hdg : decode cc pc = .ok (.arraylength, 1))
    (kk : W p l e R s m args below meth c H locs cells slots Q (F0 m (pc + 1) ls (.int (Int32.ofNat x.1) :: rest))) : W p l e R s m args below meth c H locs cells slots Q (F0 m pc ls (.ref q :: rest)) := by
  have key : ∃ ty, (ky_tys co)[t]? = some (co t, ty) := by
    rcases (show t = 0 ∨ t = 1 ∨ t = 2 ∨ t = 3 ∨ t = 4 by omega) with rfl | rfl | rfl | rfl | rfl <;> exact ⟨_, rfl⟩
  obtain ⟨ty, hty⟩ := key
  exact va_alen hexec hb hK hP q0 t ha hty rfl hdg kk
theorem ky_lsw (hexec : p.tables.exec = Jvm.exec) (hb : c.code = cc) {d : Int} {ps : Array (Int × Int)} {len a : Nat} {cs : List (Int32 × Nat)} {x : Int32} (hdg : decode cc pc = .ok (.lookupswitch d ps, len)) (hd : (pc : Int) + d = (a : Int)) (hp : (ps.toList.zip (ps.toList.drop 1)).all (fun (x, next) => decide (x.1 < next.1)) = true) (hsw : ky_swc pc ps.toList cs = true)
    {K : Nat → Prop} (h : ky_sw x cs K a) (kk : ∀ t, K t → W p l e R s m args below meth c H locs cells slots Q (F0 m t ls rest)) : W p l e R s m args below meth c H locs cells slots Q (F0 m pc ls (.int x :: rest)) := by
  have key : ∀ (l : List (Int × Int)) (cs : List (Int32 × Nat)), ky_swc pc l cs = true → ky_sw x cs K a → ∃ tgt : Nat, (pc : Int) + Op.lookupswitch.offset l d x.toInt = (tgt : Int) ∧ K tgt := by
    intro l
    induction l with
    | nil =>
      intro cs h1 h2
      cases cs with
      | nil => exact ⟨a, hd, h2⟩
      | cons y r => simp [ky_swc] at h1
    | cons z l ih =>
      intro cs h1 h2
      obtain ⟨k, o⟩ := z
      cases cs with
      | nil => simp [ky_swc] at h1
      | cons y r =>
        obtain ⟨v, t⟩ := y
        simp only [ky_swc, Bool.and_eq_true, decide_eq_true_eq] at h1
        obtain ⟨⟨h3, h4⟩, h5⟩ := h1
        by_cases hx : x = v
        · refine ⟨t, ?_, h2.1 hx⟩
          rw [hx, h3]
          simp only [Op.lookupswitch.offset, if_true]
          exact h4
        · obtain ⟨tgt, g1, g2⟩ := ih r h5 (h2.2 hx)
          exact ⟨tgt, by rw [lv_osw hx h3]; exact g1, g2⟩
  obtain ⟨tgt, g1, g2⟩ := key ps.toList cs hsw h
  exact lv_lookup hexec hb hdg (by simpa using hp) rfl g1 (kk tgt g2)
theorem ky_tsw (hexec : p.tables.exec = Jvm.exec) (hb : c.code = cc) {d lo hi : Int} {offs : Array Int} {len a : Nat} {cs : List (Int32 × Nat)} {x : Int32} (hdg : decode cc pc = .ok (.tableswitch d lo hi offs, len)) (hd : (pc : Int) + d = (a : Int)) (hhi : hi = lo + (offs.size : Int) - 1) (htb : ky_tbc pc lo offs.toList cs = true)
    {K : Nat → Prop} (h : ky_sw x cs K a) (kk : ∀ t, K t → W p l e R s m args below meth c H locs cells slots Q (F0 m t ls rest)) : W p l e R s m args below meth c H locs cells slots Q (F0 m pc ls (.int x :: rest)) := by
  have key : ∀ (l : List Int) (cs : List (Int32 × Nat)) (lo : Int), ky_tbc pc lo l cs = true → ky_sw x cs K a → ((x.toInt < lo ∨ lo + (l.length : Int) ≤ x.toInt) ∧ K a) ∨ (lo ≤ x.toInt ∧ x.toInt < lo + (l.length : Int) ∧ ∃ (off : Int) (tgt : Nat), l[(x.toInt - lo).toNat]? = some off ∧ (pc : Int) + off = (tgt : Int) ∧ K tgt) := by
    intro l
    induction l with
    | nil =>
      intro cs lo h1 h2
      cases cs with
      | nil => exact Or.inl ⟨by simp; omega, h2⟩
      | cons y r => simp [ky_tbc] at h1
    | cons o l ih =>
      intro cs lo h1 h2
      cases cs with
      | nil => simp [ky_tbc] at h1
      | cons y r =>
        obtain ⟨v, t⟩ := y
        simp only [ky_tbc, Bool.and_eq_true, decide_eq_true_eq] at h1
        obtain ⟨⟨h3, h4⟩, h5⟩ := h1
        by_cases hx : x = v
        · refine Or.inr ⟨by rw [hx, h3]; exact Int.le_refl _, by rw [hx, h3]; simp; omega, o, t, ?_, h4, h2.1 hx⟩
          rw [hx, h3]; simp
        · have hne : x.toInt ≠ lo := fun z => hx (Int32.toInt_inj.mp (by rw [z, h3]))
          rcases ih r (lo + 1) h5 (h2.2 hx) with ⟨g1, g2⟩ | ⟨g1, g2, off, tgt, g3, g4, g5⟩
          · refine Or.inl ⟨?_, g2⟩
            simp only [List.length_cons]
            omega
          · refine Or.inr ⟨by omega, by simp only [List.length_cons]; omega, off, tgt, ?_, g4, g5⟩
            rw [show (x.toInt - lo).toNat = (x.toInt - (lo + 1)).toNat + 1 by omega, List.getElem?_cons_succ]
            exact g3
  rcases key offs.toList cs lo htb h with ⟨g1, g2⟩ | ⟨g1, g2, off, tgt, g3, g4, g5⟩
  · refine lv_tableOut hexec hb hdg ?_ hd (kk a g2)
    rw [hhi]
    simp at g1
    omega
  · refine lv_tableIn hexec hb hdg (by omega) ?_ (by simpa using g3) g4 (kk tgt g5)
    rw [hhi]
    simp at g2
    omega
end KYH
section KYI
variable {l : Launch} {D : va_G} {c : Nat → ClassId} {adK adV : Nat → Nat} {m : Nat} {p : Program} {e : Env} {R : Room} {s : State} {mm : MethodId} {args : Array Value} {below : List Frame} {meth : Method} {cc : Code} {A : Nat → Prop} {f0 : ky_H} {H : Heap} {locs : List Loc} {arr : Array Slot} {f : ky_H} {cn sn pc a b c1 c2 k : Nat} {v : Int32} {cs : List (Int32 × Nat)} {ls : ky_L} {st : List Value} {Q : ky_Q} {len : Nat}
/-- contracts of the methods out of what the abstract machine says of their entries -/
noncomputable def ky_ws (t : Nat) : List Cond := ky_cwd t :: ky_WS
theorem ky_good {w : Cond} (h : w ∈ ky_WS) : goodWord w = true := (List.mem_filter.mp h).2
set_option maxRecDepth 100000 in
theorem ky_hh_ok : ∀ t, t < 328 → ky_hs t = [] → ky_hh t = [] := by decide +kernel
set_option maxRecDepth 100000 in
theorem ky_mk_lt : ky_mk.all (fun y => decide (y.2.2.1 < 5 ∨ y.2.2.1 = 8 → y.2.2.2.1 < 327)) = true := by decide +kernel
set_option maxRecDepth 100000 in
theorem ky_mk_ow : ky_mk.all (fun y => decide (y.2.2.1 = 0 → ky_ow y.2.2.2.1 < 10)) = true := by decide +kernel
set_option maxRecDepth 100000 in
theorem ky_mx_ok : ∀ w ∈ ([.static Lib.Math.max.name, .initialized "java/lang/Math", .code Lib.Math.max.name Lib.Math.max.code 2 (some .int), .static Lib.Math.min.name, .code Lib.Math.min.name Lib.Math.min.code 2 (some .int), .instanceMethod Lib.objectInit, .code Lib.objectInit ⟨#[0xb1]⟩ 1 none] : List Cond), w ∈ lw_tbl ∧ goodWord w = true := by decide +kernel
theorem ky_mx_w {w : Cond} (h : w ∈ ([.static Lib.Math.max.name, .initialized "java/lang/Math", .code Lib.Math.max.name Lib.Math.max.code 2 (some .int), .static Lib.Math.min.name, .code Lib.Math.min.name Lib.Math.min.code 2 (some .int), .instanceMethod Lib.objectInit, .code Lib.objectInit ⟨#[0xb1]⟩ 1 none] : List Cond)) : w ∈ ky_WS := List.mem_filter.mpr (ky_mx_ok w h)
def ky_hkc : List (Nat × Nat × Nat × Nat) → ky_Hs → Bool
  | [], [] => true
  | (a, b, c, t) :: r, (a', b', c', x) :: r' => decide (a = a' ∧ b = b' ∧ c = c' ∧ t ≠ 0 ∧ x < 4) && (ky_lx.any fun y => y.1 == t && y.2.1 == x) && ky_hkc r r'
  | _, _ => false
set_option maxRecDepth 100000 in
theorem ky_hk_ok : ∀ t, t < 328 → ky_hkc (ky_hh t) (ky_hs t) = true := by decide +kernel
set_option maxRecDepth 100000 in
theorem ky_lx_ok : ky_lx.all (fun y => ky_at y.2.2 (.classLink RL y.1 (ky_xn y.2.1))) = true := by decide +kernel
set_option maxRecDepth 100000 in
theorem ky_hw_ok : ∀ t, t < 328 → ky_hh t = [] ∨ ky_R (ky_ow t) = RL := by decide +kernel
set_option maxRecDepth 100000 in
theorem ky_ct_ok : ∀ k, k < 4 → Cond.castable (ky_xn k) (ky_xn k) ∈ lw_tbl := by decide +kernel
set_option maxHeartbeats 4000000 in
theorem ky_con {t : Nat} {As : List Value} {f : ky_H} {Q : ky_Q} (hfl : l.stackTraces = false) (ht : t < 327) (hAs : ky_cs As ≤ ky_ml t) (hp : ky_Pd l D c adK adV t 0 (ky_ent As (ky_ml t)) [] f 0 0 Q) (sz : Nat) :
    vx_Met l (ky_y t) (ky_ws t) (ky_rm t) (ky_Pc D c adK adV As f sz) (ky_Qc D c (ky_A f sz) f Q) (ky_Xc D c (ky_A f sz) f Q) (ky_ce t) (ky_so t) (ky_A f sz) := by
  have hcls := ky_cls_ok t (by omega)
  have hpl : plainName (ky_y t).cls = true := by rw [hcls]; exact (ky_R_ok _ (ky_ow_ok t (by omega))).1
  have fin : ∀ (p : Program) (e : Env) (s : State) (mm : MethodId) (args : Array Value) (below : List Frame) (meth : Method) (cc : Code) , p.tables.exec = Jvm.exec → cc.code = ky_by t → meth.sig.returnType = ky_rt t → (ky_ws t).all (fun _ => true) = true → (∀ w ∈ ky_ws t, w.before args s = true) → s.vm.findClass (ky_y t).cls = some mm.cls → meth.name = (ky_y t).name → meth.locks = false → cc.maxLocals = ky_ml t → cc.exceptionTable.toList = tableOf (ky_hh t) → ky_Pc D c adK adV As f sz args s →
      W p l e (headSpec (ky_ws t) (ky_rm t)).room s mm args below meth cc s.heap [] 0 0 (vx_MQ below (ky_Qc D c (ky_A f sz) f Q) (ky_Xc D c (ky_A f sz) f Q) args s (ky_ce t) (ky_so t) (ky_A f sz)) (entryFrame mm args (ky_ml t)) := by
    intro p e s mm args below meth cc hx hb hr _ hts hown hname hlocks hml htab hv
    obtain ⟨rfl, hsz, hW, hF, hSc⟩ := hv
    rw [lg_entry_eq]
    refine hp p e _ s mm _ below meth cc (ky_A f sz) f ⟨by omega, hx, hb, hml, hr, by rw [← hcls]; exact hown, hname, hlocks, fun w hw => hts w (List.mem_cons_of_mem _ hw), fun q hq => Or.inr (by rw [← hsz]; exact hq), hF, hSc, htab, Nat.le_refl _, Nat.le_refl _, rfl, rfl, hfl⟩ s.heap [] _ hW (fun _ _ z => z) va_S.rf ?_ (Nat.zero_le _) (Nat.zero_le _)
    have h1 := lv_entry As (n := ky_ml t) (by rw [ky_slen]; exact hAs)
    exact ky_lvm h1 fun q hq => ky_ent_sub As (ky_ml t) 0 q hq
  by_cases hh : ky_hh t = []
  · refine vx_ofW (cc := ky_by t) (maxL := ky_ml t) (ret := ky_rt t) (ws' := ky_WS) hpl (by rw [ky_ws, ky_cwd, if_pos hh]) ?_
    intro p e s mm args below meth cc s₁ B hml hX hv
    refine fin p e s mm args below meth cc B.exec B.bytes B.returns (by simp) (atoms_spec (ws := ky_ws t) B.pre) (findClass_of_methodNamed B.named) (name_of_methodNamed B.named B.method).1 B.notSynchronized hml ?_ hv
    rw [hh]
    cases he : cc.exceptionTable.toList with
    | nil => rfl
    | cons z r => exact (hX z (by rw [he]; exact List.mem_cons_self)).elim
  · refine vx_ofWH (cc := ky_by t) (maxL := ky_ml t) (ret := ky_rt t) (hh := ky_hh t) (ws' := ky_WS) hpl (by rw [ky_ws, ky_cwd, if_neg hh]) ?_
    intro p e s mm args below meth cc s₁ B hml hv
    have hts := atoms_spec (ws := ky_ws t) B.pre
    refine fin p e s mm args below meth cc B.exec B.bytes B.returns (by simp) hts (findClass_of_methodNamed B.named) (name_of_methodNamed B.named B.method).1 B.notSynchronized hml ?_ hv
    exact vx_table (x := ky_y t) (y := ky_y t) (bytes := ky_by t) (maxL' := ky_ml t) (ret' := ky_rt t) B (by
      have h1 := hts _ List.mem_cons_self
      rw [ky_cwd, if_neg hh] at h1
      exact h1)
/-- what a link of a method tells -/
theorem ky_lnk_get {k kind t : Nat} (h : ky_lnk m k kind t = true) : ∃ y, y ∈ ky_mk ∧ y.1 = ky_ow m ∧ y.2.1 = k ∧ y.2.2.1 = kind ∧ y.2.2.2.1 = t ∧ ky_mkc y = true := by
  simp only [ky_lnk, List.any_eq_true, Bool.and_eq_true, beq_iff_eq] at h
  obtain ⟨y, hy, ⟨⟨h1, h2⟩, h3⟩, h4⟩ := h
  exact ⟨y, hy, h1, h2, h3, h4, List.all_eq_true.mp ky_mk_ok y hy⟩
theorem ky_atn_w {p : Nat} {w : Cond} {U : State} (h : ky_atn p w = true) (hN : ky_Nw U) : va_Nw w U := by
  simp only [ky_atn, Bool.and_eq_true, decide_eq_true_eq] at h
  exact hN w (List.mem_of_getElem? h.1) h.2
/-- the words of a callee -/
theorem ky_wsw {t : Nat} (ht : t < 327) (hts : ∀ w ∈ ky_WS, w.before args s = true) : ∀ w ∈ ky_ws t, ∀ (a' : Array Value) (U : State), s.WarmedH U.vm → w.before a' U = true := by
  intro w hw a' U hW
  have h1 : w ∈ ky_WS := by
    rcases List.mem_cons.mp hw with rfl | h
    · exact ky_code_ok t ht
    · exact h
  exact word_at hW (good_of_word (ky_good h1)) (hts w h1)
/-- the handlers -/
theorem ky_hnd_ok (Ac : ky_Ac l D c adK adV m p R s mm args meth cc A f0) {k : Nat} {ce : Cell} {q9 : Addr} {rest : List Value} (hk : k < 4) (hP : ky_Wp D c A f H) (h5 : ky_5 f0 f) (hS : va_S A s.heap H locs) (hl : lv_has arr (ky_ml m) (ky_al 0 ls)) (hcn : cn ≤ ky_ce m) (hsn : sn ≤ ky_so m)
    (h9 : H[q9]? = some ce) (hv9 : ce.vm = .none) (hc9 : s.vm.findClass (ky_xn k) = some ce.cls)
    (h : ky_hnd (ky_hs m) pc k (fun h => ∀ q, ky_Pd l D c adK adV m h ls [.ref q] f cn sn Q) (Q (.inr k) f)) :
    vx_W p l e R s mm args below meth cc H locs cn sn (vx_MQ below (ky_Qc D c A f0 Q) (ky_Xc D c A f0 Q) args s (ky_ce m) (ky_so m) A) (F0 mm pc arr rest) q9 := by
  obtain ⟨hm, hx, hb, hml, hr, hown, hname, hlocks, hts, hA, hF, hSc, htab, hdp, hlo, hce, hso, hfl⟩ := id Ac
  have key : ∀ (hh : List (Nat × Nat × Nat × Nat)) (hs : ky_Hs) (pre : List ExceptionTableEntry), ky_hkc hh hs = true → (hh = [] ∨ ky_R (ky_ow m) = RL) → cc.exceptionTable.toList = pre ++ tableOf hh →
      (∀ z ∈ pre, covers z pc = false ∨ (z.catchType ≠ 0 ∧ ∃ nm : String, (Cond.classLink (ky_R (ky_ow m)) z.catchType nm).before args s = true ∧ va_Nc (ky_xn k) nm s)) →
      ky_hnd hs pc k (fun h => ∀ q, ky_Pd l D c adK adV m h ls [.ref q] f cn sn Q) (Q (.inr k) f) →
      vx_W p l e R s mm args below meth cc H locs cn sn (vx_MQ below (ky_Qc D c A f0 Q) (ky_Xc D c A f0 Q) args s (ky_ce m) (ky_so m) A) (F0 mm pc arr rest) q9 := by
    intro hh
    induction hh with
    | nil =>
      intro hs pre h1 _ h3 h4 h5'
      cases hs with
      | cons y r => simp [ky_hkc] at h1
      | nil =>
        refine vx_outP hown hlocks (by rw [h3]; simpa [tableOf] using h4) h9 hv9 hc9 (fun t ht hal => ⟨⟨k, f, hk, rfl, h5', by rw [ht]; exact hP, h5⟩, hS.F ht⟩) hS.2.2 hcn hsn
    | cons z hh ih =>
      intro hs pre h1 hRL h3 h4 h5'
      obtain ⟨a1, a2, a3, a4⟩ := z
      cases hs with
      | nil => simp [ky_hkc] at h1
      | cons y r =>
        obtain ⟨b1, b2, b3, b4⟩ := y
        simp only [ky_hkc, Bool.and_eq_true, decide_eq_true_eq, List.any_eq_true, beq_iff_eq] at h1
        obtain ⟨⟨⟨rfl, rfl, rfl, ht0, hx4⟩, y, hy, hy1, hy2⟩, h1⟩ := h1
        have hRL' : ky_R (ky_ow m) = RL := hRL.resolve_left (by simp)
        have hlink : Cond.classLink (ky_R (ky_ow m)) a4 (ky_xn b4) ∈ ky_WS := by
          have h6 := List.all_eq_true.mp ky_lx_ok y hy
          rw [hy1, hy2] at h6
          rw [hRL']; exact ky_at_ws h6
        simp only [ky_hnd] at h5'
        by_cases hcov : a1 ≤ pc ∧ pc < a2
        · by_cases hbk : b4 = k
          · rw [if_pos ⟨hcov.1, hcov.2, hbk⟩] at h5'
            subst hbk
            exact vx_catch hown pre ⟨a1, a2, a3, a4⟩ (tableOf hh) h3 h4 (by simp [covers, hcov]) ht0 (hts _ hlink) (va_Nw.use rfl (hF.2.2.2.2.1.2.1 _ (ky_ct_ok b4 hk) rfl)) h9 hv9 hc9 (h5' q9 p e R s mm args below meth cc A f0 Ac H locs arr hP h5 hS hl hcn hsn)
          · rw [if_neg (fun z => hbk z.2.2)] at h5'
            refine ih r (pre ++ [⟨a1, a2, a3, a4⟩]) h1 (Or.inr hRL') (by rw [h3]; simp [tableOf]) ?_ h5'
            intro z hz
            rcases List.mem_append.mp hz with hz | hz
            · exact h4 z hz
            · obtain rfl := List.mem_singleton.mp hz
              exact Or.inr ⟨ht0, ky_xn b4, hts _ hlink, hF.2.2.2.2.2 k b4 hk hx4 (Ne.symm hbk)⟩
        · rw [if_neg (fun z => hcov ⟨z.1, z.2.1⟩)] at h5'
          refine ih r (pre ++ [⟨a1, a2, a3, a4⟩]) h1 (Or.inr hRL') (by rw [h3]; simp [tableOf]) ?_ h5'
          intro z hz
          rcases List.mem_append.mp hz with hz | hz
          · exact h4 z hz
          · obtain rfl := List.mem_singleton.mp hz
            exact Or.inl (by simp [covers]; omega)
  exact key (ky_hh m) (ky_hs m) [] (ky_hk_ok m hm) (ky_hw_ok m hm) (by rw [htab]; rfl) (fun z hz => by cases hz) h
theorem ky_vl_l (v : Option Value) (r : List Value) : ky_vl v r = v.toList ++ r := by cases v <;> rfl
/-- behind a call that came back or threw -/
theorem ky_beh (Ac : ky_Ac l D c adK adV m p R s mm args meth cc A f0) {t : Nat} {Rq : ky_Q} {r st0 : List Value} (hP : ky_Wp D c A f H) (h5 : ky_5 f0 f) (hS : va_S A s.heap H locs) (hl : lv_has arr (ky_ml m) (ky_al 0 ls)) (hcn : cn + ky_ce t ≤ ky_ce m) (hsn : sn + ky_so t ≤ ky_so m)
    (hr : vx_Run p l e R s mm args below meth cc H locs cn sn (ky_ce t) (ky_so t) (F0 mm pc arr st0) r (fun st oc t => (∃ v f', oc = .returned v ∧ Rq (.inl v) f' ∧ ky_Wp D c (ky_A f H.size) f' t.heap ∧ ky_5 f f') ∧ va_F (ky_A f H.size) st t) (fun E st t => (∃ k f', k < 4 ∧ E = ky_xn k ∧ Rq (.inr k) f' ∧ ky_Wp D c (ky_A f H.size) f' t.heap ∧ ky_5 f f') ∧ va_F (ky_A f H.size) st t) (ky_A f H.size))
    (h : ∀ o g, Rq o g → ky_aft (ky_hs m) true pc ls r (cn + ky_ce t) (sn + ky_so t) (fun pc' ls' st' f' cn' sn' => ky_Pd l D c adK adV m pc' ls' st' f' cn' sn' Q) Q o g) :
    W p l e R s mm args below meth cc H locs cn sn (vx_MQ below (ky_Qc D c A f0 Q) (ky_Xc D c A f0 Q) args s (ky_ce m) (ky_so m) A) (F0 mm pc arr st0) := by
  obtain ⟨hm, hx, hb, hml, hrr, hown, hname, hlocks, hts, hA, hF, hSc, htab, hdp, hlo, hce, hso, hfl⟩ := id Ac
  have hin : ∀ q, ky_A f H.size q → A q := fun q hq => by
    rcases hq with hq | hq
    · exact ky_Wp_A hP hq
    · exact hA q (Nat.le_trans hS.1 hq)
  refine ky_callg hr hS (fun q _ => hin q) hin (fun E ce9 q9 t9 H1 locs1 e1 hal hb9 hz hS1 h9 hv9 hc9 => ?_) (fun v t9 H1 locs1 e1 hal hb9 hz hS1 => ?_)
  · obtain ⟨k, f', hk, rfl, hq, hW, h5'⟩ := hb9
    have h1 := h (.inr k) f' hq
    simp only [ky_aft, if_true] at h1
    rw [e1] at hW
    exact ky_hnd_ok Ac hk (ky_Wp_in hW fun q hq _ => hin q hq) (fun b x hb => h5 b x (h5' b x hb)) hS1 hl hcn hsn h9 hv9 hc9 h1
  · obtain ⟨v', f', e2, hq, hW, h5'⟩ := hb9
    cases e2
    have h1 := h (.inl v) f' hq
    simp only [ky_aft] at h1
    rw [e1] at hW
    rw [← ky_vl_l]
    exact h1 p e R s mm args below meth cc A f0 Ac H1 locs1 arr (ky_Wp_in hW fun q hq _ => hin q hq) (fun b x hb => h5 b x (h5' b x hb)) hS1 hl hcn hsn
/-- .. the same, where it never throws -/
theorem ky_beh0 (Ac : ky_Ac l D c adK adV m p R s mm args meth cc A f0) {t : Nat} {Rq : ky_Q} {r st0 : List Value} (hP : ky_Wp D c A f H) (h5 : ky_5 f0 f) (hS : va_S A s.heap H locs) (hl : lv_has arr (ky_ml m) (ky_al 0 ls)) (hcn : cn + ky_ce t ≤ ky_ce m) (hsn : sn + ky_so t ≤ ky_so m)
    (hr : va_Run p l e R s mm args below meth cc H locs cn sn (ky_ce t) (ky_so t) (F0 mm pc arr st0) r (fun st oc t => (∃ v f', oc = .returned v ∧ Rq (.inl v) f' ∧ ky_Wp D c (ky_A f H.size) f' t.heap ∧ ky_5 f f') ∧ va_F (ky_A f H.size) st t) (ky_A f H.size))
    (h : ∀ o g, Rq o g → ky_aft (ky_hs m) false pc ls r (cn + ky_ce t) (sn + ky_so t) (fun pc' ls' st' f' cn' sn' => ky_Pd l D c adK adV m pc' ls' st' f' cn' sn' Q) Q o g) :
    W p l e R s mm args below meth cc H locs cn sn (vx_MQ below (ky_Qc D c A f0 Q) (ky_Xc D c A f0 Q) args s (ky_ce m) (ky_so m) A) (F0 mm pc arr st0) := by
  obtain ⟨hm, hx, hb, hml, hrr, hown, hname, hlocks, hts, hA, hF, hSc, htab, hdp, hlo, hce, hso, hfl⟩ := id Ac
  have hin : ∀ q, ky_A f H.size q → A q := fun q hq => by
    rcases hq with hq | hq
    · exact ky_Wp_A hP hq
    · exact hA q (Nat.le_trans hS.1 hq)
  refine ky_callh hr hS (fun q _ => hin q) hin (fun v t9 H1 locs1 e1 hal hb9 hz hS1 => ?_)
  obtain ⟨v', f', e2, hq, hW, h5'⟩ := hb9
  cases e2
  have h1 := h (.inl v) f' hq
  simp only [ky_aft] at h1
  rw [e1] at hW
  rw [← ky_vl_l]
  exact h1 p e R s mm args below meth cc A f0 Ac H1 locs1 arr (ky_Wp_in hW fun q hq _ => hin q hq) (fun b x hb => h5 b x (h5' b x hb)) hS1 hl hcn hsn
theorem ky_cal_get {inst : Nat} (h : ky_cal m a b c1 c2 inst = true) : 10 ≤ a ∧ a - 10 < 328 ∧ ky_dp (a - 10) + 1 ≤ ky_dp m ∧ 8 + (ky_ml (a - 10) + 11) + ky_lo (a - 10) ≤ ky_lo m ∧ c1 = ky_ce (a - 10) ∧ c2 = ky_so (a - 10) ∧ (ky_pn (ky_y (a - 10))).map (fun k => k + inst) = some b := by
  simp only [ky_cal, Bool.and_eq_true, decide_eq_true_eq] at h
  exact ⟨h.1.1, h.1.2.1, h.1.2.2.1, h.1.2.2.2.1, h.1.2.2.2.2.1, h.1.2.2.2.2.2, h.2⟩
theorem ky_pn_get {t n b inst : Nat} (h : (ky_pn (ky_y t)).map (fun k => k + inst) = some b) (hn : n + inst = b) : ∀ sig, parseMethodDescriptor (ky_y t).desc = some sig → n = sig.parameters.length := by
  intro sig hs
  simp only [ky_pn, hs, Option.map_some, Option.some.injEq] at h
  omega
set_option maxRecDepth 100000 in
theorem ky_xk3 : ∀ y ∈ ky_xk, y.2.2.1 = 3 → y.2.2.2.2.1 = 1 ∧ y.2.2.2.2.2.1 = 258 := by decide +kernel
set_option maxRecDepth 100000 in
theorem ky_xi3 : Cond.initialized (ky_xn 3) ∈ ky_WS := List.mem_filter.mpr (by decide +kernel)
set_option maxRecDepth 100000 in
theorem ky_xw3 : ∀ w ∈ (ky_nat RX8 258 (ky_xn 3) "java/lang/RuntimeException" ["java/lang/Exception"]).filter vx_no, w ∈ lw_tbl ∧ (goodWord w = true ∨ ky_wk w = true) := by decide +kernel
set_option maxRecDepth 100000 in
theorem ky_tx_ok : (ky_tx.all fun t => decide (t.length < 1000) && t.all fun c => decide (c < 256)) = true := by decide +kernel
theorem ky_sl_lt (k : Nat) : ky_sl ky_tx k < 2 ^ 31 := by
  unfold ky_sl
  by_cases h : k < ky_tx.length
  · have h1 := List.all_eq_true.mp ky_tx_ok ky_tx[k] (List.getElem_mem h)
    simp only [Bool.and_eq_true, decide_eq_true_eq] at h1
    rw [List.getD_eq_getElem?_getD, List.getElem?_eq_getElem h]
    exact Nat.lt_trans h1.1 (by decide)
  · rw [List.getD_eq_getElem?_getD, List.getElem?_eq_none (by omega)]
    decide
theorem ky_sc_lt (k j : Nat) : (ky_tx.getD k []).getD j 0 < 256 := by
  have key : ∀ t : List Nat, (t.all fun c => decide (c < 256)) = true → t.getD j 0 < 256 := by
    intro t ht
    rw [List.getD_eq_getElem?_getD]
    by_cases h : j < t.length
    · rw [List.getElem?_eq_getElem h]
      simpa using List.all_eq_true.mp ht t[j] (List.getElem_mem h)
    · rw [List.getElem?_eq_none (by omega)]; decide
  apply key
  rw [List.getD_eq_getElem?_getD]
  by_cases h : k < ky_tx.length
  · have h1 := List.all_eq_true.mp ky_tx_ok ky_tx[k] (List.getElem_mem h)
    rw [Bool.and_eq_true] at h1
    rw [List.getElem?_eq_getElem h]
    exact h1.2
  · rw [List.getElem?_eq_none (by omega)]; rfl
set_option maxRecDepth 100000 in
theorem ky_255 : ∀ c, c < 256 → nI c &&& 255 = nI c := by decide +kernel
theorem ky_wk_ot {w : Cond} (h : ky_wk w = true) : w.onTables = true := by cases w <;> first | rfl | (simp [ky_wk] at h)
set_option maxRecDepth 100000 in
theorem ky_fit : ∀ k, k < 4 → Bundle.fit (ky_xn k) = true := by decide +kernel
set_option maxRecDepth 100000 in
theorem ky_fitu : ∀ n ∈ ky_xup, Bundle.fit n = true := by decide +kernel
theorem ky_thr (Ac : ky_Ac l D c adK adV m p R s mm args meth cc A f0) (hdg : decode (ky_by m) pc = .ok (.new k, 3))
    (hck : ((ky_xk.any fun y => y.1 == ky_ow m && y.2.1 == k && y.2.2.1 == a - 100 && y.2.2.2.1 == b && y.2.2.2.2.1 == c1 && y.2.2.2.2.2.1 == c2) && decide (ky_hs m = [] ∧ 6 ≤ ky_dp m ∧ 82 ≤ ky_lo m)
        && (if c1 = 0 then decide (decode (ky_by m) (pc + 3) = .ok (.dup, 1)) && decide (decode (ky_by m) (pc + 4) = .ok (.ldc b, 2)) && decide (decode (ky_by m) (pc + 6) = .ok (.invokespecial c2, 3)) && decide (decode (ky_by m) (pc + 9) = .ok (.athrow, 1))
            else decide (decode (ky_by m) (pc + 3) = .ok (.dup, 1)) && decide (decode (ky_by m) (pc + 4) = .ok (.ldc_w b, 3)) && decide (decode (ky_by m) (pc + 7) = .ok (.invokespecial c2, 3)) && decide (decode (ky_by m) (pc + 10) = .ok (.athrow, 1)))) = true)
    (h : cn + 1 ≤ ky_ce m ∧ sn + 6 ≤ ky_so m ∧ st = [] ∧ Q (.inr (a - 100)) f) (hP : ky_Wp D c A f H) (h5 : ky_5 f0 f) (hS : va_S A s.heap H locs) (hl : lv_has arr (ky_ml m) (ky_al 0 ls)) :
    W p l e R s mm args below meth cc H locs cn sn (vx_MQ below (ky_Qc D c A f0 Q) (ky_Xc D c A f0 Q) args s (ky_ce m) (ky_so m) A) (F0 mm pc arr st) := by
  obtain ⟨hm, hx, hb, hml, hr, hown, hname, hlocks, hts, hA, hF, hSc, htab, hdp, hlo, hce, hso, hfl⟩ := id Ac
  obtain ⟨hcn, hsn, rfl, hq⟩ := h
  simp only [Bool.and_eq_true, decide_eq_true_eq, List.any_eq_true, beq_iff_eq] at hck
  obtain ⟨⟨⟨⟨y1, y2, y3, y4, y5, y6, y7, y8⟩, hy, ⟨⟨⟨⟨e1, e2⟩, e3⟩, e4⟩, e5⟩, e6⟩, hhs, hd6, hl82⟩, hdec⟩ := hck
  dsimp only at e1 e2 e3 e4 e5 e6
  have hyc := List.all_eq_true.mp ky_xk_ok _ hy
  simp only [ky_xkc, Bool.and_eq_true, decide_eq_true_eq] at hyc
  obtain ⟨⟨hy8, hk4, hyx⟩, hlk⟩ := hyc
  obtain ⟨tx, sa, hstr⟩ := hF.2.2.2.2.1.1.2 _ hy
  dsimp only at hstr
  rw [ky_hh_ok m hm hhs] at htab
  have hout : ∀ (x : ExceptionTableEntry) (k9 : Nat), x ∈ cc.exceptionTable.toList → covers x k9 = false := by
    intro x k9 hx9
    rw [htab] at hx9
    cases hx9
  have hXc : ∀ t : State, s.vm.Alike t.vm → H.size ≤ t.heap.size → (∀ q : Nat, q < H.size → t.heap[q]? = H[q]?) → ky_Xc D c A f0 Q (ky_xn y3) s t := by
    intro t _ hz he
    exact ⟨⟨y3, f, hk4, rfl, by rw [e3]; exact hq, ky_Wp_ext hP he, h5⟩, Nat.le_trans hS.1 hz, fun q hq1 hq2 => by rw [he q (Nat.lt_of_lt_of_le hq1 hS.1)]; exact hS.2.1 q hq1 hq2⟩
  have hlk' := ky_at_ws hlk
  subst e2
  subst e4
  subst e6
  subst hy8
  rw [← e1] at hown
  have hgl := ky_good hlk'
  by_cases h3 : y3 = 3
  · subst h3
    obtain ⟨g5, rfl⟩ := ky_xk3 _ hy rfl
    dsimp only at g5
    rw [if_neg (show ¬ c1 = 0 by rw [← e5, g5]; decide)] at hdec
    simp only [Bool.and_eq_true, decide_eq_true_eq] at hdec
    obtain ⟨⟨⟨d3, d4⟩, d7⟩, d10⟩ := hdec
    have hat : ∀ w ∈ (ky_nat RX8 258 (ky_xn 3) "java/lang/RuntimeException" ["java/lang/Exception"]).filter vx_no, w.before args s = true := by
      intro w hw9
      obtain ⟨g1, g2 | g2⟩ := ky_xw3 w hw9
      · exact hts _ (List.mem_filter.mpr ⟨g1, g2⟩)
      · exact va_Nw.use (ky_wk_ot g2) (hF.2.2.2.2.1.2.1 w g1 g2)
    have hgood : ∀ w ∈ Cond.classLink RX8 y2 (ky_xn 3) :: Cond.initialized (ky_xn 3) :: (ky_nat RX8 258 (ky_xn 3) "java/lang/RuntimeException" ["java/lang/Exception"]).filter vx_no, vx_ot w = true := by
      intro w hw9
      rcases List.mem_cons.mp hw9 with rfl | hw9
      · exact Bool.or_eq_true _ _ |>.mpr (Or.inr hgl)
      rcases List.mem_cons.mp hw9 with rfl | hw9
      · exact Bool.or_eq_true _ _ |>.mpr (Or.inr (ky_good ky_xi3))
      obtain ⟨g1, g2 | g2⟩ := ky_xw3 w hw9
      · exact Bool.or_eq_true _ _ |>.mpr (Or.inr g2)
      · exact Bool.or_eq_true _ _ |>.mpr (Or.inl (ky_wk_ot g2))
    refine ky_makeN (A := A) hx hb hfl hown (ky_fit 3 hk4) (ky_fitu _ (by decide)) (fun n hn => ky_fitu n (by rw [List.mem_singleton.mp hn]; decide)) (hts _ hlk') (hts _ ky_xi3) hstr hat hgood hF.2.1 hF.2.2.1 hS (hl.1.trans hml.symm) hdg d3 d4 d7 (by show 5 < R.frames; omega) (by show 0 + (13 * 3 + 43) ≤ R.locals; omega) (by rw [hce]; exact hcn) (by rw [hso]; exact hsn) (fun q H1 ce hz he hq1 hv1 hq2 => ?_)
    refine ky_athrow hx hb d10 ?_
    exact vx_out (fun x hx9 => hout x _ hx9) hlocks hq1 hv1 hq2 (fun t ht hal => hXc t hal (by rw [ht]; exact hz) (fun q hq => by rw [ht]; exact he q hq)) hS.2.2 hcn hsn
  · have hx3 := hyx.resolve_left h3
    have hw := ky_xw_ok _ hx3
    simp only [ky_xwc, Bool.and_eq_true, decide_eq_true_eq] at hw
    obtain ⟨⟨hi1, hi2⟩, hw⟩ := hw
    have hw2 : ∀ w ∈ vx_atS RX8 y6 (ky_xn y3) ky_xup, w ∈ lw_tbl ∧ (goodWord w = true ∨ ky_wk w = true) := by
      intro w hw9
      have := List.all_eq_true.mp hw w hw9
      simp only [Bool.and_eq_true, decide_eq_true_eq, Bool.or_eq_true] at this
      exact this
    have hat : ∀ w ∈ vx_atS RX8 y6 (ky_xn y3) ky_xup, w.before args s = true := by
      intro w hw9
      obtain ⟨g1, g2 | g2⟩ := hw2 w hw9
      · exact hts _ (List.mem_filter.mpr ⟨g1, g2⟩)
      · exact va_Nw.use (ky_wk_ot g2) (hF.2.2.2.2.1.2.1 w g1 g2)
    have hgood : ∀ w ∈ Cond.classLink RX8 y2 (ky_xn y3) :: Cond.initialized (ky_xn y3) :: vx_atS RX8 y6 (ky_xn y3) ky_xup, vx_ot w = true := by
      intro w hw9
      rcases List.mem_cons.mp hw9 with rfl | hw9
      · exact Bool.or_eq_true _ _ |>.mpr (Or.inr hgl)
      rcases List.mem_cons.mp hw9 with rfl | hw9
      · exact Bool.or_eq_true _ _ |>.mpr (Or.inr hi2)
      obtain ⟨g1, g2 | g2⟩ := hw2 w hw9
      · exact Bool.or_eq_true _ _ |>.mpr (Or.inr g2)
      · exact Bool.or_eq_true _ _ |>.mpr (Or.inl (ky_wk_ot g2))
    by_cases hc1 : c1 = 0
    · rw [if_pos hc1] at hdec
      simp only [Bool.and_eq_true, decide_eq_true_eq] at hdec
      obtain ⟨⟨⟨d3, d4⟩, d6⟩, d9⟩ := hdec
      exact vx_throwS hx hb hfl hown (ky_fit y3 hk4) ky_fitu (hts _ hlk') (hts _ (List.mem_filter.mpr ⟨hi1, hi2⟩)) hstr hat hgood hF.2.1 hF.2.2.1 hS (hl.1.trans hml.symm) hdg d3 d4 d6 d9 (fun x hx9 => hout x _ hx9) (by show 5 < R.frames; omega) (by show 0 + (13 * 3 + 43) ≤ R.locals; omega) (by rw [hce]; exact hcn) (by rw [hso]; exact hsn) hlocks hXc hS.2.2 hcn hsn
    · rw [if_neg hc1] at hdec
      simp only [Bool.and_eq_true, decide_eq_true_eq] at hdec
      obtain ⟨⟨⟨d3, d4⟩, d6⟩, d9⟩ := hdec
      exact vx_throwSW hx hb hfl hown (ky_fit y3 hk4) ky_fitu (hts _ hlk') (hts _ (List.mem_filter.mpr ⟨hi1, hi2⟩)) hstr hat hgood hF.2.1 hF.2.2.1 hS (hl.1.trans hml.symm) hdg d3 d4 d6 d9 (fun x hx9 => hout x _ hx9) (by show 5 < R.frames; omega) (by show 0 + (13 * 3 + 43) ≤ R.locals; omega) (by rw [hce]; exact hcn) (by rw [hso]; exact hsn) hlocks hXc hS.2.2 hcn hsn
set_option maxHeartbeats 4000000 in
theorem ky_ivi (Ac : ky_Ac l D c adK adV m p R s mm args meth cc A f0) (hdg : decode (ky_by m) pc = .ok (.invokevirtual k, len))
    (hck : ky_ci m pc (.invokevirtual k) len a b c1 c2 v cs = true)
    (h : ky_stp (ky_GG adK) (ky_ce m) (ky_so m) (ky_hs m) (.invokevirtual k) a b c1 c2 v cs pc ls st f cn sn (fun pc' ls' st' f' cn' sn' => ky_Pd l D c adK adV m pc' ls' st' f' cn' sn' Q) (fun m' As f' Q' => ∃ R, ky_cs As ≤ ky_ml m' ∧ ky_ii m' As ∧ ky_Pd l D c adK adV m' 0 (ky_ent As (ky_ml m')) [] f' 0 0 R ∧ ∀ o g, R o g → Q' o g) Q) (hP : ky_Wp D c A f H) (h5 : ky_5 f0 f) (hS : va_S A s.heap H locs) (hl : lv_has arr (ky_ml m) (ky_al 0 ls)) (hcn : cn ≤ ky_ce m) (hsn : sn ≤ ky_so m) :
    W p l e R s mm args below meth cc H locs cn sn (vx_MQ below (ky_Qc D c A f0 Q) (ky_Xc D c A f0 Q) args s (ky_ce m) (ky_so m) A) (F0 mm pc arr st) := by
  obtain ⟨hm, hx, hb, hml, hr, hown, hname, hlocks, hts, hA, hF, hSc, htab, hdp, hlo, hce, hso, hfl⟩ := id Ac
  simp only [ky_ci, Bool.and_eq_true, decide_eq_true_eq] at hck
  obtain ⟨rfl, hck⟩ := hck
  simp only [ky_stp] at h
  by_cases a3 : a = 3
  · rw [if_pos a3] at h hck
    simp only [Bool.and_eq_true, decide_eq_true_eq] at hck
    obtain ⟨hlk, hd1, hl1⟩ := hck
    obtain ⟨q, r, rfl, k9, hk9, rfl, hrs, k2⟩ := ky_sr_e h
    obtain ⟨⟨y1, y2, y3, y4, y5⟩, hy, hy1, hy2, hy3, hy4, hyc⟩ := ky_lnk_get hlk
    dsimp only at hy1 hy2 hy3 hy4
    subst hy3; subst hy4
    simp only [ky_mkc, if_true, if_false, Nat.reduceEqDiff] at hyc
    rw [hy1, hy2] at hyc
    obtain ⟨g1, g2, g3, g4⟩ := hF.2.2.2.1.1 k9 hk9
    have hrcv : ∃ cell : Cell, H[adK k9]? = some cell ∧ cell.vm.isStatics = false ∧ s.vm.findClass RJ0 = some cell.cls := by
      obtain ⟨cell, h1, h2, h3, -⟩ := g1.kept hS.2.1
      exact ⟨cell, h1, h2, h3⟩
    refine ky_callp (v := some (.int (nI (ky_sl ky_tx k9)))) (va_runV (C := RJ0) (As := []) (rest := r) (n := 0) (Ts := ky_WS) (nL := ky_ml m) (own := ky_R (ky_ow m)) ⟨hx, hb, hml, hown, hts⟩ (ky_jle l (a := adK k9) (v := adV k9) (n := ky_sl ky_tx k9) (g := fun j => nI ((ky_tx.getD k9 []).getD j 0))) ⟨⟨rfl, rfl, Nat.le_trans (Nat.le_trans (by decide) hd1) hdp, Nat.le_trans (Nat.le_trans (by decide) hl1) hlo, ky_jwsw (ky_jd_ok _ (by simp)) hts, List.mem_cons_self, (hts _ (ky_jd_ok _ (by simp))), (hts (.initialized RJ0) (ky_jd_ok _ (by simp))), ⟨by decide +kernel, by decide +kernel⟩, ky_jpn (by decide +kernel), hts _ (ky_at_ws hyc)⟩, (hts _ (ky_jd_ok _ (by simp))), (hts _ (ky_jd_ok _ (by simp)))⟩ ⟨ky_jS1b, hrcv, fun U hU hW => ⟨rfl, ky_S1_to hW.alike hU hS g1 g2 g3 g4 hF.2.2.2.1.2.1 hF.2.2.2.1.2.2⟩⟩ rfl rfl hl.1 rfl (lv_room (by rw [ky_cs_sum]; exact hrs)) hdg ⟨by rw [hce]; exact hcn, by rw [hso]; exact hsn⟩) hS (fun H1 locs1 e1 hS1 => ?_)
    exact k2 p e R s mm args below meth cc A f0 Ac H1 locs1 arr (ky_Wp_ext hP e1) h5 hS1 hl hcn hsn
  rw [if_neg a3] at h hck
  by_cases a4 : a = 4
  · rw [if_pos a4] at h hck
    simp only [Bool.and_eq_true, decide_eq_true_eq] at hck
    obtain ⟨hlk, hd1, hl1⟩ := hck
    obtain ⟨q, i, r, rfl, k9, j, hk9, rfl, rfl, hj, hrs, k2⟩ := ky_sai_e h
    obtain ⟨⟨y1, y2, y3, y4, y5⟩, hy, hy1, hy2, hy3, hy4, hyc⟩ := ky_lnk_get hlk
    dsimp only at hy1 hy2 hy3 hy4
    subst hy3; subst hy4
    simp only [ky_mkc, if_true, if_false, Nat.reduceEqDiff] at hyc
    rw [hy1, hy2] at hyc
    obtain ⟨g1, g2, g3, g4⟩ := hF.2.2.2.1.1 k9 hk9
    have hrcv : ∃ cell : Cell, H[adK k9]? = some cell ∧ cell.vm.isStatics = false ∧ s.vm.findClass RJ0 = some cell.cls := by
      obtain ⟨cell, h1, h2, h3, -⟩ := g1.kept hS.2.1
      exact ⟨cell, h1, h2, h3⟩
    refine ky_callp (v := some (.int (nI ((ky_tx.getD k9 []).getD j 0) &&& 255))) (va_runV (C := RJ0) (As := [.int (nI j)]) (rest := r) (n := 1) (Ts := ky_WS) (nL := ky_ml m) (own := ky_R (ky_ow m)) ⟨hx, hb, hml, hown, hts⟩ (ky_jca l (a := adK k9) (v := adV k9) (n := ky_sl ky_tx k9) (g := fun j => nI ((ky_tx.getD k9 []).getD j 0)) hj (ky_sl_lt k9)) ⟨⟨rfl, rfl, Nat.le_trans (Nat.le_trans (by decide) hd1) hdp, Nat.le_trans (Nat.le_trans (by decide) hl1) hlo, ky_jwsw (ky_jd_ok _ (by simp)) hts, List.mem_cons_self, (hts _ (ky_jd_ok _ (by simp))), (hts (.initialized RJ0) (ky_jd_ok _ (by simp))), ⟨by decide +kernel, by decide +kernel⟩, ky_jpn (by decide +kernel), hts _ (ky_at_ws hyc)⟩, (hts _ (ky_jd_ok _ (by simp))), (hts _ (ky_jd_ok _ (by simp)))⟩ ⟨ky_jS1b, hrcv, fun U hU hW => ⟨rfl, ky_S1_to hW.alike hU hS g1 g2 g3 g4 hF.2.2.2.1.2.1 hF.2.2.2.1.2.2⟩⟩ rfl rfl hl.1 rfl (lv_room (by rw [ky_cs_sum]; exact hrs)) hdg ⟨by rw [hce]; exact hcn, by rw [hso]; exact hsn⟩) hS (fun H1 locs1 e1 hS1 => ?_)
    rw [ky_255 _ (ky_sc_lt k9 j)]
    exact k2 p e R s mm args below meth cc A f0 Ac H1 locs1 arr (ky_Wp_ext hP e1) h5 hS1 hl hcn hsn
  rw [if_neg a4] at h hck
  simp only [Bool.and_eq_true, decide_eq_true_eq] at hck
  obtain ⟨⟨hlk, hcal⟩, rfl, hhs⟩ := hck
  obtain ⟨y, hy, hy1, hy2, hy3, hy4, hyc⟩ := ky_lnk_get hlk
  obtain ⟨ha10, ht8, hd1, hl1, rfl, rfl, hpn⟩ := ky_cal_get hcal
  have ht : a - 10 < 327 := by
    have := List.all_eq_true.mp ky_mk_lt y hy
    simp only [decide_eq_true_eq] at this
    rw [← hy4]; exact this (Or.inl (by rw [hy3]; decide))
  obtain ⟨y1, y2, y3, y4, y5⟩ := y
  dsimp only at hy1 hy2 hy3 hy4
  subst hy3
  simp only [ky_mkc, Bool.and_eq_true] at hyc
  rw [hy1, hy2, hy4] at hyc
  obtain ⟨⟨⟨hw1, hw2⟩, hw3⟩, hw4⟩ := hyc
  obtain ⟨As0, r, hlen, rfl, hrs, hc1, hc2, hrc, Rq, hcs, hii, hPq, hRq⟩ := ky_pop_e b st [] _ h
  rw [List.append_nil] at hrc hcs hPq
  have hAs : ∃ q As', As0.reverse = .ref q :: As' ∧ ∃ fs, f q = some (.inr (ky_ow (a - 10), fs)) := by
    cases hAr : As0.reverse with
    | nil => rw [hAr] at hrc; exact hrc.elim
    | cons z As' =>
      rw [hAr] at hrc
      cases z <;> first | exact hrc.elim | skip
      obtain ⟨fs, hfs, -⟩ := ky_obj_e hrc
      exact ⟨_, _, rfl, fs, hfs⟩
  obtain ⟨q, As', hAr, fs, hfs⟩ := hAs
  have hA0 : As0 = As'.reverse ++ [.ref q] := by rw [← List.reverse_reverse As0, hAr, List.reverse_cons]
  have hlen' : As'.length + 1 = b := by rw [← hlen, hA0]; simp
  have hcls := ky_cls_ok (a - 10) ht8
  have hR := ky_R_ok _ (ky_ow_ok (a - 10) ht8)
  have hoA : ky_ow (a - 10) < 10 := by
    have := List.all_eq_true.mp ky_mk_ow _ hy
    simp only [decide_eq_true_eq] at this
    rw [← hy4]; exact this trivial
  have hM := ky_con hfl ht hcs hPq H.size
  rw [hAr] at hM
  have hh := ky_hh_ok (a - 10) ht8 hhs
  have hcwd : ky_cwd (a - 10) = .code (ky_y (a - 10)) (ky_by (a - 10)) (ky_ml (a - 10)) (ky_rt (a - 10)) := by rw [ky_cwd, if_pos hh]
  obtain ⟨L, hP1, hD1, hL, h6⟩ := id hP
  obtain ⟨k0, hk0⟩ := ky_Wp_at (D := D) (c := c) hL hfs rfl
  refine ky_beh Ac (st0 := As0 ++ r) hP h5 hS hl hc1 hc2 (vx_runV (C := (ky_y (a - 10)).cls) (n := As'.length) (Ts := ky_WS) (nL := ky_ml m) (own := ky_R (ky_ow m)) ⟨hx, hb, hml, hown, hts⟩ hM
    ⟨⟨rfl, rfl, Nat.le_trans hd1 hdp, Nat.le_trans hl1 hlo, ky_wsw ht hts, by rw [← hcwd]; exact List.mem_cons_self, by rw [← hcwd]; exact hts _ (ky_code_ok _ ht), hts _ (ky_at_ws hw4), by rw [hcls]; exact hR.2, ky_pn_get hpn hlen', hts _ (ky_at_ws hw1)⟩, hts _ (ky_at_ws hw2), hts _ (ky_at_ws hw3)⟩
    ⟨ky_Pc_blind, by rw [hcls, ← ky_vR _ hoA]; exact va_recv hF.1 hP1 (ky_vc_get hoA) hk0, fun U hU hW => by rw [← hAr] at *; exact ky_Pc_of hA hF hSc h5 hP hS U hU hW⟩
    rfl rfl hl.1 (by show As0 ++ r = _; rw [hA0]; simp) (lv_room (by rw [ky_cs_sum]; exact hrs)) hdg ⟨by rw [hce]; exact hc1, by rw [hso]; exact hc2⟩) hRq
set_option maxHeartbeats 4000000 in
theorem ky_ist (Ac : ky_Ac l D c adK adV m p R s mm args meth cc A f0) (hdg : decode (ky_by m) pc = .ok (.invokestatic k, len))
    (hck : ky_ci m pc (.invokestatic k) len a b c1 c2 v cs = true)
    (h : ky_stp (ky_GG adK) (ky_ce m) (ky_so m) (ky_hs m) (.invokestatic k) a b c1 c2 v cs pc ls st f cn sn (fun pc' ls' st' f' cn' sn' => ky_Pd l D c adK adV m pc' ls' st' f' cn' sn' Q) (fun m' As f' Q' => ∃ R, ky_cs As ≤ ky_ml m' ∧ ky_ii m' As ∧ ky_Pd l D c adK adV m' 0 (ky_ent As (ky_ml m')) [] f' 0 0 R ∧ ∀ o g, R o g → Q' o g) Q) (hP : ky_Wp D c A f H) (h5 : ky_5 f0 f) (hS : va_S A s.heap H locs) (hl : lv_has arr (ky_ml m) (ky_al 0 ls)) (hcn : cn ≤ ky_ce m) (hsn : sn ≤ ky_so m) :
    W p l e R s mm args below meth cc H locs cn sn (vx_MQ below (ky_Qc D c A f0 Q) (ky_Xc D c A f0 Q) args s (ky_ce m) (ky_so m) A) (F0 mm pc arr st) := by
  obtain ⟨hm, hx, hb, hml, hr, hown, hname, hlocks, hts, hA, hF, hSc, htab, hdp, hlo, hce, hso, hfl⟩ := id Ac
  simp only [ky_ci, Bool.and_eq_true, decide_eq_true_eq] at hck
  obtain ⟨rfl, hck⟩ := hck
  simp only [ky_stp] at h
  by_cases a1 : a = 1
  · rw [if_pos a1] at h hck
    simp only [Bool.and_eq_true, decide_eq_true_eq] at hck
    obtain ⟨hlk, hd1, hl1⟩ := hck
    obtain ⟨x, y0, r, rfl, hrs, k2⟩ := ky_s2i_e h
    obtain ⟨⟨y1, y2, y3, y4, y5⟩, hy, hy1, hy2, hy3, hy4, hyc⟩ := ky_lnk_get hlk
    dsimp only at hy1 hy2 hy3 hy4
    subst hy3; subst hy4
    simp only [ky_mkc, if_true] at hyc
    rw [hy1, hy2] at hyc
    exact va_mmax hx hb (hml.trans hl.1.symm) hown (hts _ (ky_at_ws hyc)) (hts _ (ky_mx_w (by simp))) (hts _ (ky_mx_w (by simp))) (hts _ (ky_mx_w (by simp))) (Nat.le_trans hd1 hdp) (by rw [ky_cs_sum]; omega) (by rw [hce]; exact hcn) (by rw [hso]; exact hsn) hdg (k2 p e R s mm args below meth cc A f0 Ac H locs arr hP h5 hS hl hcn hsn)
  rw [if_neg a1] at h hck
  by_cases a2 : a = 2
  · rw [if_pos a2] at h hck
    simp only [Bool.and_eq_true, decide_eq_true_eq] at hck
    obtain ⟨hlk, hd1, hl1⟩ := hck
    obtain ⟨x, y0, r, rfl, hrs, k2⟩ := ky_s2i_e h
    obtain ⟨⟨y1, y2, y3, y4, y5⟩, hy, hy1, hy2, hy3, hy4, hyc⟩ := ky_lnk_get hlk
    dsimp only at hy1 hy2 hy3 hy4
    subst hy3; subst hy4
    simp only [ky_mkc, if_true, if_false, Nat.reduceEqDiff] at hyc
    rw [hy1, hy2] at hyc
    exact va_mmin hx hb (hml.trans hl.1.symm) hown (hts _ (ky_at_ws hyc)) (hts _ (ky_mx_w (by simp))) (hts _ (ky_mx_w (by simp))) (hts _ (ky_mx_w (by simp))) (Nat.le_trans hd1 hdp) (by rw [ky_cs_sum]; omega) (by rw [hce]; exact hcn) (by rw [hso]; exact hsn) hdg (k2 p e R s mm args below meth cc A f0 Ac H locs arr hP h5 hS hl hcn hsn)
  rw [if_neg a2] at h hck
  by_cases a5 : a = 5
  · rw [if_pos a5] at h hck
    simp only [Bool.and_eq_true, decide_eq_true_eq] at hck
    obtain ⟨hlk, hd1, hl1⟩ := hck
    obtain ⟨x, y0, r, rfl, hy0, hrs, k2⟩ := ky_s2i_e h
    obtain ⟨⟨y1, y2, y3, y4, y5⟩, hy, hy1, hy2, hy3, hy4, hyc⟩ := ky_lnk_get hlk
    dsimp only at hy1 hy2 hy3 hy4
    subst hy3; subst hy4
    simp only [ky_mkc, if_true, if_false, Nat.reduceEqDiff] at hyc
    rw [hy1, hy2] at hyc
    refine ky_callp (v := some (.int (ky_fm x y0))) (va_runS (As := [.int x, .int y0]) (rest := r) (n := 2) (Ts := ky_WS) (nL := ky_ml m) (own := ky_R (ky_ow m)) ⟨hx, hb, hml, hown, hts⟩ (ky_jfm l hy0) ⟨⟨rfl, rfl, Nat.le_trans hd1 hdp, Nat.le_trans hl1 hlo, ky_jwsw (ky_jd_ok _ (by simp)) hts, List.mem_cons_self, (hts _ (ky_jd_ok _ (by simp))), (hts (.initialized RJ9) (ky_jd_ok _ (by simp))), ⟨by decide +kernel, by decide +kernel⟩, ky_jpn (by decide +kernel), hts _ (ky_at_ws hyc)⟩, (hts _ (ky_jd_ok _ (by simp)))⟩ ⟨ky_j1b, fun U hU hW => ⟨rfl, trivial⟩⟩ rfl rfl hl.1 rfl (lv_room (by rw [ky_cs_sum]; exact hrs)) hdg ⟨by rw [hce]; exact hcn, by rw [hso]; exact hsn⟩) hS (fun H1 locs1 e1 hS1 => ?_)
    exact k2 p e R s mm args below meth cc A f0 Ac H1 locs1 arr (ky_Wp_ext hP e1) h5 hS1 hl hcn hsn
  rw [if_neg a5] at h hck
  simp only [Bool.and_eq_true, Bool.or_eq_true, decide_eq_true_eq] at hck
  obtain ⟨⟨hcal, rfl⟩, hkk⟩ := hck
  obtain ⟨ha10, ht8, hd1, hl1, rfl, rfl, hpn⟩ := ky_cal_get hcal
  rcases hkk with (⟨hlk, rfl, hhs⟩ | ⟨hlk, rfl, hhs⟩) | ⟨hlk, rfl⟩
  · obtain ⟨y, hy, hy1, hy2, hy3, hy4, hyc⟩ := ky_lnk_get hlk
    have ht : a - 10 < 327 := by
      have := List.all_eq_true.mp ky_mk_lt y hy
      simp only [decide_eq_true_eq] at this
      rw [← hy4]; exact this (by rw [hy3]; decide)
    obtain ⟨y1, y2, y3, y4, y5⟩ := y
    dsimp only at hy1 hy2 hy3 hy4
    subst hy3
    simp only [ky_mkc, Bool.and_eq_true] at hyc
    rw [hy1, hy2, hy4] at hyc
    obtain ⟨⟨hw1, hw2⟩, hw3⟩ := hyc
    obtain ⟨As0, r, hlen, rfl, hrs, hc1, hc2, hrc, Rq, hcs, hii, hPq, hRq⟩ := ky_pop_e b st [] _ h
    rw [List.append_nil] at hcs hii hPq
    have hcls := ky_cls_ok (a - 10) ht8
    have hR := ky_R_ok _ (ky_ow_ok (a - 10) ht8)
    have hM := ky_con hfl ht hcs hPq H.size
    have hcwd : ky_cwd (a - 10) = .code (ky_y (a - 10)) (ky_by (a - 10)) (ky_ml (a - 10)) (ky_rt (a - 10)) := by rw [ky_cwd, if_pos (ky_hh_ok (a - 10) ht8 hhs)]
    exact ky_beh Ac (st0 := As0 ++ r) hP h5 hS hl hc1 hc2 (vx_runS (n := b) (Ts := ky_WS) (nL := ky_ml m) (own := ky_R (ky_ow m)) ⟨hx, hb, hml, hown, hts⟩ hM
      ⟨⟨rfl, rfl, Nat.le_trans hd1 hdp, Nat.le_trans hl1 hlo, ky_wsw ht hts, by rw [← hcwd]; exact List.mem_cons_self, by rw [← hcwd]; exact hts _ (ky_code_ok _ ht), hts _ (ky_at_ws hw3), by rw [hcls]; exact hR.2, ky_pn_get hpn rfl, hts _ (ky_at_ws hw1)⟩, hts _ (ky_at_ws hw2)⟩
      ⟨ky_Pc_blind, fun U hU hW => ky_Pc_of hA hF hSc h5 hP hS U hU hW⟩
      rfl (by rw [List.length_reverse]; exact hlen) hl.1 (by show As0 ++ r = _; rw [List.reverse_reverse]) (lv_room (by rw [ky_cs_sum]; exact hrs)) hdg ⟨by rw [hce]; exact hc1, by rw [hso]; exact hc2⟩) hRq
  · obtain ⟨y, hy, hy1, hy2, hy3, hy4, hyc⟩ := ky_lnk_get hlk
    have ht : a - 10 < 327 := by
      have := List.all_eq_true.mp ky_mk_lt y hy
      simp only [decide_eq_true_eq] at this
      rw [← hy4]; exact this (by rw [hy3]; decide)
    obtain ⟨y1, y2, y3, y4, y5⟩ := y
    dsimp only at hy1 hy2 hy3 hy4
    subst hy3
    simp only [ky_mkc, Bool.and_eq_true] at hyc
    rw [hy1, hy2, hy4] at hyc
    obtain ⟨⟨hw1, hw2⟩, hw3⟩ := hyc
    obtain ⟨As0, r, hlen, rfl, hrs, hc1, hc2, hrc, Rq, hcs, hii, hPq, hRq⟩ := ky_pop_e b st [] _ h
    rw [List.append_nil] at hcs hii hPq
    have hcls := ky_cls_ok (a - 10) ht8
    have hR := ky_R_ok _ (ky_ow_ok (a - 10) ht8)
    have hRq0 : ∀ o g, Rq o g → ky_aft (ky_hs m) false pc ls r (cn + ky_ce (a - 10)) (sn + ky_so (a - 10)) (fun pc' ls' st' f' cn' sn' => ky_Pd l D c adK adV m pc' ls' st' f' cn' sn' Q) Q o g := hRq
    have hM := ky_met (ky_con hfl ht hcs hPq H.size) (fun E st t9 z => by
      obtain ⟨⟨k9, f9, -, -, z, -⟩, -⟩ := z
      have := hRq0 _ _ z
      simp [ky_aft] at this)
    have hcwd : ky_cwd (a - 10) = .code (ky_y (a - 10)) (ky_by (a - 10)) (ky_ml (a - 10)) (ky_rt (a - 10)) := by rw [ky_cwd, if_pos (ky_hh_ok (a - 10) ht8 hhs)]
    exact ky_beh0 Ac (st0 := As0 ++ r) hP h5 hS hl hc1 hc2 (va_runSN (n := b) (Ts := ky_WS) (nL := ky_ml m) (own := ky_R (ky_ow m)) (host := RX8) ⟨hx, hb, hml, hown, hts⟩ hM
      ⟨⟨⟨rfl, rfl, Nat.le_trans hd1 hdp, Nat.le_trans hl1 hlo, ky_wsw ht hts, by rw [← hcwd]; exact List.mem_cons_self⟩, by rw [← hcwd]; exact hts _ (ky_code_ok _ ht), hts _ (ky_at_ws hw3), by rw [hcls]; exact hR.2, ky_pn_get hpn rfl, va_Nw.use rfl (ky_atn_w hw1 hF.2.2.2.2.1.2.1)⟩, hts _ (ky_at_ws hw2), trivial⟩
      ⟨ky_Pc_blind, fun U hU hW => ky_Pc_of hA hF hSc h5 hP hS U hU hW⟩
      rfl (by rw [List.length_reverse]; exact hlen) hl.1 (by show As0 ++ r = _; rw [List.reverse_reverse]) (lv_room (by rw [ky_cs_sum]; exact hrs)) hdg ⟨by rw [hce]; exact hc1, by rw [hso]; exact hc2⟩) hRq0
  · obtain ⟨y, hy, hy1, hy2, hy3, hy4, hyc⟩ := ky_lnk_get hlk
    have ht : a - 10 < 327 := by
      have := List.all_eq_true.mp ky_mk_lt y hy
      simp only [decide_eq_true_eq] at this
      rw [← hy4]; exact this (by rw [hy3]; decide)
    obtain ⟨y1, y2, y3, y4, y5⟩ := y
    dsimp only at hy1 hy2 hy3 hy4
    subst hy3
    simp only [ky_mkc, Bool.and_eq_true] at hyc
    rw [hy1, hy2, hy4] at hyc
    obtain ⟨⟨hw1, hw2⟩, hw3⟩ := hyc
    obtain ⟨As0, r, hlen, rfl, hrs, hc1, hc2, hrc, Rq, hcs, hii, hPq, hRq⟩ := ky_pop_e b st [] _ h
    rw [List.append_nil] at hcs hii hPq
    have hcls := ky_cls_ok (a - 10) ht8
    have hR := ky_R_ok _ (ky_ow_ok (a - 10) ht8)
    have hM := ky_con hfl ht hcs hPq H.size
    by_cases hh : ky_hh (a - 10) = []
    · have hcwd : ky_cwd (a - 10) = .code (ky_y (a - 10)) (ky_by (a - 10)) (ky_ml (a - 10)) (ky_rt (a - 10)) := by rw [ky_cwd, if_pos hh]
      exact ky_beh Ac (st0 := As0 ++ r) hP h5 hS hl hc1 hc2 (vx_runS (n := b) (Ts := ky_WS) (nL := ky_ml m) (own := ky_R (ky_ow m)) ⟨hx, hb, hml, hown, hts⟩ hM
        ⟨⟨rfl, rfl, Nat.le_trans hd1 hdp, Nat.le_trans hl1 hlo, ky_wsw ht hts, by rw [← hcwd]; exact List.mem_cons_self, by rw [← hcwd]; exact hts _ (ky_code_ok _ ht), hts _ (ky_at_ws hw3), by rw [hcls]; exact hR.2, ky_pn_get hpn rfl, hts _ (ky_at_ws hw1)⟩, hts _ (ky_at_ws hw2)⟩
        ⟨ky_Pc_blind, fun U hU hW => ky_Pc_of hA hF hSc h5 hP hS U hU hW⟩
        rfl (by rw [List.length_reverse]; exact hlen) hl.1 (by show As0 ++ r = _; rw [List.reverse_reverse]) (lv_room (by rw [ky_cs_sum]; exact hrs)) hdg ⟨by rw [hce]; exact hc1, by rw [hso]; exact hc2⟩) hRq
    · have hcwd : ky_cwd (a - 10) = .codeWith (ky_y (a - 10)) (ky_by (a - 10)) (ky_ml (a - 10)) (ky_rt (a - 10)) (ky_hh (a - 10)) := by rw [ky_cwd, if_neg hh]
      exact ky_beh Ac (st0 := As0 ++ r) hP h5 hS hl hc1 hc2 (vx_runSX (n := b) (Ts := ky_WS) (nL := ky_ml m) (own := ky_R (ky_ow m)) ⟨hx, hb, hml, hown, hts⟩ hM
        ⟨⟨rfl, rfl, Nat.le_trans hd1 hdp, Nat.le_trans hl1 hlo, ky_wsw ht hts, by rw [← hcwd]; exact List.mem_cons_self⟩, by rw [← hcwd]; exact hts _ (ky_code_ok _ ht), hts _ (ky_at_ws hw3), by rw [hcls]; exact hR.2, ky_pn_get hpn rfl, hts _ (ky_at_ws hw1), hts _ (ky_at_ws hw2)⟩
        ⟨ky_Pc_blind, fun U hU hW => ky_Pc_of hA hF hSc h5 hP hS U hU hW⟩
        rfl (by rw [List.length_reverse]; exact hlen) hl.1 (by show As0 ++ r = _; rw [List.reverse_reverse]) (lv_room (by rw [ky_cs_sum]; exact hrs)) hdg ⟨by rw [hce]; exact hc1, by rw [hso]; exact hc2⟩) hRq
set_option maxHeartbeats 4000000 in
theorem ky_isp (Ac : ky_Ac l D c adK adV m p R s mm args meth cc A f0) (hdg : decode (ky_by m) pc = .ok (.invokespecial k, len))
    (hck : ky_ci m pc (.invokespecial k) len a b c1 c2 v cs = true)
    (h : ky_stp (ky_GG adK) (ky_ce m) (ky_so m) (ky_hs m) (.invokespecial k) a b c1 c2 v cs pc ls st f cn sn (fun pc' ls' st' f' cn' sn' => ky_Pd l D c adK adV m pc' ls' st' f' cn' sn' Q) (fun m' As f' Q' => ∃ R, ky_cs As ≤ ky_ml m' ∧ ky_ii m' As ∧ ky_Pd l D c adK adV m' 0 (ky_ent As (ky_ml m')) [] f' 0 0 R ∧ ∀ o g, R o g → Q' o g) Q) (hP : ky_Wp D c A f H) (h5 : ky_5 f0 f) (hS : va_S A s.heap H locs) (hl : lv_has arr (ky_ml m) (ky_al 0 ls)) (hcn : cn ≤ ky_ce m) (hsn : sn ≤ ky_so m) :
    W p l e R s mm args below meth cc H locs cn sn (vx_MQ below (ky_Qc D c A f0 Q) (ky_Xc D c A f0 Q) args s (ky_ce m) (ky_so m) A) (F0 mm pc arr st) := by
  obtain ⟨hm, hx, hb, hml, hr, hown, hname, hlocks, hts, hA, hF, hSc, htab, hdp, hlo, hce, hso, hfl⟩ := id Ac
  simp only [ky_ci, Bool.and_eq_true, decide_eq_true_eq] at hck
  obtain ⟨rfl, hck⟩ := hck
  simp only [ky_stp] at h
  by_cases a0 : a = 0
  · rw [if_pos a0] at h hck
    simp only [Bool.and_eq_true, decide_eq_true_eq] at hck
    obtain ⟨hlk, hd1, hl1⟩ := hck
    obtain ⟨q, r, rfl, hrs, k2⟩ := ky_sr_e h
    obtain ⟨⟨y1, y2, y3, y4, y5⟩, hy, hy1, hy2, hy3, hy4, hyc⟩ := ky_lnk_get hlk
    dsimp only at hy1 hy2 hy3 hy4
    subst hy3
    simp only [ky_mkc] at hyc
    rw [hy1, hy2] at hyc
    exact W.objInit hx hb hown (hts _ (ky_at_ws hyc)) (hts _ (ky_mx_w (by simp))) (hts _ (ky_mx_w (by simp))) rfl (hl.1.trans hml.symm) rfl hdg (Nat.le_trans hd1 hdp) (by show 2 * 0 + _ + 12 ≤ _; rw [ky_cs_sum]; omega) (k2 p e R s mm args below meth cc A f0 Ac H locs arr hP h5 hS hl hcn hsn)
  rw [if_neg a0] at h hck
  simp only [Bool.and_eq_true, Bool.or_eq_true, decide_eq_true_eq] at hck
  obtain ⟨⟨hkk, hcal⟩, rfl, hhs, hrt⟩ := hck
  obtain ⟨ha10, ht8, hd1, hl1, rfl, rfl, hpn⟩ := ky_cal_get hcal
  rcases hkk with hlk | hlk
  · obtain ⟨y, hy, hy1, hy2, hy3, hy4, hyc⟩ := ky_lnk_get hlk
    have ht : a - 10 < 327 := by
      have := List.all_eq_true.mp ky_mk_lt y hy
      simp only [decide_eq_true_eq] at this
      rw [← hy4]; exact this (by rw [hy3]; decide)
    obtain ⟨y1, y2, y3, y4, y5⟩ := y
    dsimp only at hy1 hy2 hy3 hy4
    subst hy3
    simp only [ky_mkc, Bool.and_eq_true] at hyc
    rw [hy1, hy2, hy4] at hyc
    obtain ⟨⟨⟨hw1, hw2⟩, hw3⟩, hw4⟩ := hyc
    obtain ⟨As0, r, hlen, rfl, hrs, hc1, hc2, hrc, Rq, hcs, hii, hPq, hRq⟩ := ky_pop_e b st [] _ h
    rw [List.append_nil] at hcs hii hPq
    have hcls := ky_cls_ok (a - 10) ht8
    have hR := ky_R_ok _ (ky_ow_ok (a - 10) ht8)
    simp only [decide_eq_true_eq] at hw4
    obtain ⟨q, As', hAr⟩ : ∃ q As', As0.reverse = .ref q :: As' := by
      have h8 := hii hw4
      cases hAr : As0.reverse with
      | nil => rw [hAr] at h8; exact h8.elim
      | cons z As' =>
        rw [hAr] at h8
        cases z <;> first | exact h8.elim | exact ⟨_, _, rfl⟩
    have hA0 : As0 = As'.reverse ++ [.ref q] := by rw [← List.reverse_reverse As0, hAr, List.reverse_cons]
    have hlen' : As'.length + 1 = b := by rw [← hlen, hA0]; simp
    have hRq0 : ∀ o g, Rq o g → ky_aft (ky_hs m) false pc ls r (cn + ky_ce (a - 10)) (sn + ky_so (a - 10)) (fun pc' ls' st' f' cn' sn' => ky_Pd l D c adK adV m pc' ls' st' f' cn' sn' Q) Q o g := hRq
    have hM := ky_met (ky_con hfl ht hcs hPq H.size) (fun E st t9 z => by
      obtain ⟨⟨k9, f9, -, -, z, -⟩, -⟩ := z
      have := hRq0 _ _ z
      simp [ky_aft] at this)
    rw [hAr] at hM
    have hcwd : ky_cwd (a - 10) = .code (ky_y (a - 10)) (ky_by (a - 10)) (ky_ml (a - 10)) none := by rw [ky_cwd, if_pos (ky_hh_ok (a - 10) ht8 hhs), hrt]
    exact ky_beh0 Ac (st0 := As0 ++ r) hP h5 hS hl hc1 hc2 (va_runI (n := As'.length) (Ts := ky_WS) (nL := ky_ml m) (own := ky_R (ky_ow m)) ⟨hx, hb, hml, hown, hts⟩ hM
      ⟨⟨rfl, rfl, Nat.le_trans hd1 hdp, Nat.le_trans hl1 hlo, ky_wsw ht hts, by rw [← hcwd]; exact List.mem_cons_self, by rw [← hcwd]; exact hts _ (ky_code_ok _ ht), hts _ (ky_at_ws hw3), by rw [hcls]; exact hR.2, ky_pn_get hpn hlen', hts _ (ky_at_ws hw1)⟩, hw4, hts _ (ky_at_ws hw2)⟩
      ⟨ky_Pc_blind, fun U hU hW => by rw [← hAr] at *; exact ky_Pc_of hA hF hSc h5 hP hS U hU hW⟩
      rfl rfl hl.1 (by show As0 ++ r = _; rw [hA0]; simp) (lv_room (by rw [ky_cs_sum]; exact hrs)) hdg ⟨by rw [hce]; exact hc1, by rw [hso]; exact hc2⟩) hRq0
  · obtain ⟨y, hy, hy1, hy2, hy3, hy4, hyc⟩ := ky_lnk_get hlk
    have ht : a - 10 < 327 := by
      have := List.all_eq_true.mp ky_mk_lt y hy
      simp only [decide_eq_true_eq] at this
      rw [← hy4]; exact this (by rw [hy3]; decide)
    obtain ⟨y1, y2, y3, y4, y5⟩ := y
    dsimp only at hy1 hy2 hy3 hy4
    subst hy3
    simp only [ky_mkc, Bool.and_eq_true] at hyc
    rw [hy1, hy2, hy4] at hyc
    obtain ⟨⟨⟨hw1, hw2⟩, hw3⟩, hw4⟩ := hyc
    obtain ⟨As0, r, hlen, rfl, hrs, hc1, hc2, hrc, Rq, hcs, hii, hPq, hRq⟩ := ky_pop_e b st [] _ h
    rw [List.append_nil] at hcs hii hPq
    have hcls := ky_cls_ok (a - 10) ht8
    have hR := ky_R_ok _ (ky_ow_ok (a - 10) ht8)
    simp only [decide_eq_true_eq] at hw4
    obtain ⟨q, As', hAr⟩ : ∃ q As', As0.reverse = .ref q :: As' := by
      have h8 := hii hw4
      cases hAr : As0.reverse with
      | nil => rw [hAr] at h8; exact h8.elim
      | cons z As' =>
        rw [hAr] at h8
        cases z <;> first | exact h8.elim | exact ⟨_, _, rfl⟩
    have hA0 : As0 = As'.reverse ++ [.ref q] := by rw [← List.reverse_reverse As0, hAr, List.reverse_cons]
    have hlen' : As'.length + 1 = b := by rw [← hlen, hA0]; simp
    have hRq0 : ∀ o g, Rq o g → ky_aft (ky_hs m) false pc ls r (cn + ky_ce (a - 10)) (sn + ky_so (a - 10)) (fun pc' ls' st' f' cn' sn' => ky_Pd l D c adK adV m pc' ls' st' f' cn' sn' Q) Q o g := hRq
    have hM := ky_met (ky_con hfl ht hcs hPq H.size) (fun E st t9 z => by
      obtain ⟨⟨k9, f9, -, -, z, -⟩, -⟩ := z
      have := hRq0 _ _ z
      simp [ky_aft] at this)
    rw [hAr] at hM
    have hcwd : ky_cwd (a - 10) = .code (ky_y (a - 10)) (ky_by (a - 10)) (ky_ml (a - 10)) none := by rw [ky_cwd, if_pos (ky_hh_ok (a - 10) ht8 hhs), hrt]
    exact ky_beh0 Ac (st0 := As0 ++ r) hP h5 hS hl hc1 hc2 (va_runIN (n := As'.length) (Ts := ky_WS) (nL := ky_ml m) (own := ky_R (ky_ow m)) (host := RX8) ⟨hx, hb, hml, hown, hts⟩ hM
      ⟨⟨⟨rfl, rfl, Nat.le_trans hd1 hdp, Nat.le_trans hl1 hlo, ky_wsw ht hts, by rw [← hcwd]; exact List.mem_cons_self⟩, by rw [← hcwd]; exact hts _ (ky_code_ok _ ht), hts _ (ky_at_ws hw3), by rw [hcls]; exact hR.2, ky_pn_get hpn hlen', va_Nw.use rfl (ky_atn_w hw1 hF.2.2.2.2.1.2.1)⟩, hw4, hts _ (ky_at_ws hw2)⟩
      ⟨ky_Pc_blind, fun U hU hW => by rw [← hAr] at *; exact ky_Pc_of hA hF hSc h5 hP hS U hU hW⟩
      rfl rfl hl.1 (by show As0 ++ r = _; rw [hA0]; simp) (lv_room (by rw [ky_cs_sum]; exact hrs)) hdg ⟨by rw [hce]; exact hc1, by rw [hso]; exact hc2⟩) hRq0
end KYI

set_option maxHeartbeats 4000000 in
set_option maxRecDepth 100000 in
theorem ky_snd (l : Launch) (D : va_G) (c : Nat → ClassId) (adK adV : Nat → Nat) (m pc : Nat) (ls : ky_L) (st : List Value) (f : ky_H) (cn sn : Nat) (Q : ky_Q) (h : ky_one (ky_GG adK) (ky_Pd l D c adK adV) m pc ls st f cn sn Q) : ky_Pd l D c adK adV m pc ls st f cn sn Q := by
  unfold ky_one at h
  split at h
  · exact h.elim
  next i len a b c1 c2 v cs hcd =>
  intro p e R s mm args below meth cc A f0 Ac H locs arr hP h5 hS hl hcn hsn
  obtain ⟨hm, hx, hb, hml, hr, hown, hname, hlocks, hts, hA, hF, hSc, htab, hdp, hlo, hce, hso, hfl⟩ := id Ac
  obtain ⟨hdg, hck⟩ := ky_ckd hcd
  dsimp only at hdg hck
  cases i with
  | iload_n k =>
    simp only [ky_ci, decide_eq_true_eq] at hck
    obtain ⟨rfl, rfl⟩ := hck
    obtain ⟨x, hx1, k2⟩ := ky_ldi_e (j := 0) h
    rw [Nat.zero_add] at hx1
    exact lv_iload_n hx hb hdg rfl (hl.2.2 _ hx1) (k2 p e R s mm args below meth cc A f0 Ac H locs arr hP h5 hS hl hcn hsn)
  | iload k =>
    simp only [ky_ci, decide_eq_true_eq] at hck
    obtain ⟨rfl, rfl⟩ := hck
    obtain ⟨x, hx1, k2⟩ := ky_ldi_e (j := 0) h
    rw [Nat.zero_add] at hx1
    exact lv_iload hx hb hdg (hl.2.2 _ hx1) (k2 p e R s mm args below meth cc A f0 Ac H locs arr hP h5 hS hl hcn hsn)
  | lload_n k =>
    simp only [ky_ci, decide_eq_true_eq] at hck
    obtain ⟨rfl, rfl⟩ := hck
    obtain ⟨x, hx1, k2⟩ := ky_ldl_e (j := 0) h
    rw [Nat.zero_add] at hx1
    exact lv_lload_n hx hb hdg rfl (hl.2.2 _ hx1) (k2 p e R s mm args below meth cc A f0 Ac H locs arr hP h5 hS hl hcn hsn)
  | lload k =>
    simp only [ky_ci, decide_eq_true_eq] at hck
    obtain ⟨rfl, rfl⟩ := hck
    obtain ⟨x, hx1, k2⟩ := ky_ldl_e (j := 0) h
    rw [Nat.zero_add] at hx1
    exact lv_lload hx hb hdg (hl.2.2 _ hx1) (k2 p e R s mm args below meth cc A f0 Ac H locs arr hP h5 hS hl hcn hsn)
  | dload k =>
    simp only [ky_ci, decide_eq_true_eq] at hck
    obtain ⟨rfl, rfl⟩ := hck
    obtain ⟨x, hx1, k2⟩ := ky_ldd_e (j := 0) h
    rw [Nat.zero_add] at hx1
    exact lv_dload hx hb hdg (hl.2.2 _ hx1) (k2 p e R s mm args below meth cc A f0 Ac H locs arr hP h5 hS hl hcn hsn)
  | aload_n k =>
    simp only [ky_ci, decide_eq_true_eq] at hck
    obtain ⟨rfl, rfl⟩ := hck
    obtain ⟨x, hx0, hx1, k2⟩ := ky_lda_e (j := 0) h
    rw [Nat.zero_add] at hx1
    rcases hx0 with rfl | ⟨x, rfl⟩
    · exact lv_aload_nN hx hb hdg rfl (hl.2.2 _ hx1) (k2 p e R s mm args below meth cc A f0 Ac H locs arr hP h5 hS hl hcn hsn)
    · exact lv_aload_n hx hb hdg rfl (hl.2.2 _ hx1) (k2 p e R s mm args below meth cc A f0 Ac H locs arr hP h5 hS hl hcn hsn)
  | aload k =>
    simp only [ky_ci, decide_eq_true_eq] at hck
    obtain ⟨rfl, rfl⟩ := hck
    obtain ⟨x, hx0, hx1, k2⟩ := ky_lda_e (j := 0) h
    rw [Nat.zero_add] at hx1
    rcases hx0 with rfl | ⟨x, rfl⟩
    · exact lv_aloadN hx hb hdg (hl.2.2 _ hx1) (k2 p e R s mm args below meth cc A f0 Ac H locs arr hP h5 hS hl hcn hsn)
    · exact lv_aload hx hb hdg (hl.2.2 _ hx1) (k2 p e R s mm args below meth cc A f0 Ac H locs arr hP h5 hS hl hcn hsn)
  | istore_n k =>
    simp only [ky_ci, decide_eq_true_eq] at hck
    obtain ⟨rfl, rfl, ha⟩ := hck
    obtain ⟨x, r, rfl, k2⟩ := ky_s1i_e h
    exact lv_istore_n hx hb hdg rfl hl ha rfl (fun arr' hl' => k2 p e R s mm args below meth cc A f0 Ac H locs arr' hP h5 hS (ky_lst1 hl') hcn hsn)
  | istore k =>
    simp only [ky_ci, decide_eq_true_eq] at hck
    obtain ⟨rfl, rfl, ha⟩ := hck
    obtain ⟨x, r, rfl, k2⟩ := ky_s1i_e h
    exact lv_istore hx hb hdg hl ha rfl (fun arr' hl' => k2 p e R s mm args below meth cc A f0 Ac H locs arr' hP h5 hS (ky_lst1 hl') hcn hsn)
  | lstore_n k =>
    simp only [ky_ci, decide_eq_true_eq] at hck
    obtain ⟨rfl, rfl, ha⟩ := hck
    obtain ⟨x, r, rfl, k2⟩ := ky_s1l_e h
    exact lv_lstore_n hx hb hdg rfl hl ha rfl (fun arr' hl' => k2 p e R s mm args below meth cc A f0 Ac H locs arr' hP h5 hS (ky_lst2 hl') hcn hsn)
  | lstore k =>
    simp only [ky_ci, decide_eq_true_eq] at hck
    obtain ⟨rfl, rfl, ha⟩ := hck
    obtain ⟨x, r, rfl, k2⟩ := ky_s1l_e h
    exact lv_lstore hx hb hdg hl ha rfl (fun arr' hl' => k2 p e R s mm args below meth cc A f0 Ac H locs arr' hP h5 hS (ky_lst2 hl') hcn hsn)
  | dstore k =>
    simp only [ky_ci, decide_eq_true_eq] at hck
    obtain ⟨rfl, rfl, ha⟩ := hck
    obtain ⟨x, r, rfl, k2⟩ := ky_s1d_e h
    exact lv_dstore hx hb hdg hl ha rfl (fun arr' hl' => k2 p e R s mm args below meth cc A f0 Ac H locs arr' hP h5 hS (ky_lst2 hl') hcn hsn)
  | astore_n k =>
    simp only [ky_ci, decide_eq_true_eq] at hck
    obtain ⟨rfl, rfl, ha⟩ := hck
    obtain ⟨x, r, rfl, hx0, k2⟩ := ky_top_e h
    rcases hx0 with rfl | ⟨x, rfl⟩
    · exact lv_astore_nN hx hb hdg rfl hl ha rfl (fun arr' hl' => k2 p e R s mm args below meth cc A f0 Ac H locs arr' hP h5 hS (ky_lst1 hl') hcn hsn)
    · exact lv_astore_n hx hb hdg rfl hl ha rfl (fun arr' hl' => k2 p e R s mm args below meth cc A f0 Ac H locs arr' hP h5 hS (ky_lst1 hl') hcn hsn)
  | astore k =>
    simp only [ky_ci, decide_eq_true_eq] at hck
    obtain ⟨rfl, rfl, ha⟩ := hck
    obtain ⟨x, r, rfl, hx0, k2⟩ := ky_top_e h
    rcases hx0 with rfl | ⟨x, rfl⟩
    · exact lv_astoreN hx hb hdg hl ha rfl (fun arr' hl' => k2 p e R s mm args below meth cc A f0 Ac H locs arr' hP h5 hS (ky_lst1 hl') hcn hsn)
    · exact lv_astore hx hb hdg hl ha rfl (fun arr' hl' => k2 p e R s mm args below meth cc A f0 Ac H locs arr' hP h5 hS (ky_lst1 hl') hcn hsn)
  | iinc k n =>
    simp only [ky_ci, decide_eq_true_eq] at hck
    obtain ⟨rfl, rfl, rfl, ha⟩ := hck
    obtain ⟨x, hx1, k2⟩ := ky_ldi_e (j := 0) h
    rw [Nat.zero_add] at hx1
    obtain ⟨k0, hk0⟩ := List.mem_iff_getElem?.mp hx1
    exact lv_iinc hx hb hdg hl hk0 rfl ha rfl (fun arr' hl' => k2 p e R s mm args below meth cc A f0 Ac H locs arr' hP h5 hS (ky_lst1 hl') hcn hsn)
  | iconst n =>
    simp only [ky_ci, decide_eq_true_eq] at hck
    obtain ⟨hv, rfl⟩ := hck
    exact lv_iconst hx hb hdg hv (h p e R s mm args below meth cc A f0 Ac H locs arr hP h5 hS hl hcn hsn)
  | bipush n =>
    simp only [ky_ci, decide_eq_true_eq] at hck
    obtain ⟨hv, rfl⟩ := hck
    exact lv_bipush hx hb hdg hv (h p e R s mm args below meth cc A f0 Ac H locs arr hP h5 hS hl hcn hsn)
  | sipush n =>
    simp only [ky_ci, decide_eq_true_eq] at hck
    obtain ⟨hv, rfl⟩ := hck
    exact lv_sipush hx hb hdg hv (h p e R s mm args below meth cc A f0 Ac H locs arr hP h5 hS hl hcn hsn)
  | lconst n =>
    simp only [ky_ci, decide_eq_true_eq] at hck
    obtain ⟨rfl, rfl⟩ := hck
    refine lv_lconst hx hb hdg (v := if n.val = 0 then 0 else 1) ?_ (h p e R s mm args below meth cc A f0 Ac H locs arr hP h5 hS hl hcn hsn)
    rcases n with ⟨n, hn⟩
    rcases (show n = 0 ∨ n = 1 by omega) with rfl | rfl <;> rfl
  | fconst n =>
    simp only [ky_ci, decide_eq_true_eq] at hck
    obtain ⟨hn, rfl⟩ := hck
    obtain rfl : n = 0 := Fin.ext hn
    exact lv_fconst0 hx hb hdg (h p e R s mm args below meth cc A f0 Ac H locs arr hP h5 hS hl hcn hsn)
  | dconst n =>
    simp only [ky_ci, decide_eq_true_eq] at hck
    obtain ⟨hn, rfl⟩ := hck
    obtain rfl : n = 0 := Fin.ext hn
    exact lv_dconst0 hx hb hdg (h p e R s mm args below meth cc A f0 Ac H locs arr hP h5 hS hl hcn hsn)
  | ldc k =>
    simp only [ky_ci, Bool.and_eq_true, decide_eq_true_eq] at hck
    obtain ⟨rfl, hck⟩ := hck
    by_cases hb0 : b = 0
    · rw [if_pos hb0] at hck
      have k2 : ky_Pd l D c adK adV m (pc + 2) ls (.int v :: st) f cn sn Q := by
        have h2 : ky_Pd l D c adK adV m (pc + 2) ls ((if b = 0 then .int v else .ref (adK a)) :: st) f cn sn Q := h
        rw [if_pos hb0] at h2; exact h2
      exact lv_ldc hx hb hown (hts _ (ky_at_ws hck)) hdg (k2 p e R s mm args below meth cc A f0 Ac H locs arr hP h5 hS hl hcn hsn)
    · rw [if_neg hb0] at hck
      have k2 : ky_Pd l D c adK adV m (pc + 2) ls (.ref (adK a) :: st) f cn sn Q := by
        have h2 : ky_Pd l D c adK adV m (pc + 2) ls ((if b = 0 then .int v else .ref (adK a)) :: st) f cn sn Q := h
        rw [if_neg hb0] at h2; exact h2
      simp only [List.any_eq_true, Bool.and_eq_true, beq_iff_eq] at hck
      obtain ⟨y, hy, ⟨hy1, hy2⟩, hy3⟩ := hck
      obtain ⟨tx, hR⟩ := hF.2.2.2.2.1.1.1 y hy
      rw [hy1, hy2, hy3] at hR
      exact va_ldcS hx hb hown hR hdg (k2 p e R s mm args below meth cc A f0 Ac H locs arr hP h5 hS hl hcn hsn)
  | ldc_w k =>
    simp only [ky_ci, Bool.and_eq_true, decide_eq_true_eq] at hck
    obtain ⟨rfl, hck⟩ := hck
    simp only [List.any_eq_true, Bool.and_eq_true, beq_iff_eq] at hck
    obtain ⟨y, hy, ⟨hy1, hy2⟩, hy3⟩ := hck
    obtain ⟨tx, hR⟩ := hF.2.2.2.2.1.1.1 y hy
    rw [hy1, hy2, hy3] at hR
    exact ky_ldcS3 hx hb hown hR hdg (h p e R s mm args below meth cc A f0 Ac H locs arr hP h5 hS hl hcn hsn)
  | iadd =>
    obtain rfl : len = 1 := by simpa [ky_ci] using hck
    obtain ⟨x, y, r, rfl, k2⟩ := ky_s2i_e h
    exact lv_iadd hx hb hdg (k2 p e R s mm args below meth cc A f0 Ac H locs arr hP h5 hS hl hcn hsn)
  | isub =>
    obtain rfl : len = 1 := by simpa [ky_ci] using hck
    obtain ⟨x, y, r, rfl, k2⟩ := ky_s2i_e h
    exact lv_isub hx hb hdg (k2 p e R s mm args below meth cc A f0 Ac H locs arr hP h5 hS hl hcn hsn)
  | imul =>
    obtain rfl : len = 1 := by simpa [ky_ci] using hck
    obtain ⟨x, y, r, rfl, k2⟩ := ky_s2i_e h
    exact lv_imul hx hb hdg (k2 p e R s mm args below meth cc A f0 Ac H locs arr hP h5 hS hl hcn hsn)
  | iand =>
    obtain rfl : len = 1 := by simpa [ky_ci] using hck
    obtain ⟨x, y, r, rfl, k2⟩ := ky_s2i_e h
    exact lv_iand hx hb hdg (k2 p e R s mm args below meth cc A f0 Ac H locs arr hP h5 hS hl hcn hsn)
  | ior =>
    obtain rfl : len = 1 := by simpa [ky_ci] using hck
    obtain ⟨x, y, r, rfl, k2⟩ := ky_s2i_e h
    exact lv_ior hx hb hdg (k2 p e R s mm args below meth cc A f0 Ac H locs arr hP h5 hS hl hcn hsn)
  | ixor =>
    obtain rfl : len = 1 := by simpa [ky_ci] using hck
    obtain ⟨x, y, r, rfl, k2⟩ := ky_s2i_e h
    exact lv_ixor hx hb hdg (k2 p e R s mm args below meth cc A f0 Ac H locs arr hP h5 hS hl hcn hsn)
  | ishl =>
    obtain rfl : len = 1 := by simpa [ky_ci] using hck
    obtain ⟨x, y, r, rfl, k2⟩ := ky_s2i_e h
    exact lv_ishl hx hb hdg (k2 p e R s mm args below meth cc A f0 Ac H locs arr hP h5 hS hl hcn hsn)
  | ishr =>
    obtain rfl : len = 1 := by simpa [ky_ci] using hck
    obtain ⟨x, y, r, rfl, k2⟩ := ky_s2i_e h
    exact lv_ishr hx hb hdg (k2 p e R s mm args below meth cc A f0 Ac H locs arr hP h5 hS hl hcn hsn)
  | idiv =>
    obtain rfl : len = 1 := by simpa [ky_ci] using hck
    obtain ⟨x, y, r, rfl, hy, k2⟩ := ky_s2i_e h
    exact lv_idiv hx hb hdg hy (k2 p e R s mm args below meth cc A f0 Ac H locs arr hP h5 hS hl hcn hsn)
  | irem =>
    obtain rfl : len = 1 := by simpa [ky_ci] using hck
    obtain ⟨x, y, r, rfl, hy, k2⟩ := ky_s2i_e h
    exact lv_irem hx hb hdg hy (k2 p e R s mm args below meth cc A f0 Ac H locs arr hP h5 hS hl hcn hsn)
  | ineg =>
    obtain rfl : len = 1 := by simpa [ky_ci] using hck
    obtain ⟨x, r, rfl, k2⟩ := ky_s1i_e h
    exact lv_ineg hx hb hdg (k2 p e R s mm args below meth cc A f0 Ac H locs arr hP h5 hS hl hcn hsn)
  | iushr =>
    obtain rfl : len = 1 := by simpa [ky_ci] using hck
    obtain ⟨x, y, r, rfl, k2⟩ := ky_s2i_e h
    exact lv_iushr hx hb hdg rfl (k2 p e R s mm args below meth cc A f0 Ac H locs arr hP h5 hS hl hcn hsn)
  | lor =>
    obtain rfl : len = 1 := by simpa [ky_ci] using hck
    obtain ⟨x, y, r, rfl, k2⟩ := ky_s2l_e h
    exact lv_lor hx hb hdg (k2 p e R s mm args below meth cc A f0 Ac H locs arr hP h5 hS hl hcn hsn)
  | lshl =>
    obtain rfl : len = 1 := by simpa [ky_ci] using hck
    obtain ⟨x, y, r, rfl, k2⟩ := ky_sli_e h
    exact lv_lshl hx hb hdg rfl (k2 p e R s mm args below meth cc A f0 Ac H locs arr hP h5 hS hl hcn hsn)
  | lushr =>
    obtain rfl : len = 1 := by simpa [ky_ci] using hck
    obtain ⟨x, y, r, rfl, k2⟩ := ky_sli_e h
    exact lv_lushr hx hb hdg rfl (k2 p e R s mm args below meth cc A f0 Ac H locs arr hP h5 hS hl hcn hsn)
  | lcmp =>
    obtain rfl : len = 1 := by simpa [ky_ci] using hck
    obtain ⟨x, y, r, rfl, k2⟩ := ky_s2l_e h
    exact W.lcmp hx hb hdg (k2 p e R s mm args below meth cc A f0 Ac H locs arr hP h5 hS hl hcn hsn)
  | dcmp op =>
    obtain rfl : len = 1 := by simpa [ky_ci] using hck
    obtain ⟨x, y, r, rfl, k2⟩ := ky_s2d_e h
    exact lv_dcmp hx hb hdg (k2 p e R s mm args below meth cc A f0 Ac H locs arr hP h5 hS hl hcn hsn)
  | i2l =>
    obtain rfl : len = 1 := by simpa [ky_ci] using hck
    obtain ⟨x, r, rfl, k2⟩ := ky_s1i_e h
    exact lv_i2l hx hb hdg rfl (k2 p e R s mm args below meth cc A f0 Ac H locs arr hP h5 hS hl hcn hsn)
  | l2i =>
    obtain rfl : len = 1 := by simpa [ky_ci] using hck
    obtain ⟨x, r, rfl, k2⟩ := ky_s1l_e h
    exact lv_l2i hx hb hdg rfl (k2 p e R s mm args below meth cc A f0 Ac H locs arr hP h5 hS hl hcn hsn)
  | i2b =>
    obtain rfl : len = 1 := by simpa [ky_ci] using hck
    obtain ⟨x, r, rfl, k2⟩ := ky_s1i_e h
    exact lv_i2b hx hb hdg rfl (k2 p e R s mm args below meth cc A f0 Ac H locs arr hP h5 hS hl hcn hsn)
  | i2f =>
    obtain rfl : len = 1 := by simpa [ky_ci] using hck
    obtain ⟨x, r, rfl, k2⟩ := ky_s1i_e h
    exact lv_i2f hx hb hdg (k2 p e R s mm args below meth cc A f0 Ac H locs arr hP h5 hS hl hcn hsn)
  | i2d =>
    obtain rfl : len = 1 := by simpa [ky_ci] using hck
    obtain ⟨x, r, rfl, k2⟩ := ky_s1i_e h
    exact lv_i2d hx hb hdg (k2 p e R s mm args below meth cc A f0 Ac H locs arr hP h5 hS hl hcn hsn)
  | f2d =>
    obtain rfl : len = 1 := by simpa [ky_ci] using hck
    obtain ⟨x, r, rfl, hn, k2⟩ := ky_s1f_e h
    exact lv_f2d hx hb hdg hn (k2 p e R s mm args below meth cc A f0 Ac H locs arr hP h5 hS hl hcn hsn)
  | fdiv =>
    obtain rfl : len = 1 := by simpa [ky_ci] using hck
    obtain ⟨x, y, r, rfl, hn, k2⟩ := ky_s2f_e h
    exact lv_fdiv hx hb hdg hn (k2 p e R s mm args below meth cc A f0 Ac H locs arr hP h5 hS hl hcn hsn)
  | ddiv =>
    obtain rfl : len = 1 := by simpa [ky_ci] using hck
    obtain ⟨x, y, r, rfl, hn, k2⟩ := ky_s2d_e h
    exact lv_ddiv hx hb hdg hn (k2 p e R s mm args below meth cc A f0 Ac H locs arr hP h5 hS hl hcn hsn)
  | dup =>
    obtain rfl : len = 1 := by simpa [ky_ci] using hck
    obtain ⟨x, r, rfl, hc1, k2⟩ := ky_sv_e h
    exact lv_dup hx hb hdg hc1 (k2 p e R s mm args below meth cc A f0 Ac H locs arr hP h5 hS hl hcn hsn)
  | pop =>
    obtain rfl : len = 1 := by simpa [ky_ci] using hck
    obtain ⟨x, r, rfl, hc1, k2⟩ := ky_sv_e h
    exact lv_pop hx hb hdg hc1 (k2 p e R s mm args below meth cc A f0 Ac H locs arr hP h5 hS hl hcn hsn)
  | dup2 =>
    obtain rfl : len = 1 := by simpa [ky_ci] using hck
    obtain ⟨x, y, r, rfl, hc1, hc2, k2⟩ := ky_sv2_e h
    exact lv_dup2_11 hx hb hdg hc1 hc2 (k2 p e R s mm args below meth cc A f0 Ac H locs arr hP h5 hS hl hcn hsn)
  | getfield k =>
    simp only [ky_ci, Bool.and_eq_true, decide_eq_true_eq] at hck
    obtain ⟨rfl, hck⟩ := hck
    obtain ⟨ha, hb1, hlk⟩ := ky_fl_get hck
    obtain ⟨q, r, rfl, h⟩ := ky_sr_e h
    obtain ⟨fs, hf, h⟩ := ky_obj_e h
    obtain ⟨x, hx1, k2⟩ := ky_nth_e h
    obtain ⟨L, hP1, hD1, hL, h6⟩ := id hP
    obtain ⟨k0, hk0⟩ := ky_Wp_at (D := D) (c := c) hL hf rfl
    exact va_get hx hb hts (ky_hin ha) hown hF.1 hP1 k0 hk0 (ky_vc_get ha) b hb1 (hts _ hlk) (fun _ z => z) hx1 hdg (k2 p e R s mm args below meth cc A f0 Ac H locs arr hP h5 hS hl hcn hsn)
  | putfield k =>
    simp only [ky_ci, Bool.and_eq_true, decide_eq_true_eq] at hck
    obtain ⟨⟨⟨rfl, hck⟩, hkd⟩, hfi⟩ := hck
    obtain ⟨ha, hb1, hlk⟩ := ky_fl_get hck
    obtain ⟨x, q, r, rfl, hfv, h⟩ := ky_svr_e h
    obtain ⟨fs, hf, h⟩ := ky_obj_e h
    obtain ⟨hlen, k2⟩ := ky_snt_e h
    obtain ⟨hn1, hn2⟩ := ky_fv_e hfv hkd
    obtain ⟨L, hP1, hD1, hL, h6⟩ := id hP
    obtain ⟨k0, hk0⟩ := ky_Wp_at (D := D) (c := c) hL hf rfl
    by_cases hfin : ((ky_vc a).2.1 b).2.2.2 = true
    · simp only [hfin, Bool.not_true, Bool.false_or, Bool.and_eq_true, decide_eq_true_eq] at hfi
      exact va_putF hx hb hts (ky_hin ha) (ky_fy a) (ky_ty_ok a ha) (ky_nm_ok a ha) hown hF.1 hP1 hD1 hS k0 hk0 (ky_vc_get ha) b hb1 (hts _ hlk) (fun _ z => z) hfin (hname.trans hfi.1) (by rw [hfi.2]; exact ky_own_ok a ha b hb1) (ky_ty_ok a ha b hb1) hn1 hn2 hlen hdg
        (fun H1 locs1 hP2 hD2 hS2 => k2 p e R s mm args below meth cc A f0 Ac H1 locs1 arr (ky_Wp_put0 (e := .inr (a, fs.set b x)) hD1 hL hf rfl hk0 rfl hP2 hD2 (ky_5_bd h6 rfl)) (ky_5_up h5 rfl) hS2 hl hcn hsn)
    · exact va_put hx hb hts (ky_hin ha) (ky_fy a) (ky_ty_ok a ha) (ky_nm_ok a ha) hown hF.1 hP1 hD1 hS k0 hk0 (ky_vc_get ha) b hb1 (hts _ hlk) (fun _ z => z) (by simpa using hfin) (ky_ty_ok a ha b hb1) hn1 hn2 hlen hdg
        (fun H1 locs1 hP2 hD2 hS2 => k2 p e R s mm args below meth cc A f0 Ac H1 locs1 arr (ky_Wp_put0 (e := .inr (a, fs.set b x)) hD1 hL hf rfl hk0 rfl hP2 hD2 (ky_5_bd h6 rfl)) (ky_5_up h5 rfl) hS2 hl hcn hsn)
  | new k =>
    simp only [ky_ci, Bool.and_eq_true, decide_eq_true_eq] at hck
    obtain ⟨rfl, hck⟩ := hck
    by_cases ha100 : a < 100
    · rw [if_pos ha100] at hck
      simp only [Bool.and_eq_true, decide_eq_true_eq] at hck
      obtain ⟨hck, rfl⟩ := hck
      obtain ⟨ha, hlk⟩ := ky_nk_get hck
      simp only [ky_stp, if_pos ha100] at h
      obtain ⟨h1, h2, k2⟩ := h
      obtain ⟨L, hP1, hD1, hL, h6⟩ := id hP
      refine va_new (fs := ky_df.getD a []) hx hb hts (ky_hin ha) (ky_fy a) (ky_ty_ok a ha) hown (hts _ hlk) (hts _ (ky_cw_get ha).1) (hts _ (ky_cw_get ha).2) hF.1 hP1 hD1 hS hA (ky_vc_get ha) (ky_df_ok a ha).2 (by rw [hce]; exact h1) (by rw [hso]; exact h2) hdg (fun q H1 hP2 hD2 hS2 => ?_)
      exact k2 q (ky_new_none hL h6 hSc h5 hD2) p e R s mm args below meth cc A f0 Ac H1 locs arr (ky_Wp_new0 (e := .inr (a, ky_df.getD a [])) hL (ky_new_no hD2) rfl hP2 hD2 (ky_5_bd h6 rfl)) (ky_5_up h5 rfl) hS2 hl h1 h2
    · rw [if_neg ha100] at hck
      simp only [ky_stp, if_neg ha100] at h
      exact ky_thr Ac hdg hck h hP h5 hS hl
  | newarray t =>
    simp only [ky_ci, decide_eq_true_eq] at hck
    obtain ⟨rfl, hck⟩ := hck
    obtain ⟨n, r, rfl, hn0, hn1, h1, h2, k2⟩ := ky_s1i_e h
    obtain ⟨L, hP1, hD1, hL, h6⟩ := id hP
    have key : ∃ ty, newarray.typeOf t = ty ∧ (ky_tys c)[a]? = some (c a, ty) ∧ (∀ C, ty ≠ .object C) ∧ (∀ N' cA, vp_cell cA (ky_z a N') = arrV cA N' (fun _ => defaultValue ty)) ∧ componentBytes ty ≤ 8 ∧ Cond.arrayClass ty ∈ ky_WS ∧ a < 5 := by
      rcases hck with ⟨rfl, rfl⟩ | ⟨rfl, rfl⟩ | ⟨rfl, rfl⟩ | ⟨rfl, rfl⟩
      · exact ⟨.byte, rfl, rfl, (fun _ z => by cases z), (fun _ _ => rfl), by decide, ky_ar_ok _ (by simp), by decide⟩
      · exact ⟨.int, rfl, rfl, (fun _ z => by cases z), (fun _ _ => rfl), by decide, ky_ar_ok _ (by simp), by decide⟩
      · exact ⟨.long, rfl, rfl, (fun _ z => by cases z), (fun _ _ => rfl), by decide, ky_ar_ok _ (by simp), by decide⟩
      · exact ⟨.boolean, rfl, rfl, (fun _ z => by cases z), (fun _ _ => rfl), by decide, ky_ar_ok _ (by simp), by decide⟩
    obtain ⟨ty, e1, e2, e3, e4, e5, e6, e7⟩ := key
    refine va_newa hx hb (by rw [e1]; exact hts _ e6) e1 hF.1 hP1 hD1 hS hA (a0 := ky_z a n.toNatClampNeg) (fun cA => e4 _ cA) hn0 rfl (Nat.le_trans (Nat.mul_le_mul hn1 e5) (Nat.le_of_ble_eq_true rfl)) (by rw [hce]; exact h1) (by rw [hso]; exact h2) hdg (fun q cA H1 hK2 hP2 hD2 hS2 => ?_)
    obtain rfl := ky_cA hF.1 hK2 e2 e3
    have ho : ky_own (some (.inl (a, ky_z a n.toNatClampNeg))) = true := by simp [ky_own, e7]
    exact k2 q (ky_new_none hL h6 hSc h5 hD2) p e R s mm args below meth cc A f0 Ac H1 locs arr (ky_Wp_new0 (e := .inl (a, ky_z a n.toNatClampNeg)) hL (ky_new_no hD2) ho hP2 hD2 (ky_5_bd h6 ho)) (ky_5_up h5 ho) hS2 hl h1 h2
  | anewarray k =>
    simp only [ky_ci, Bool.and_eq_true, decide_eq_true_eq] at hck
    obtain ⟨rfl, hck⟩ := hck
    obtain ⟨ha, hlk⟩ := ky_nk_get hck
    obtain ⟨n, r, rfl, hn0, hn1, h1, h2, k2⟩ := ky_s1i_e h
    obtain ⟨L, hP1, hD1, hL, h6⟩ := id hP
    refine va_newq hx hb hown (hts _ hlk) hF.2.2.2.2.1.2.2 hF.1 hP1 hD1 hS hA hn0 rfl (Nat.le_trans (Nat.mul_le_mul_right 4 hn1) (Nat.le_of_ble_eq_true rfl)) (by rw [hce]; exact h1) (by rw [hso]; exact h2) hdg (fun q cA H1 hK2 hP2 hD2 hS2 => ?_)
    obtain rfl := ky_cAo hF.1 hK2 (a := 4) rfl
    exact k2 q (ky_new_none hL h6 hSc h5 hD2) p e R s mm args below meth cc A f0 Ac H1 locs arr (ky_Wp_new0 (e := .inl (4, n.toNatClampNeg, .inr (.inr (.inr (.inr fun _ => none))))) hL (ky_new_no hD2) rfl hP2 hD2 (ky_5_bd h6 rfl)) (ky_5_up h5 rfl) hS2 hl h1 h2
  | arraylength =>
    obtain rfl : len = 1 := by simpa [ky_ci] using hck
    obtain ⟨q, r, rfl, h⟩ := ky_sr_e h
    obtain ⟨t, y, hf, k2⟩ := ky_arn_e h
    by_cases ht5 : t = 5
    · subst ht5
      obtain ⟨g, hg, hX, hAb, hbl⟩ := hSc q y (h5 q y hf)
      exact va_slen hx hb hX hbl hAb hS hdg (k2 p e R s mm args below meth cc A f0 Ac H locs arr hP h5 hS hl hcn hsn)
    · obtain ⟨L, hP1, hD1, hL, h6⟩ := id hP
      obtain ⟨k0, hk0⟩ := ky_Wp_at (D := D) (c := c) hL hf (by simp only [ky_own, decide_eq_true_eq]; have := h6 q t y hf; omega)
      exact ky_alen hx hb hP1 k0 hk0 hF.1 (by have := h6 q t y hf; omega) hdg (k2 p e R s mm args below meth cc A f0 Ac H locs arr hP h5 hS hl hcn hsn)
  | iaload =>
    obtain rfl : len = 1 := by simpa [ky_ci] using hck
    obtain ⟨q, i, r, rfl, h⟩ := ky_sai_e h
    obtain ⟨t, n, g, hf, ht, hin, k2⟩ := ky_ari_e h
    rcases ht with rfl | rfl
    · obtain ⟨L, hP1, hD1, hL, h6⟩ := id hP
      obtain ⟨k0, hk0⟩ := ky_Wp_at (D := D) (c := c) hL hf rfl
      exact va_iald hx hb hF.1 hP1 k0 1 hk0 rfl hin hdg (k2 p e R s mm args below meth cc A f0 Ac H locs arr hP h5 hS hl hcn hsn)
    · obtain ⟨g', hg, hX, hAb, hbl⟩ := hSc q _ (h5 q _ hf)
      obtain rfl : g = g' := by cases hg; rfl
      exact va_sld hx hb hX hbl hAb hS hin hdg (k2 p e R s mm args below meth cc A f0 Ac H locs arr hP h5 hS hl hcn hsn)
  | baload =>
    obtain rfl : len = 1 := by simpa [ky_ci] using hck
    obtain ⟨q, i, r, rfl, h⟩ := ky_sai_e h
    obtain ⟨t, n, g, hf, ht, hin, k2⟩ := ky_ari_e h
    obtain ⟨L, hP1, hD1, hL, h6⟩ := id hP
    rcases ht with rfl | rfl
    · obtain ⟨k0, hk0⟩ := ky_Wp_at (D := D) (c := c) hL hf rfl
      exact va_bald hx hb hF.1 hP1 k0 0 hk0 rfl hin hdg (k2 p e R s mm args below meth cc A f0 Ac H locs arr hP h5 hS hl hcn hsn)
    · obtain ⟨k0, hk0⟩ := ky_Wp_at (D := D) (c := c) hL hf rfl
      exact va_zald hx hb hF.1 hP1 k0 3 hk0 rfl hin hdg (k2 p e R s mm args below meth cc A f0 Ac H locs arr hP h5 hS hl hcn hsn)
  | laload =>
    obtain rfl : len = 1 := by simpa [ky_ci] using hck
    obtain ⟨q, i, r, rfl, h⟩ := ky_sai_e h
    obtain ⟨t, n, g, hf, rfl, hin, k2⟩ := ky_arl_e h
    obtain ⟨L, hP1, hD1, hL, h6⟩ := id hP
    obtain ⟨k0, hk0⟩ := ky_Wp_at (D := D) (c := c) hL hf rfl
    exact va_lald hx hb hF.1 hP1 k0 2 hk0 rfl hin hdg (k2 p e R s mm args below meth cc A f0 Ac H locs arr hP h5 hS hl hcn hsn)
  | aaload =>
    obtain rfl : len = 1 := by simpa [ky_ci] using hck
    obtain ⟨q, i, r, rfl, h⟩ := ky_sai_e h
    obtain ⟨t, n, g, hf, rfl, hin, k2⟩ := ky_arr_e h
    obtain ⟨L, hP1, hD1, hL, h6⟩ := id hP
    obtain ⟨k0, hk0⟩ := ky_Wp_at (D := D) (c := c) hL hf rfl
    exact va_aldq hx hb hF.1 hP1 k0 4 hk0 rfl hin hdg (k2 p e R s mm args below meth cc A f0 Ac H locs arr hP h5 hS hl hcn hsn)
  | iastore =>
    obtain rfl : len = 1 := by simpa [ky_ci] using hck
    obtain ⟨q, i, x, r, rfl, h⟩ := ky_sasi_e h
    obtain ⟨t, n, g, hf, rfl, hin, k2⟩ := ky_ari_e h
    obtain ⟨L, hP1, hD1, hL, h6⟩ := id hP
    obtain ⟨k0, hk0⟩ := ky_Wp_at (D := D) (c := c) hL hf rfl
    exact va_iast hx hb hF.1 hP1 hD1 hS k0 1 hk0 rfl hin hdg (fun H1 locs1 hP2 hD2 hS2 => k2 p e R s mm args below meth cc A f0 Ac H1 locs1 arr (ky_Wp_put0 (e := .inl (1, n, .inl (upd g i.toNatClampNeg x))) hD1 hL hf rfl hk0 rfl hP2 hD2 (ky_5_bd h6 rfl)) (ky_5_up h5 rfl) hS2 hl hcn hsn)
  | bastore =>
    obtain rfl : len = 1 := by simpa [ky_ci] using hck
    obtain ⟨q, i, x, r, rfl, h⟩ := ky_sasi_e h
    obtain ⟨t, n, g, hf, ht, hin, k2⟩ := ky_ari_e h
    obtain ⟨L, hP1, hD1, hL, h6⟩ := id hP
    rcases ht with rfl | rfl
    · obtain ⟨k0, hk0⟩ := ky_Wp_at (D := D) (c := c) hL hf rfl
      exact va_bast hx hb hF.1 hP1 hD1 hS k0 0 hk0 rfl hin hdg (fun H1 locs1 hP2 hD2 hS2 => k2 p e R s mm args below meth cc A f0 Ac H1 locs1 arr (ky_Wp_put0 (e := .inl (0, n, .inl (upd g i.toNatClampNeg (ky_nb 0 x)))) hD1 hL hf rfl hk0 rfl hP2 hD2 (ky_5_bd h6 rfl)) (ky_5_up h5 rfl) hS2 hl hcn hsn)
    · obtain ⟨k0, hk0⟩ := ky_Wp_at (D := D) (c := c) hL hf rfl
      exact va_zast hx hb hF.1 hP1 hD1 hS k0 3 hk0 rfl hin hdg (fun H1 locs1 hP2 hD2 hS2 => k2 p e R s mm args below meth cc A f0 Ac H1 locs1 arr (ky_Wp_put0 (e := .inl (3, n, .inl (upd g i.toNatClampNeg (ky_nb 3 x)))) hD1 hL hf rfl hk0 rfl hP2 hD2 (ky_5_bd h6 rfl)) (ky_5_up h5 rfl) hS2 hl hcn hsn)
  | lastore =>
    obtain rfl : len = 1 := by simpa [ky_ci] using hck
    obtain ⟨q, i, x, r, rfl, h⟩ := ky_sasl_e h
    obtain ⟨t, n, g, hf, rfl, hin, k2⟩ := ky_arl_e h
    obtain ⟨L, hP1, hD1, hL, h6⟩ := id hP
    obtain ⟨k0, hk0⟩ := ky_Wp_at (D := D) (c := c) hL hf rfl
    exact va_last hx hb hF.1 hP1 hD1 hS k0 2 hk0 rfl hin hdg (fun H1 locs1 hP2 hD2 hS2 => k2 p e R s mm args below meth cc A f0 Ac H1 locs1 arr (ky_Wp_put0 (e := .inl (2, n, .inr (.inl (vp_updL g i.toNatClampNeg x)))) hD1 hL hf rfl hk0 rfl hP2 hD2 (ky_5_bd h6 rfl)) (ky_5_up h5 rfl) hS2 hl hcn hsn)
  | aastore =>
    obtain rfl : len = 1 := by simpa [ky_ci] using hck
    obtain ⟨q, i, x, r, rfl, h⟩ := ky_sasr_e h
    obtain ⟨t, n, g, hf, rfl, hin, ho, k2⟩ := ky_arr_e h
    obtain ⟨fs, hfx, -⟩ := ky_obj_e ho
    obtain ⟨L, hP1, hD1, hL, h6⟩ := id hP
    obtain ⟨k0, hk0⟩ := ky_Wp_at (D := D) (c := c) hL hf rfl
    obtain ⟨k1, hk1⟩ := ky_Wp_at (D := D) (c := c) hL hfx rfl
    exact va_astq hx hb hF.1 hP1 hD1 hS k0 4 k1 3 hk0 rfl hk1 (ky_vc_get (a := 3) (by decide)) hin hdg (fun H1 locs1 hP2 hD2 hS2 => k2 p e R s mm args below meth cc A f0 Ac H1 locs1 arr (ky_Wp_put0 (e := .inl (4, n, .inr (.inr (.inr (.inr (va_up g i.toNatClampNeg (some x))))))) hD1 hL hf rfl hk0 rfl hP2 hD2 (ky_5_bd h6 rfl)) (ky_5_up h5 rfl) hS2 hl hcn hsn)
  | goto o =>
    simp only [ky_ci, decide_eq_true_eq] at hck
    obtain ⟨rfl, ht⟩ := hck
    exact lv_goto hx hb hdg ht (h p e R s mm args below meth cc A f0 Ac H locs arr hP h5 hS hl hcn hsn)
  | ifCond co o =>
    simp only [ky_ci, decide_eq_true_eq] at hck
    obtain ⟨rfl, ht⟩ := hck
    cases co with
    | eq =>
      obtain ⟨x, r, rfl, k2, k3⟩ := ky_s1i_e h
      exact lv_if_eq hx hb hdg ht (fun z => k2 z p e R s mm args below meth cc A f0 Ac H locs arr hP h5 hS hl hcn hsn) (fun z => k3 z p e R s mm args below meth cc A f0 Ac H locs arr hP h5 hS hl hcn hsn)
    | ne =>
      obtain ⟨x, r, rfl, k2, k3⟩ := ky_s1i_e h
      exact lv_if_ne hx hb hdg ht (fun z => k2 z p e R s mm args below meth cc A f0 Ac H locs arr hP h5 hS hl hcn hsn) (fun z => k3 z p e R s mm args below meth cc A f0 Ac H locs arr hP h5 hS hl hcn hsn)
    | lt =>
      obtain ⟨x, r, rfl, k2, k3⟩ := ky_s1i_e h
      exact lv_if_lt hx hb hdg ht (fun z => k2 z p e R s mm args below meth cc A f0 Ac H locs arr hP h5 hS hl hcn hsn) (fun z => k3 z p e R s mm args below meth cc A f0 Ac H locs arr hP h5 hS hl hcn hsn)
    | ge =>
      obtain ⟨x, r, rfl, k2, k3⟩ := ky_s1i_e h
      exact lv_if_ge hx hb hdg ht (fun z => k2 z p e R s mm args below meth cc A f0 Ac H locs arr hP h5 hS hl hcn hsn) (fun z => k3 z p e R s mm args below meth cc A f0 Ac H locs arr hP h5 hS hl hcn hsn)
    | gt =>
      obtain ⟨x, r, rfl, k2, k3⟩ := ky_s1i_e h
      exact lv_if_gt hx hb hdg ht (fun z => k2 z p e R s mm args below meth cc A f0 Ac H locs arr hP h5 hS hl hcn hsn) (fun z => k3 z p e R s mm args below meth cc A f0 Ac H locs arr hP h5 hS hl hcn hsn)
    | le =>
      obtain ⟨x, r, rfl, k2, k3⟩ := ky_s1i_e h
      exact lv_if_le hx hb hdg ht (fun z => k2 z p e R s mm args below meth cc A f0 Ac H locs arr hP h5 hS hl hcn hsn) (fun z => k3 z p e R s mm args below meth cc A f0 Ac H locs arr hP h5 hS hl hcn hsn)
  | if_icmp co o =>
    simp only [ky_ci, decide_eq_true_eq] at hck
    obtain ⟨rfl, ht⟩ := hck
    cases co with
    | eq =>
      obtain ⟨x, y, r, rfl, k2, k3⟩ := ky_s2i_e h
      exact lv_icmp_eq hx hb hdg ht (fun z => k2 z p e R s mm args below meth cc A f0 Ac H locs arr hP h5 hS hl hcn hsn) (fun z => k3 z p e R s mm args below meth cc A f0 Ac H locs arr hP h5 hS hl hcn hsn)
    | ne =>
      obtain ⟨x, y, r, rfl, k2, k3⟩ := ky_s2i_e h
      exact lv_icmp_ne hx hb hdg ht (fun z => k2 z p e R s mm args below meth cc A f0 Ac H locs arr hP h5 hS hl hcn hsn) (fun z => k3 z p e R s mm args below meth cc A f0 Ac H locs arr hP h5 hS hl hcn hsn)
    | lt =>
      obtain ⟨x, y, r, rfl, k2, k3⟩ := ky_s2i_e h
      exact lv_icmp_lt hx hb hdg ht (fun z => k2 z p e R s mm args below meth cc A f0 Ac H locs arr hP h5 hS hl hcn hsn) (fun z => k3 z p e R s mm args below meth cc A f0 Ac H locs arr hP h5 hS hl hcn hsn)
    | ge =>
      obtain ⟨x, y, r, rfl, k2, k3⟩ := ky_s2i_e h
      exact lv_icmp_ge hx hb hdg ht (fun z => k2 z p e R s mm args below meth cc A f0 Ac H locs arr hP h5 hS hl hcn hsn) (fun z => k3 z p e R s mm args below meth cc A f0 Ac H locs arr hP h5 hS hl hcn hsn)
    | gt =>
      obtain ⟨x, y, r, rfl, k2, k3⟩ := ky_s2i_e h
      exact lv_icmp_gt hx hb hdg ht (fun z => k2 z p e R s mm args below meth cc A f0 Ac H locs arr hP h5 hS hl hcn hsn) (fun z => k3 z p e R s mm args below meth cc A f0 Ac H locs arr hP h5 hS hl hcn hsn)
    | le =>
      obtain ⟨x, y, r, rfl, k2, k3⟩ := ky_s2i_e h
      exact lv_icmp_le hx hb hdg ht (fun z => k2 z p e R s mm args below meth cc A f0 Ac H locs arr hP h5 hS hl hcn hsn) (fun z => k3 z p e R s mm args below meth cc A f0 Ac H locs arr hP h5 hS hl hcn hsn)
  | ifnull o =>
    simp only [ky_ci, decide_eq_true_eq] at hck
    obtain ⟨rfl, ht⟩ := hck
    cases st with
    | nil => exact False.elim h
    | cons y r =>
      cases y <;> first | exact lv_ifnullN hx hb hdg ht (h p e R s mm args below meth cc A f0 Ac H locs arr hP h5 hS hl hcn hsn) | exact lv_ifnull hx hb hdg (h p e R s mm args below meth cc A f0 Ac H locs arr hP h5 hS hl hcn hsn) | exact False.elim h
  | ifnonnull o =>
    simp only [ky_ci, decide_eq_true_eq] at hck
    obtain ⟨rfl, ht⟩ := hck
    cases st with
    | nil => exact False.elim h
    | cons y r =>
      cases y <;> first | exact lv_ifnonnull hx hb hdg ht (h p e R s mm args below meth cc A f0 Ac H locs arr hP h5 hS hl hcn hsn) | exact lv_ifnonnullN hx hb hdg (h p e R s mm args below meth cc A f0 Ac H locs arr hP h5 hS hl hcn hsn) | exact False.elim h
  | tableswitch d lo hi offs =>
    simp only [ky_ci, Bool.and_eq_true, decide_eq_true_eq] at hck
    obtain ⟨⟨hd, hhi⟩, htb⟩ := hck
    obtain ⟨x, r, rfl, k2⟩ := ky_s1i_e h
    exact ky_tsw hx hb hdg hd hhi htb k2 (fun tg k => k p e R s mm args below meth cc A f0 Ac H locs arr hP h5 hS hl hcn hsn)
  | lookupswitch d ps =>
    simp only [ky_ci, Bool.and_eq_true, decide_eq_true_eq] at hck
    obtain ⟨⟨hd, hps⟩, hsw⟩ := hck
    obtain ⟨x, r, rfl, k2⟩ := ky_s1i_e h
    exact ky_lsw hx hb hdg hd hps hsw k2 (fun tg k => k p e R s mm args below meth cc A f0 Ac H locs arr hP h5 hS hl hcn hsn)
  | ireturn =>
    simp only [ky_ci, Bool.and_eq_true, Bool.or_eq_true, decide_eq_true_eq] at hck
    obtain ⟨rfl, hck⟩ := hck
    obtain ⟨y, rfl, h⟩ := ky_s1_e h
    obtain ⟨x, r, e1, hc, hq⟩ := ky_s1i_e h
    cases e1
    rcases hck with ⟨hrt, rfl⟩ | ⟨hrt, rfl⟩
    · exact W.widen hcn hsn (vx_ret (W.iret hx hb (hr.trans hrt) (fun t ht hW => ⟨⟨_, f, rfl, hq, by rw [ht]; exact hP, h5⟩, hS.F ht⟩) hS.2.2 hdg hlocks))
    · have hx01 : x = 0 ∨ x = 1 := hc.resolve_left (by decide)
      exact W.widen hcn hsn (vx_ret (W.zret hx hb (hr.trans hrt) (by rcases hx01 with rfl | rfl <;> rfl) (fun t ht hW => ⟨⟨_, f, rfl, hq, by rw [ht]; exact hP, h5⟩, hS.F ht⟩) hS.2.2 hdg hlocks))
  | lreturn =>
    simp only [ky_ci, decide_eq_true_eq] at hck
    obtain ⟨rfl, hrt⟩ := hck
    obtain ⟨y, rfl, h⟩ := ky_s1_e h
    obtain ⟨x, r, e1, hq⟩ := ky_s1l_e h
    cases e1
    exact W.widen hcn hsn (vx_ret (W.lret hx hb (hr.trans hrt) (fun t ht hW => ⟨⟨_, f, rfl, hq, by rw [ht]; exact hP, h5⟩, hS.F ht⟩) hS.2.2 hdg hlocks))
  | freturn =>
    simp only [ky_ci, decide_eq_true_eq] at hck
    obtain ⟨rfl, hrt⟩ := hck
    obtain ⟨y, rfl, h⟩ := ky_s1_e h
    obtain ⟨x, r, e1, hq⟩ := ky_s1f_e h
    cases e1
    exact W.widen hcn hsn (vx_ret (W.fret hx hb (hr.trans hrt) (fun t ht hW => ⟨⟨_, f, rfl, hq, by rw [ht]; exact hP, h5⟩, hS.F ht⟩) hS.2.2 hdg hlocks))
  | dreturn =>
    simp only [ky_ci, decide_eq_true_eq] at hck
    obtain ⟨rfl, hrt⟩ := hck
    obtain ⟨y, rfl, h⟩ := ky_s1_e h
    obtain ⟨x, r, e1, hq⟩ := ky_s1d_e h
    cases e1
    exact W.widen hcn hsn (vx_ret (W.dret hx hb (hr.trans hrt) (fun t ht hW => ⟨⟨_, f, rfl, hq, by rw [ht]; exact hP, h5⟩, hS.F ht⟩) hS.2.2 hdg hlocks))
  | areturn =>
    simp only [ky_ci, Bool.and_eq_true, decide_eq_true_eq] at hck
    obtain ⟨rfl, hrt⟩ := hck
    obtain ⟨y, rfl, h⟩ := ky_s1_e h
    obtain ⟨x, r, e1, hq⟩ := ky_sr_e h
    cases e1
    obtain ⟨rt, hrt1, hrt2⟩ : ∃ rt, ky_rt m = some rt ∧ ((∃ n, rt = .object n) ∨ ∃ t, rt = .array t) := by
      revert hrt
      cases ky_rt m with
      | none => intro z; cases z
      | some rt => cases rt <;> intro z <;> first | exact ⟨_, rfl, Or.inl ⟨_, rfl⟩⟩ | exact ⟨_, rfl, Or.inr ⟨_, rfl⟩⟩ | (cases z; done)
    exact W.widen hcn hsn (vx_ret (W.aret hx hb (hr.trans hrt1) hrt2 (Or.inr ⟨x, rfl⟩) (fun t ht hW => ⟨⟨_, f, rfl, hq, by rw [ht]; exact hP, h5⟩, hS.F ht⟩) hS.2.2 hdg hlocks))
  | return_ =>
    simp only [ky_ci, decide_eq_true_eq] at hck
    obtain ⟨rfl, hrt⟩ := hck
    obtain ⟨rfl, hq⟩ := h
    exact W.widen hcn hsn (vx_ret (W.vret hx hb (hr.trans hrt) (fun t ht hW => ⟨⟨_, f, rfl, hq, by rw [ht]; exact hP, h5⟩, hS.F ht⟩) hS.2.2 hdg hlocks))
  | invokespecial k =>
    exact ky_isp Ac hdg hck h hP h5 hS hl hcn hsn
  | invokestatic k =>
    exact ky_ist Ac hdg hck h hP h5 hS hl hcn hsn
  | invokevirtual k =>
    exact ky_ivi Ac hdg hck h hP h5 hS hl hcn hsn
  | _ => exact False.elim h
