/-! THE JDK's MEMBERS that the program calls: String.length, String.charAt (of constants), Math.floorMod. -/
def ky_E0 : Nat → Prop := fun _ => False
/-- a String constant at a, its bytes at v -/
def ky_S1 (a v n : Nat) (g : Nat → Int32) (U : State) : Prop :=
  va_O "java/lang/String" a ky_E0 U U.heap ∧ va_OF "java/lang/String" "coder" "B" (.int 0) a ky_E0 U U.heap ∧ va_OF "java/lang/String" "value" "[B" (.ref v) a ky_E0 U U.heap ∧ va_T .byte v n (fun j => .int (g j)) ky_E0 U U.heap ∧ va_Z "java/lang/String" "COMPACT_STRINGS" "Z" (.int 1) ky_E0 U U.heap ∧ va_Zq "jdk/internal/util/Preconditions" "SIOOBE_FORMATTER" "Ljava/util/function/BiFunction;" ky_E0 U U.heap
theorem ky_S1_to {a v n : Nat} {g : Nat → Int32} {u U : State} {H : Heap} {A : Nat → Prop} {locs : List Loc} (hvm : u.vm.Alike U.vm) (hU : U.heap = H) (hS : va_S A u.heap H locs)
    (h1 : va_O "java/lang/String" a A u u.heap) (h2 : va_OF "java/lang/String" "coder" "B" (.int 0) a A u u.heap) (h3 : va_OF "java/lang/String" "value" "[B" (.ref v) a A u u.heap) (h4 : va_T .byte v n (fun j => .int (g j)) A u u.heap) (h5 : va_Z "java/lang/String" "COMPACT_STRINGS" "Z" (.int 1) A u u.heap) (h6 : va_Zq "jdk/internal/util/Preconditions" "SIOOBE_FORMATTER" "Ljava/util/function/BiFunction;" A u u.heap) : ky_S1 a v n g U := by
  subst hU
  have k := hS.2.1
  exact ⟨va_O.moved hvm ((h1.kept k).narrow fun _ z => z.elim), va_OF.moved hvm ((h2.kept k).narrow fun _ z => z.elim), va_OF.moved hvm ((h3.kept k).narrow fun _ z => z.elim), va_T.moved hvm ((h4.kept k).narrow fun _ z => z.elim), va_Z.moved hvm ((h5.kept k).narrow fun _ z => z.elim), va_Zq.moved hvm ((h6.kept k).narrow fun _ z => z.elim)⟩
theorem ky_S1_on {a v n : Nat} {g : Nat → Int32} {u U : State} (h : ky_S1 a v n g u) (hvm : u.vm.Alike U.vm) (hU : U.heap = u.heap) : ky_S1 a v n g U := by
  obtain ⟨h1, h2, h3, h4, h5, h6⟩ := h
  exact ky_S1_to hvm hU va_S.rf h1 h2 h3 h4 h5 h6
/-- what a pure member owes: its answer; no old cell is written -/
def ky_Qp (v : Option Value) : Array Value → State → Outcome → State → Prop := fun _ st oc t => oc = .returned v ∧ va_F ky_E0 st t
def ky_jw (y : MethodName) (b : ByteArray) (ml : Nat) (rt : Option FieldType) : List Cond := .code y b ml rt :: ky_WS
def ky_jr (f lo : Nat) : Room := { frames := f, cells := 0, slots := 0, locals := lo }
set_option maxRecDepth 100000 in
theorem ky_jd_ok : ∀ w ∈ ([.code yJ0_coder_7d493 cJ0_coder_7d493 1 (some .byte), .code yJ0_isLatin1_aae02 cJ0_isLatin1_aae02 1 (some .boolean), .code yJ0_length_8abf5 cJ0_length_8abf5 1 (some .int), .code yJ3_checkIndex_8e157 cJ3_checkIndex_8e157 3 (some .int), .code yJ0_checkIndex_df160 cJ0_checkIndex_df160 2 none, .code yJ1_charAt_3b067 cJ1_charAt_3b067 2 (some .char), .code yJ0_charAt_5068e cJ0_charAt_5068e 2 (some .char), .code yJ9_floorMod_7cf53 cJ9_floorMod_7cf53 3 (some .int),
    .fieldLink RJ0 38 "java/lang/String" "COMPACT_STRINGS" "Z", .fieldLink RJ0 15 "java/lang/String" "coder" "B", .fieldLink RJ0 9 "java/lang/String" "value" "[B", .methodLink RJ0 335 yJ0_coder_7d493, .instanceMethod yJ0_coder_7d493, .selects RJ0 yJ0_coder_7d493 yJ0_coder_7d493, .initialized RJ0, .methodLink RJ0 492 yJ0_isLatin1_aae02, .instanceMethod yJ0_isLatin1_aae02, .selects RJ0 yJ0_isLatin1_aae02 yJ0_isLatin1_aae02,
    .methodLink RJ0 495 yJ1_charAt_3b067, .static yJ1_charAt_3b067, .initialized RJ1, .methodLink RJ1 9 yJ0_checkIndex_df160, .static yJ0_checkIndex_df160, .fieldLink RJ0 1053 "jdk/internal/util/Preconditions" "SIOOBE_FORMATTER" "Ljava/util/function/BiFunction;", .methodLink RJ0 1059 yJ3_checkIndex_8e157, .static yJ3_checkIndex_8e157, .initialized RJ3, .instanceMethod yJ0_length_8abf5, .selects RJ0 yJ0_length_8abf5 yJ0_length_8abf5, .instanceMethod yJ0_charAt_5068e, .selects RJ0 yJ0_charAt_5068e yJ0_charAt_5068e, .static yJ9_floorMod_7cf53, .initialized RJ9] : List Cond), w ∈ ky_WS := by
  intro w hw
  refine List.mem_filter.mpr ?_
  revert w
  decide +kernel
theorem ky_jwsw {s : State} {args : Array Value} {y : MethodName} {b : ByteArray} {ml : Nat} {rt : Option FieldType} (hc : Cond.code y b ml rt ∈ ky_WS) (hts : ∀ w ∈ ky_WS, w.before args s = true) : ∀ w ∈ ky_jw y b ml rt, ∀ (a' : Array Value) (U : State), s.WarmedH U.vm → w.before a' U = true := by
  intro w hw a' U hW
  have h1 : w ∈ ky_WS := by
    rcases List.mem_cons.mp hw with rfl | h
    · exact hc
    · exact h
  exact word_at hW (good_of_word (List.mem_filter.mp h1).2) (hts w h1)
/-- the body of a member whose class some natives stand in for, but not for it -/
theorem ky_ofWF {l : Launch} {y : MethodName} {ws ws' : List Cond} {rm : Room} {Pc : Array Value → State → Prop} {Qc : Array Value → State → Outcome → State → Prop} {mc ms : Nat} {free : Addr → Prop} {cc : ByteArray} {maxL : Nat} {ret : Option FieldType}
    (hy : plainFor y = true) (hw : ws = Cond.code y cc maxL ret :: ws')
    (body : ∀ p e s m args below meth c s₁, BodyLoose p l y (headSpec ws rm) cc maxL ret e s m args below meth c s₁ → c.maxLocals = maxL → Pc args s →
      W p l e (headSpec ws rm).room s m args below meth c s.heap [] 0 0 (MQ below Qc args s mc ms free) (entryFrame m args maxL)) : Met l y ws rm Pc Qc mc ms free := by
  refine MetFree.of_bodySF (code := cc) (maxLocals := maxL) (ret := ret) hy ?_ ?_
  · intro args s m h hn
    obtain ⟨meth, c, h1, h2, h3, h4, h5, h6, -, -⟩ := Cond.code_spec hn (atoms_spec (ws := ws) h _ (by rw [hw]; exact List.mem_cons_self))
    exact ⟨meth, c, h1, h2, h3, h4, h5, h6⟩
  · intro p e s m args below meth c s₁ B hml hP _
    have hh0 : s₁.heap = s.heap := by rw [B.state]; rfl
    obtain ⟨t, a1, o, b1, b2, b3⟩ := body p e s m args below meth c s₁ B hml hP s₁ hh0 (Stand.of_body B)
    exact ⟨t, o, a1, b1, b2, b3⟩
section KYJ
variable {p : Program} {l : Launch} {e : Env} {R : Room} {s : State} {m : MethodId} {args : Array Value} {below : List Frame} {meth : Method} {c : Code} {H : Heap} {locs : List Loc} {cells slots : Nat} {Q : State → Prop}
/-- a pure member is called: nothing old has changed -/
theorem ky_callp {A0 : Nat → Prop} {H0 : Heap} {pc : Nat} {ls : Array Slot} {st0 rest : List Value} {v : Option Value} (hr : va_Run p l e R s m args below meth c H locs cells slots 0 0 (F0 m pc ls st0) rest (fun st oc t => oc = .returned v ∧ va_F ky_E0 st t) ky_E0) (hS : va_S A0 H0 H locs)
    (kk : ∀ (H1 : Heap) (locs1 : List Loc), (∀ q : Nat, q < H.size → H1[q]? = H[q]?) → va_S A0 H0 H1 locs1 → W p l e R s m args below meth c H1 locs1 cells slots Q (F0 m (pc + 3) ls (v.toList ++ rest))) : W p l e R s m args below meth c H locs cells slots Q (F0 m pc ls st0) := by
  intro T hT X
  obtain ⟨v', st₀, t, T', L, h0, X', hL, e1, e2, ⟨hb, hF⟩, st⟩ := hr T hT X
  obtain ⟨k1, k2, k3⟩ := vx_keep h0 e1 hS (fun q _ z => z.elim) (fun q z => z.elim) hL hF
  cases hb
  obtain ⟨t2, a1, b1⟩ := kk T'.heap (locs ++ L) (fun q hq => k2 q hq id) k3 T' rfl X'
  exact ⟨t2, st t2 a1, b1⟩
end KYJ
set_option maxHeartbeats 4000000 in
set_option maxRecDepth 100000 in
theorem ky_jfm (l : Launch) {x y : Int32} (hy : ¬ y = 0) : Met l yJ9_floorMod_7cf53 (ky_jw yJ9_floorMod_7cf53 cJ9_floorMod_7cf53 3 (some .int)) (ky_jr 0 0) (va_Pc [.int x, .int y] (fun U => True)) (ky_Qp (some (.int (ky_fm x y)))) 0 0 ky_E0 := by
  refine ky_ofWF (cc := cJ9_floorMod_7cf53) (maxL := 3) (ret := (some .int)) (by decide +kernel) rfl ?_
  intro p e s m args below meth c s₁ B hml hv
  obtain ⟨rfl, hv⟩ := hv
  have hx := B.exec
  have hb := B.bytes
  have hr := B.returns
  have hlocks := B.notSynchronized
  have hts0 := atoms_spec (ws := ky_jw yJ9_floorMod_7cf53 cJ9_floorMod_7cf53 3 (some .int)) B.pre
  have hts : ∀ w ∈ ky_WS, w.before _ s = true := fun w hw => hts0 w (List.mem_cons_of_mem _ hw)
  have hown : s.vm.findClass RJ9 = some m.cls := findClass_of_methodNamed B.named
  have hS : va_S ky_E0 s.heap s.heap [] := va_S.rf
  have hl := lv_entry ([.int x, .int y]) (n := 3) (Nat.le_of_ble_eq_true rfl)
  rw [lg_entry_eq]
  generalize (lg_sl ([.int x, .int y]) ++ List.replicate (3 - (lg_sl ([.int x, .int y])).length) Slot.unset).toArray = ls at hl ⊢
  have hl : lv_has ls 3 [(0, .int x), (1, .int y)] := hl
  refine lv_iload_n hx hb (show decode cJ9_floorMod_7cf53 0 = .ok (.iload_n 0, 1) by decide +kernel) rfl (lv_at hl 0 rfl) ?_
  refine lv_iload_n hx hb (show decode cJ9_floorMod_7cf53 1 = .ok (.iload_n 1, 1) by decide +kernel) rfl (lv_at hl 1 rfl) ?_
  refine lv_irem hx hb (show decode cJ9_floorMod_7cf53 2 = .ok (.irem, 1) by decide +kernel) hy ?_
  refine lv_topi (fun r er => ?_)
  refine lv_istore_n (lv' := [(2, .int r), (0, .int x), (1, .int y)]) hx hb (show decode cJ9_floorMod_7cf53 3 = .ok (.istore_n 2, 1) by decide +kernel) rfl hl (by decide) rfl (fun ls hl => ?_)
  refine lv_iload_n hx hb (show decode cJ9_floorMod_7cf53 4 = .ok (.iload_n 0, 1) by decide +kernel) rfl (lv_at hl 1 rfl) ?_
  refine lv_iload_n hx hb (show decode cJ9_floorMod_7cf53 5 = .ok (.iload_n 1, 1) by decide +kernel) rfl (lv_at hl 2 rfl) ?_
  refine lv_ixor hx hb (show decode cJ9_floorMod_7cf53 6 = .ok (.ixor, 1) by decide +kernel) ?_
  refine lv_if_ge (tgt := 18) hx hb (show decode cJ9_floorMod_7cf53 7 = .ok (.ifCond .ge 11, 3) by decide +kernel) (by decide) (fun c1 => ?_) (fun c1 => ?_)
  · refine lv_iload_n hx hb (show decode cJ9_floorMod_7cf53 18 = .ok (.iload_n 2, 1) by decide +kernel) rfl (lv_at hl 0 rfl) ?_
    have e0 : ky_fm x y = r := by rw [ky_fm, if_pos (Or.inl c1), er]
    rw [e0]
    exact W.iret hx hb hr (fun t ht hW => ⟨rfl, hS.F ht⟩) (fun q hq => (hS.2.2 q hq).elim) (show decode cJ9_floorMod_7cf53 19 = .ok (.ireturn, 1) by decide +kernel) hlocks
  · refine lv_iload_n hx hb (show decode cJ9_floorMod_7cf53 10 = .ok (.iload_n 2, 1) by decide +kernel) rfl (lv_at hl 0 rfl) ?_
    refine lv_if_eq (tgt := 18) hx hb (show decode cJ9_floorMod_7cf53 11 = .ok (.ifCond .eq 7, 3) by decide +kernel) (by decide) (fun c2 => ?_) (fun c2 => ?_)
    · refine lv_iload_n hx hb (show decode cJ9_floorMod_7cf53 18 = .ok (.iload_n 2, 1) by decide +kernel) rfl (lv_at hl 0 rfl) ?_
      have e0 : ky_fm x y = r := by rw [ky_fm, if_pos (Or.inr (by rw [← er]; exact c2)), er]
      rw [e0]
      exact W.iret hx hb hr (fun t ht hW => ⟨rfl, hS.F ht⟩) (fun q hq => (hS.2.2 q hq).elim) (show decode cJ9_floorMod_7cf53 19 = .ok (.ireturn, 1) by decide +kernel) hlocks
    · refine lv_iload_n hx hb (show decode cJ9_floorMod_7cf53 14 = .ok (.iload_n 2, 1) by decide +kernel) rfl (lv_at hl 0 rfl) ?_
      refine lv_iload_n hx hb (show decode cJ9_floorMod_7cf53 15 = .ok (.iload_n 1, 1) by decide +kernel) rfl (lv_at hl 2 rfl) ?_
      refine lv_iadd hx hb (show decode cJ9_floorMod_7cf53 16 = .ok (.iadd, 1) by decide +kernel) ?_
      have e0 : ky_fm x y = r + y := by rw [ky_fm, if_neg (fun z => z.elim c1 (fun z => c2 (by rw [er]; exact z))), er]
      rw [e0]
      exact W.iret hx hb hr (fun t ht hW => ⟨rfl, hS.F ht⟩) (fun q hq => (hS.2.2 q hq).elim) (show decode cJ9_floorMod_7cf53 17 = .ok (.ireturn, 1) by decide +kernel) hlocks
set_option maxHeartbeats 4000000 in
set_option maxRecDepth 100000 in
theorem ky_jco (l : Launch) {a v n : Nat} {g : Nat → Int32} : Met l yJ0_coder_7d493 (ky_jw yJ0_coder_7d493 cJ0_coder_7d493 1 (some .byte)) (ky_jr 0 0) (va_Pc [.ref a] (fun U => ky_S1 a v n g U)) (ky_Qp (some (.int 0))) 0 0 ky_E0 := by
  refine Met.ofW (cc := cJ0_coder_7d493) (maxL := 1) (ret := (some .byte)) (by decide) rfl ?_
  intro p e s m args below meth c s₁ B hml hv
  obtain ⟨rfl, hv⟩ := hv
  have hx := B.exec
  have hb := B.bytes
  have hr := B.returns
  have hlocks := B.notSynchronized
  have hts0 := atoms_spec (ws := ky_jw yJ0_coder_7d493 cJ0_coder_7d493 1 (some .byte)) B.pre
  have hts : ∀ w ∈ ky_WS, w.before _ s = true := fun w hw => hts0 w (List.mem_cons_of_mem _ hw)
  have hown : s.vm.findClass RJ0 = some m.cls := findClass_of_methodNamed B.named
  have hS : va_S ky_E0 s.heap s.heap [] := va_S.rf
  have hl := lv_entry ([.ref a]) (n := 1) (Nat.le_of_ble_eq_true rfl)
  rw [lg_entry_eq]
  generalize (lg_sl ([.ref a]) ++ List.replicate (1 - (lg_sl ([.ref a])).length) Slot.unset).toArray = ls at hl ⊢
  have hl : lv_has ls 1 [(0, .ref a)] := hl
  obtain ⟨h1, h2, h3, h4, h5, h6⟩ := id hv
  refine va_gets hx hb h5 hS hown (hts _ (ky_jd_ok _ (by simp))) (fun _ z => z) (show decode cJ0_coder_7d493 0 = .ok (.getstatic 38, 3) by decide +kernel) ?_
  refine lv_if_eq (tgt := 13) hx hb (show decode cJ0_coder_7d493 3 = .ok (.ifCond .eq 10, 3) by decide +kernel) (by decide) (fun c1 => absurd c1 (by decide)) (fun _ => ?_)
  refine lv_aload_n hx hb (show decode cJ0_coder_7d493 6 = .ok (.aload_n 0, 1) by decide +kernel) rfl (lv_at hl 0 rfl) ?_
  refine vk_getf hx hb h2 hS hown (hts _ (ky_jd_ok _ (by simp))) (fun _ z => z) (show decode cJ0_coder_7d493 7 = .ok (.getfield 15, 3) by decide +kernel) ?_
  refine lv_goto (tgt := 14) hx hb (show decode cJ0_coder_7d493 10 = .ok (.goto 4, 3) by decide +kernel) (by decide) ?_
  exact W.zret hx hb hr rfl (fun t ht hW => ⟨rfl, hS.F ht⟩) (fun q hq => (hS.2.2 q hq).elim) (show decode cJ0_coder_7d493 14 = .ok (.ireturn, 1) by decide +kernel) hlocks
set_option maxHeartbeats 4000000 in
set_option maxRecDepth 100000 in
theorem ky_jla (l : Launch) {a v n : Nat} {g : Nat → Int32} : Met l yJ0_isLatin1_aae02 (ky_jw yJ0_isLatin1_aae02 cJ0_isLatin1_aae02 1 (some .boolean)) (ky_jr 0 0) (va_Pc [.ref a] (fun U => ky_S1 a v n g U)) (ky_Qp (some (.int 1))) 0 0 ky_E0 := by
  refine Met.ofW (cc := cJ0_isLatin1_aae02) (maxL := 1) (ret := (some .boolean)) (by decide) rfl ?_
  intro p e s m args below meth c s₁ B hml hv
  obtain ⟨rfl, hv⟩ := hv
  have hx := B.exec
  have hb := B.bytes
  have hr := B.returns
  have hlocks := B.notSynchronized
  have hts0 := atoms_spec (ws := ky_jw yJ0_isLatin1_aae02 cJ0_isLatin1_aae02 1 (some .boolean)) B.pre
  have hts : ∀ w ∈ ky_WS, w.before _ s = true := fun w hw => hts0 w (List.mem_cons_of_mem _ hw)
  have hown : s.vm.findClass RJ0 = some m.cls := findClass_of_methodNamed B.named
  have hS : va_S ky_E0 s.heap s.heap [] := va_S.rf
  have hl := lv_entry ([.ref a]) (n := 1) (Nat.le_of_ble_eq_true rfl)
  rw [lg_entry_eq]
  generalize (lg_sl ([.ref a]) ++ List.replicate (1 - (lg_sl ([.ref a])).length) Slot.unset).toArray = ls at hl ⊢
  have hl : lv_has ls 1 [(0, .ref a)] := hl
  obtain ⟨h1, h2, h3, h4, h5, h6⟩ := id hv
  refine va_gets hx hb h5 hS hown (hts _ (ky_jd_ok _ (by simp))) (fun _ z => z) (show decode cJ0_isLatin1_aae02 0 = .ok (.getstatic 38, 3) by decide +kernel) ?_
  refine lv_if_eq (tgt := 17) hx hb (show decode cJ0_isLatin1_aae02 3 = .ok (.ifCond .eq 14, 3) by decide +kernel) (by decide) (fun c1 => absurd c1 (by decide)) (fun _ => ?_)
  refine lv_aload_n hx hb (show decode cJ0_isLatin1_aae02 6 = .ok (.aload_n 0, 1) by decide +kernel) rfl (lv_at hl 0 rfl) ?_
  refine vk_getf hx hb h2 hS hown (hts _ (ky_jd_ok _ (by simp))) (fun _ z => z) (show decode cJ0_isLatin1_aae02 7 = .ok (.getfield 15, 3) by decide +kernel) ?_
  refine lv_if_ne (tgt := 17) hx hb (show decode cJ0_isLatin1_aae02 10 = .ok (.ifCond .ne 7, 3) by decide +kernel) (by decide) (fun c1 => absurd rfl c1) (fun _ => ?_)
  refine lv_iconst (v := 1) hx hb (show decode cJ0_isLatin1_aae02 13 = .ok (.iconst 1, 1) by decide +kernel) (by decide) ?_
  refine lv_goto (tgt := 18) hx hb (show decode cJ0_isLatin1_aae02 14 = .ok (.goto 4, 3) by decide +kernel) (by decide) ?_
  exact W.zret hx hb hr rfl (fun t ht hW => ⟨rfl, hS.F ht⟩) (fun q hq => (hS.2.2 q hq).elim) (show decode cJ0_isLatin1_aae02 18 = .ok (.ireturn, 1) by decide +kernel) hlocks
theorem ky_jpn {y : MethodName} {n : Nat} (h : (parseMethodDescriptor y.desc).map (fun d => d.parameters.length) = some n) : ∀ sig, parseMethodDescriptor y.desc = some sig → n = sig.parameters.length := by
  intro sig hs
  rw [hs] at h
  exact (Option.some.inj h).symm
theorem ky_jS1b {av : List Value} {a v n : Nat} {g : Nat → Int32} : FrameBlind (va_Pc av (fun U => ky_S1 a v n g U)) := fun b U k mk q => ⟨q.1, ky_S1_on (u := U) (U := U.calling k mk b) q.2 (Vm.Alike.refl U.vm) rfl⟩
theorem ky_j1b {av : List Value} : FrameBlind (va_Pc av (fun _ => True)) := fun _ _ _ _ q => q
theorem ky_recvS {a v n : Nat} {g : Nat → Int32} {s : State} {H : Heap} {locs : List Loc} (h : ky_S1 a v n g s) (hS : va_S ky_E0 s.heap H locs) : ∃ cell : Cell, H[a]? = some cell ∧ cell.vm.isStatics = false ∧ s.vm.findClass RJ0 = some cell.cls := by
  obtain ⟨cell, h1, h2, h3, -⟩ := h.1.kept hS.2.1
  exact ⟨cell, h1, h2, h3⟩
set_option maxHeartbeats 4000000 in
set_option maxRecDepth 100000 in
theorem ky_jle (l : Launch) {a v n : Nat} {g : Nat → Int32} : Met l yJ0_length_8abf5 (ky_jw yJ0_length_8abf5 cJ0_length_8abf5 1 (some .int)) (ky_jr 1 20) (va_Pc [.ref a] (fun U => ky_S1 a v n g U)) (ky_Qp (some (.int (nI n)))) 0 0 ky_E0 := by
  refine Met.ofW (cc := cJ0_length_8abf5) (maxL := 1) (ret := (some .int)) (by decide) rfl ?_
  intro p e s m args below meth c s₁ B hml hv
  obtain ⟨rfl, hv⟩ := hv
  have hx := B.exec
  have hb := B.bytes
  have hr := B.returns
  have hlocks := B.notSynchronized
  have hts0 := atoms_spec (ws := ky_jw yJ0_length_8abf5 cJ0_length_8abf5 1 (some .int)) B.pre
  have hts : ∀ w ∈ ky_WS, w.before _ s = true := fun w hw => hts0 w (List.mem_cons_of_mem _ hw)
  have hown : s.vm.findClass RJ0 = some m.cls := findClass_of_methodNamed B.named
  have hS : va_S ky_E0 s.heap s.heap [] := va_S.rf
  have hl := lv_entry ([.ref a]) (n := 1) (Nat.le_of_ble_eq_true rfl)
  rw [lg_entry_eq]
  generalize (lg_sl ([.ref a]) ++ List.replicate (1 - (lg_sl ([.ref a])).length) Slot.unset).toArray = ls at hl ⊢
  have hl : lv_has ls 1 [(0, .ref a)] := hl
  obtain ⟨h1, h2, h3, h4, h5, h6⟩ := id hv
  refine lv_aload_n hx hb (show decode cJ0_length_8abf5 0 = .ok (.aload_n 0, 1) by decide +kernel) rfl (lv_at hl 0 rfl) ?_
  refine vk_getf hx hb h3 hS hown (hts _ (ky_jd_ok _ (by simp))) (fun _ z => z) (show decode cJ0_length_8abf5 1 = .ok (.getfield 9, 3) by decide +kernel) ?_
  refine va_tlen hx hb h4 hS rfl (show decode cJ0_length_8abf5 4 = .ok (.arraylength, 1) by decide +kernel) ?_
  refine lv_aload_n hx hb (show decode cJ0_length_8abf5 5 = .ok (.aload_n 0, 1) by decide +kernel) rfl (lv_at hl 0 rfl) ?_
  refine ky_callp (v := some (.int 0)) (va_runV (C := RJ0) (As := []) (rest := [.int (Int32.ofNat n)]) (n := 0) (Ts := ky_WS) (nL := 1) (own := RJ0) ⟨hx, hb, hml, hown, hts⟩ (ky_jco l (a := a) (v := v) (n := n) (g := g)) ⟨⟨rfl, rfl, Nat.le_of_ble_eq_true rfl, Nat.le_of_ble_eq_true rfl, ky_jwsw (ky_jd_ok _ (by simp)) hts, List.mem_cons_self, (hts _ (ky_jd_ok _ (by simp))), (hts (.initialized RJ0) (ky_jd_ok _ (by simp))), ⟨by decide +kernel, by decide +kernel⟩, ky_jpn (by decide +kernel), (hts _ (ky_jd_ok _ (by simp)))⟩, (hts _ (ky_jd_ok _ (by simp))), (hts _ (ky_jd_ok _ (by simp)))⟩ ⟨ky_jS1b, ky_recvS hv hS, fun U hU hW => ⟨rfl, ky_S1_to hW.alike hU hS h1 h2 h3 h4 h5 h6⟩⟩ rfl rfl hl.1 rfl (lv_room (Nat.le_of_ble_eq_true rfl)) (show decode cJ0_length_8abf5 6 = .ok (.invokevirtual 335, 3) by decide +kernel) ⟨Nat.le_refl _, Nat.le_refl _⟩) hS (fun H1 locs1 _ hS => ?_)
  refine lv_ishr hx hb (show decode cJ0_length_8abf5 9 = .ok (.ishr, 1) by decide +kernel) ?_
  rw [sb_shr0]
  exact W.iret hx hb hr (fun t ht hW => ⟨rfl, hS.F ht⟩) (fun q hq => (hS.2.2 q hq).elim) (show decode cJ0_length_8abf5 10 = .ok (.ireturn, 1) by decide +kernel) hlocks
set_option maxHeartbeats 4000000 in
set_option maxRecDepth 100000 in
theorem ky_jpr (l : Launch) {i n : Int32} {w9 : Option Nat} (h0 : ¬ i < 0) (h1 : i < n) : Met l yJ3_checkIndex_8e157 (ky_jw yJ3_checkIndex_8e157 cJ3_checkIndex_8e157 3 (some .int)) (ky_jr 0 0) (va_Pc [.int i, .int n, va_rf w9] (fun U => True)) (ky_Qp (some (.int i))) 0 0 ky_E0 := by
  refine Met.ofW (cc := cJ3_checkIndex_8e157) (maxL := 3) (ret := (some .int)) (by decide) rfl ?_
  intro p e s m args below meth c s₁ B hml hv
  obtain ⟨rfl, hv⟩ := hv
  have hx := B.exec
  have hb := B.bytes
  have hr := B.returns
  have hlocks := B.notSynchronized
  have hts0 := atoms_spec (ws := ky_jw yJ3_checkIndex_8e157 cJ3_checkIndex_8e157 3 (some .int)) B.pre
  have hts : ∀ w ∈ ky_WS, w.before _ s = true := fun w hw => hts0 w (List.mem_cons_of_mem _ hw)
  have hown : s.vm.findClass RJ3 = some m.cls := findClass_of_methodNamed B.named
  have hS : va_S ky_E0 s.heap s.heap [] := va_S.rf
  have hl := lv_entry ([.int i, .int n, va_rf w9]) (n := 3) (by cases w9 <;> exact Nat.le_of_ble_eq_true rfl)
  rw [lg_entry_eq]
  generalize (lg_sl ([.int i, .int n, va_rf w9]) ++ List.replicate (3 - (lg_sl ([.int i, .int n, va_rf w9])).length) Slot.unset).toArray = ls at hl ⊢
  have hl : lv_has ls 3 [(0, .int i), (1, .int n)] := lv_sub hl [0, 1] rfl
  refine lv_iload_n hx hb (show decode cJ3_checkIndex_8e157 0 = .ok (.iload_n 0, 1) by decide +kernel) rfl (lv_at hl 0 rfl) ?_
  refine lv_if_lt (tgt := 9) hx hb (show decode cJ3_checkIndex_8e157 1 = .ok (.ifCond .lt 8, 3) by decide +kernel) (by decide) (fun c1 => absurd c1 h0) (fun _ => ?_)
  refine lv_iload_n hx hb (show decode cJ3_checkIndex_8e157 4 = .ok (.iload_n 0, 1) by decide +kernel) rfl (lv_at hl 0 rfl) ?_
  refine lv_iload_n hx hb (show decode cJ3_checkIndex_8e157 5 = .ok (.iload_n 1, 1) by decide +kernel) rfl (lv_at hl 1 rfl) ?_
  refine lv_icmp_lt (tgt := 16) hx hb (show decode cJ3_checkIndex_8e157 6 = .ok (.if_icmp .lt 10, 3) by decide +kernel) (by decide) (fun _ => ?_) (fun c1 => absurd h1 c1)
  refine lv_iload_n hx hb (show decode cJ3_checkIndex_8e157 16 = .ok (.iload_n 0, 1) by decide +kernel) rfl (lv_at hl 0 rfl) ?_
  exact W.iret hx hb hr (fun t ht hW => ⟨rfl, hS.F ht⟩) (fun q hq => (hS.2.2 q hq).elim) (show decode cJ3_checkIndex_8e157 17 = .ok (.ireturn, 1) by decide +kernel) hlocks
set_option maxHeartbeats 4000000 in
set_option maxRecDepth 100000 in
theorem ky_jci (l : Launch) {i n : Int32} (h0 : ¬ i < 0) (h1 : i < n) : Met l yJ0_checkIndex_df160 (ky_jw yJ0_checkIndex_df160 cJ0_checkIndex_df160 2 none) (ky_jr 1 22) (va_Pc [.int i, .int n] (fun U => va_Zq "jdk/internal/util/Preconditions" "SIOOBE_FORMATTER" "Ljava/util/function/BiFunction;" ky_E0 U U.heap)) (ky_Qp (none)) 0 0 ky_E0 := by
  refine Met.ofW (cc := cJ0_checkIndex_df160) (maxL := 2) (ret := none) (by decide) rfl ?_
  intro p e s m args below meth c s₁ B hml hv
  obtain ⟨rfl, hv⟩ := hv
  have hx := B.exec
  have hb := B.bytes
  have hr := B.returns
  have hlocks := B.notSynchronized
  have hts0 := atoms_spec (ws := ky_jw yJ0_checkIndex_df160 cJ0_checkIndex_df160 2 none) B.pre
  have hts : ∀ w ∈ ky_WS, w.before _ s = true := fun w hw => hts0 w (List.mem_cons_of_mem _ hw)
  have hown : s.vm.findClass RJ0 = some m.cls := findClass_of_methodNamed B.named
  have hS : va_S ky_E0 s.heap s.heap [] := va_S.rf
  have hl := lv_entry ([.int i, .int n]) (n := 2) (Nat.le_of_ble_eq_true rfl)
  rw [lg_entry_eq]
  generalize (lg_sl ([.int i, .int n]) ++ List.replicate (2 - (lg_sl ([.int i, .int n])).length) Slot.unset).toArray = ls at hl ⊢
  have hl : lv_has ls 2 [(0, .int i), (1, .int n)] := hl
  refine lv_iload_n hx hb (show decode cJ0_checkIndex_df160 0 = .ok (.iload_n 0, 1) by decide +kernel) rfl (lv_at hl 0 rfl) ?_
  refine lv_iload_n hx hb (show decode cJ0_checkIndex_df160 1 = .ok (.iload_n 1, 1) by decide +kernel) rfl (lv_at hl 1 rfl) ?_
  have key : ∀ w9 : Option Nat, W p l e (headSpec (ky_jw yJ0_checkIndex_df160 cJ0_checkIndex_df160 2 none) (ky_jr 1 22)).room s m [Value.int i, Value.int n].toArray below meth c s.heap [] 0 0 (MQ below (ky_Qp none) [Value.int i, Value.int n].toArray s 0 0 ky_E0) (F0 m (1 + 1 + 3) ls [va_rf w9, .int n, .int i]) := by
    intro w9
    refine ky_callp (v := some (.int i)) (va_runS (As := [.int i, .int n, va_rf w9]) (rest := []) (n := 3) (Ts := ky_WS) (nL := 2) (own := RJ0) ⟨hx, hb, hml, hown, hts⟩ (ky_jpr l (w9 := w9) h0 h1) ⟨⟨rfl, rfl, Nat.le_of_ble_eq_true rfl, Nat.le_of_ble_eq_true rfl, ky_jwsw (ky_jd_ok _ (by simp)) hts, List.mem_cons_self, (hts _ (ky_jd_ok _ (by simp))), (hts (.initialized RJ3) (ky_jd_ok _ (by simp))), ⟨by decide +kernel, by decide +kernel⟩, ky_jpn (by decide +kernel), (hts _ (ky_jd_ok _ (by simp)))⟩, (hts _ (ky_jd_ok _ (by simp)))⟩ ⟨ky_j1b, fun U hU hW => ⟨rfl, trivial⟩⟩ rfl rfl hl.1 rfl (lv_room (Nat.le_of_ble_eq_true rfl)) (show decode cJ0_checkIndex_df160 5 = .ok (.invokestatic 1059, 3) by decide +kernel) ⟨Nat.le_refl _, Nat.le_refl _⟩) hS (fun H1 locs1 _ hS => ?_)
    refine lv_pop hx hb (show decode cJ0_checkIndex_df160 8 = .ok (.pop, 1) by decide +kernel) rfl ?_
    exact W.vret hx hb hr (fun t ht hW => ⟨rfl, hS.F ht⟩) (fun q hq => (hS.2.2 q hq).elim) (show decode cJ0_checkIndex_df160 9 = .ok (.return_, 1) by decide +kernel) hlocks
  rcases hv with hZ | ⟨t9, hZ⟩
  · exact va_gets hx hb hZ hS hown (hts _ (ky_jd_ok _ (by simp))) (fun _ z => z) (show decode cJ0_checkIndex_df160 2 = .ok (.getstatic 1053, 3) by decide +kernel) (key none)
  · exact va_gets hx hb hZ hS hown (hts _ (ky_jd_ok _ (by simp))) (fun _ z => z) (show decode cJ0_checkIndex_df160 2 = .ok (.getstatic 1053, 3) by decide +kernel) (key (some t9))
set_option maxHeartbeats 4000000 in
set_option maxRecDepth 100000 in
theorem ky_jlc (l : Launch) {a v n : Nat} {g : Nat → Int32} {j : Nat} (hj : j < n) (hn : n < 2 ^ 31) : Met l yJ1_charAt_3b067 (ky_jw yJ1_charAt_3b067 cJ1_charAt_3b067 2 (some .char)) (ky_jr 2 43) (va_Pc [.ref v, .int (nI j)] (fun U => ky_S1 a v n g U)) (ky_Qp (some (.int (g j &&& 255)))) 0 0 ky_E0 := by
  refine Met.ofW (cc := cJ1_charAt_3b067) (maxL := 2) (ret := (some .char)) (by decide) rfl ?_
  intro p e s m args below meth c s₁ B hml hv
  obtain ⟨rfl, hv⟩ := hv
  have hx := B.exec
  have hb := B.bytes
  have hr := B.returns
  have hlocks := B.notSynchronized
  have hts0 := atoms_spec (ws := ky_jw yJ1_charAt_3b067 cJ1_charAt_3b067 2 (some .char)) B.pre
  have hts : ∀ w ∈ ky_WS, w.before _ s = true := fun w hw => hts0 w (List.mem_cons_of_mem _ hw)
  have hown : s.vm.findClass RJ1 = some m.cls := findClass_of_methodNamed B.named
  have hS : va_S ky_E0 s.heap s.heap [] := va_S.rf
  have hl := lv_entry ([.ref v, .int (nI j)]) (n := 2) (Nat.le_of_ble_eq_true rfl)
  rw [lg_entry_eq]
  generalize (lg_sl ([.ref v, .int (nI j)]) ++ List.replicate (2 - (lg_sl ([.ref v, .int (nI j)])).length) Slot.unset).toArray = ls at hl ⊢
  have hl : lv_has ls 2 [(0, .ref v), (1, .int (nI j))] := hl
  obtain ⟨h1, h2, h3, h4, h5, h6⟩ := id hv
  refine lv_iload_n hx hb (show decode cJ1_charAt_3b067 0 = .ok (.iload_n 1, 1) by decide +kernel) rfl (lv_at hl 1 rfl) ?_
  refine lv_aload_n hx hb (show decode cJ1_charAt_3b067 1 = .ok (.aload_n 0, 1) by decide +kernel) rfl (lv_at hl 0 rfl) ?_
  refine va_tlen hx hb h4 hS rfl (show decode cJ1_charAt_3b067 2 = .ok (.arraylength, 1) by decide +kernel) ?_
  refine ky_callp (v := none) (va_runS (As := [.int (nI j), .int (Int32.ofNat n)]) (rest := []) (n := 2) (Ts := ky_WS) (nL := 2) (own := RJ1) ⟨hx, hb, hml, hown, hts⟩ (ky_jci l (nI_pos (by omega)) (nI_lt hj hn)) ⟨⟨rfl, rfl, Nat.le_of_ble_eq_true rfl, Nat.le_of_ble_eq_true rfl, ky_jwsw (ky_jd_ok _ (by simp)) hts, List.mem_cons_self, (hts _ (ky_jd_ok _ (by simp))), (hts (.initialized RJ0) (ky_jd_ok _ (by simp))), ⟨by decide +kernel, by decide +kernel⟩, ky_jpn (by decide +kernel), (hts _ (ky_jd_ok _ (by simp)))⟩, (hts _ (ky_jd_ok _ (by simp)))⟩ ⟨fun b U k mk q => ⟨q.1, va_Zq.moved (u := U) (U := U.calling k mk b) (Vm.Alike.refl U.vm) q.2⟩, fun U hU hW => ⟨rfl, (ky_S1_to hW.alike hU hS h1 h2 h3 h4 h5 h6).2.2.2.2.2⟩⟩ rfl rfl hl.1 rfl (lv_room (Nat.le_of_ble_eq_true rfl)) (show decode cJ1_charAt_3b067 3 = .ok (.invokestatic 9, 3) by decide +kernel) ⟨Nat.le_refl _, Nat.le_refl _⟩) hS (fun H1 locs1 _ hS => ?_)
  refine lv_aload_n hx hb (show decode cJ1_charAt_3b067 6 = .ok (.aload_n 0, 1) by decide +kernel) rfl (lv_at hl 0 rfl) ?_
  refine lv_iload_n hx hb (show decode cJ1_charAt_3b067 7 = .ok (.iload_n 1, 1) by decide +kernel) rfl (lv_at hl 1 rfl) ?_
  refine va_tb hx hb h4 hS (vp_in_nI hj hn) (v := .int (g j)) (by show Value.int (g (nI j).toNatClampNeg) = _; rw [nI_clamp (by omega)]) (show decode cJ1_charAt_3b067 8 = .ok (.baload, 1) by decide +kernel) ?_
  refine lv_sipush (v := 255) hx hb (show decode cJ1_charAt_3b067 9 = .ok (.sipush 255, 3) by decide +kernel) (by decide) ?_
  refine lv_iand hx hb (show decode cJ1_charAt_3b067 12 = .ok (.iand, 1) by decide +kernel) ?_
  refine lv_i2c hx hb (show decode cJ1_charAt_3b067 13 = .ok (.i2c, 1) by decide +kernel) (sc_c2 _) ?_
  exact W.zret hx hb hr (sc_nar _) (fun t ht hW => ⟨rfl, hS.F ht⟩) (fun q hq => (hS.2.2 q hq).elim) (show decode cJ1_charAt_3b067 14 = .ok (.ireturn, 1) by decide +kernel) hlocks
set_option maxHeartbeats 4000000 in
set_option maxRecDepth 100000 in
theorem ky_jca (l : Launch) {a v n : Nat} {g : Nat → Int32} {j : Nat} (hj : j < n) (hn : n < 2 ^ 31) : Met l yJ0_charAt_5068e (ky_jw yJ0_charAt_5068e cJ0_charAt_5068e 2 (some .char)) (ky_jr 3 64) (va_Pc [.ref a, .int (nI j)] (fun U => ky_S1 a v n g U)) (ky_Qp (some (.int (g j &&& 255)))) 0 0 ky_E0 := by
  refine Met.ofW (cc := cJ0_charAt_5068e) (maxL := 2) (ret := (some .char)) (by decide) rfl ?_
  intro p e s m args below meth c s₁ B hml hv
  obtain ⟨rfl, hv⟩ := hv
  have hx := B.exec
  have hb := B.bytes
  have hr := B.returns
  have hlocks := B.notSynchronized
  have hts0 := atoms_spec (ws := ky_jw yJ0_charAt_5068e cJ0_charAt_5068e 2 (some .char)) B.pre
  have hts : ∀ w ∈ ky_WS, w.before _ s = true := fun w hw => hts0 w (List.mem_cons_of_mem _ hw)
  have hown : s.vm.findClass RJ0 = some m.cls := findClass_of_methodNamed B.named
  have hS : va_S ky_E0 s.heap s.heap [] := va_S.rf
  have hl := lv_entry ([.ref a, .int (nI j)]) (n := 2) (Nat.le_of_ble_eq_true rfl)
  rw [lg_entry_eq]
  generalize (lg_sl ([.ref a, .int (nI j)]) ++ List.replicate (2 - (lg_sl ([.ref a, .int (nI j)])).length) Slot.unset).toArray = ls at hl ⊢
  have hl : lv_has ls 2 [(0, .ref a), (1, .int (nI j))] := hl
  obtain ⟨h1, h2, h3, h4, h5, h6⟩ := id hv
  refine lv_aload_n hx hb (show decode cJ0_charAt_5068e 0 = .ok (.aload_n 0, 1) by decide +kernel) rfl (lv_at hl 0 rfl) ?_
  refine ky_callp (v := some (.int 1)) (va_runV (C := RJ0) (As := []) (rest := []) (n := 0) (Ts := ky_WS) (nL := 2) (own := RJ0) ⟨hx, hb, hml, hown, hts⟩ (ky_jla l (a := a) (v := v) (n := n) (g := g)) ⟨⟨rfl, rfl, Nat.le_of_ble_eq_true rfl, Nat.le_of_ble_eq_true rfl, ky_jwsw (ky_jd_ok _ (by simp)) hts, List.mem_cons_self, (hts _ (ky_jd_ok _ (by simp))), (hts (.initialized RJ0) (ky_jd_ok _ (by simp))), ⟨by decide +kernel, by decide +kernel⟩, ky_jpn (by decide +kernel), (hts _ (ky_jd_ok _ (by simp)))⟩, (hts _ (ky_jd_ok _ (by simp))), (hts _ (ky_jd_ok _ (by simp)))⟩ ⟨ky_jS1b, ky_recvS hv hS, fun U hU hW => ⟨rfl, ky_S1_to hW.alike hU hS h1 h2 h3 h4 h5 h6⟩⟩ rfl rfl hl.1 rfl (lv_room (Nat.le_of_ble_eq_true rfl)) (show decode cJ0_charAt_5068e 1 = .ok (.invokevirtual 492, 3) by decide +kernel) ⟨Nat.le_refl _, Nat.le_refl _⟩) hS (fun H1 locs1 _ hS => ?_)
  refine lv_if_eq (tgt := 16) hx hb (show decode cJ0_charAt_5068e 4 = .ok (.ifCond .eq 12, 3) by decide +kernel) (by decide) (fun c1 => absurd c1 (by decide)) (fun _ => ?_)
  refine lv_aload_n hx hb (show decode cJ0_charAt_5068e 7 = .ok (.aload_n 0, 1) by decide +kernel) rfl (lv_at hl 0 rfl) ?_
  refine vk_getf hx hb h3 hS hown (hts _ (ky_jd_ok _ (by simp))) (fun _ z => z) (show decode cJ0_charAt_5068e 8 = .ok (.getfield 9, 3) by decide +kernel) ?_
  refine lv_iload_n hx hb (show decode cJ0_charAt_5068e 11 = .ok (.iload_n 1, 1) by decide +kernel) rfl (lv_at hl 1 rfl) ?_
  refine ky_callp (v := some (.int (g j &&& 255))) (va_runS (As := [.ref v, .int (nI j)]) (rest := []) (n := 2) (Ts := ky_WS) (nL := 2) (own := RJ0) ⟨hx, hb, hml, hown, hts⟩ (ky_jlc l (a := a) hj hn) ⟨⟨rfl, rfl, Nat.le_of_ble_eq_true rfl, Nat.le_of_ble_eq_true rfl, ky_jwsw (ky_jd_ok _ (by simp)) hts, List.mem_cons_self, (hts _ (ky_jd_ok _ (by simp))), (hts (.initialized RJ1) (ky_jd_ok _ (by simp))), ⟨by decide +kernel, by decide +kernel⟩, ky_jpn (by decide +kernel), (hts _ (ky_jd_ok _ (by simp)))⟩, (hts _ (ky_jd_ok _ (by simp)))⟩ ⟨ky_jS1b, fun U hU hW => ⟨rfl, ky_S1_to hW.alike hU hS h1 h2 h3 h4 h5 h6⟩⟩ rfl rfl hl.1 rfl (lv_room (Nat.le_of_ble_eq_true rfl)) (show decode cJ0_charAt_5068e 12 = .ok (.invokestatic 495, 3) by decide +kernel) ⟨Nat.le_refl _, Nat.le_refl _⟩) hS (fun H1 locs1 _ hS => ?_)
  exact W.zret hx hb hr (sc_nar _) (fun t ht hW => ⟨rfl, hS.F ht⟩) (fun q hq => (hS.2.2 q hq).elim) (show decode cJ0_charAt_5068e 15 = .ok (.ireturn, 1) by decide +kernel) hlocks
