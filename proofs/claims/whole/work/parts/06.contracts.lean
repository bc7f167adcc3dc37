/-! CONTRACTS: what holds at a method's entry, what it owes at its end; the frame of a call. -/
theorem ky_at_ext {D : va_G} {cl : List vw_C} {q : Nat × va_E} {H H1 : Heap} (h : va_at D cl q H) (e : q.1 < H.size → H1[q.1]? = H[q.1]?) : va_at D cl q H1 := by
  obtain ⟨a, x | o⟩ := q
  · have h1 : H[a]? = some (vp_cell x.1 x.2) := h
    show H1[a]? = some (vp_cell x.1 x.2)
    rw [e (Array.getElem?_eq_some_iff.mp h1).1]; exact h1
  · obtain ⟨r, hr, cell, h1, h2⟩ := h
    exact ⟨r, hr, cell, by rw [e (Array.getElem?_eq_some_iff.mp h1).1]; exact h1, h2⟩
theorem ky_Wp_ext {D : va_G} {c : Nat → ClassId} {A : Nat → Prop} {f : ky_H} {H H1 : Heap} (h : ky_Wp D c A f H) (e : ∀ q : Nat, q < H.size → H1[q]? = H[q]?) : ky_Wp D c A f H1 := by
  obtain ⟨L, hP, hD, hL, h6⟩ := h
  exact ⟨L, fun k q hq => ky_at_ext (hP k q hq) (e q.1), hD, hL, h6⟩
theorem ky_Wp_in {D : va_G} {c : Nat → ClassId} {A B : Nat → Prop} {f : ky_H} {H : Heap} (h : ky_Wp D c A f H) (hAB : ∀ q, A q → ky_own (f q) = true → B q) : ky_Wp D c B f H := by
  obtain ⟨L, hP, hD, hL, h6⟩ := h
  refine ⟨L, hP, ⟨hD.1, fun k q hq => hAB _ (hD.2 k q hq) ((hL _).mp ?_)⟩, hL, h6⟩
  have := List.mem_of_getElem? hq
  obtain ⟨a, ha, e⟩ := List.mem_map.mp this
  rw [← e]; exact ha
theorem ky_Wp_A {D : va_G} {c : Nat → ClassId} {A : Nat → Prop} {f : ky_H} {H : Heap} (h : ky_Wp D c A f H) {q : Nat} (hq : ky_own (f q) = true) : A q := by
  obtain ⟨L, hP, hD, hL, h6⟩ := h
  obtain ⟨k, hk⟩ := va_pl_get (X := []) (f := fun a => ky_re c (f a)) ((hL q).mpr hq)
  rw [List.nil_append] at hk
  exact hD.2 k _ hk
/-- the cells that a method may write: its world's, and new ones -/
def ky_A (f : ky_H) (sz : Nat) : Nat → Prop := fun q => ky_own (f q) = true ∨ sz ≤ q
/-- the String constants (the texts that are words), their classes' links, what else the JDK's members need -/
def ky_St (adK adV : Nat → Nat) (A : Nat → Prop) (U : State) (H : Heap) : Prop :=
  (∀ i : Nat, i < ky_tx.length → va_O "java/lang/String" (adK i) A U H ∧ va_OF "java/lang/String" "coder" "B" (.int 0) (adK i) A U H ∧ va_OF "java/lang/String" "value" "[B" (.ref (adV i)) (adK i) A U H ∧ va_T .byte (adV i) (ky_sl ky_tx i) (fun j => .int (nI ((ky_tx.getD i []).getD j 0))) A U H)
  ∧ va_Z "java/lang/String" "COMPACT_STRINGS" "Z" (.int 1) A U H ∧ va_Zq "jdk/internal/util/Preconditions" "SIOOBE_FORMATTER" "Ljava/util/function/BiFunction;" A U H
def ky_Sv (adK : Nat → Nat) (U : State) : Prop :=
  (∀ y ∈ ky_sk, ∃ tx, vk_R (ky_R y.1) y.2.1 tx (adK y.2.2.1) U) ∧ (∀ y ∈ ky_xk, ∃ tx sa, vk_R (ky_R y.1) y.2.2.2.1 tx sa U)
def ky_Nc (U : State) : Prop := ∀ i j, i < 4 → j < 4 → i ≠ j → va_Nc (ky_xn i) (ky_xn j) U
def ky_Nw (U : State) : Prop := ∀ w ∈ lw_tbl, ky_wk w = true → va_Nw w U
theorem ky_Nw_warm {s U : State} (hW : s.WarmedH U.vm) (h : ky_Nw s) : ky_Nw U := by
  intro w hw hk
  have h1 := h w hw hk
  cases w <;> first | exact va_Nw.warmM hW h1 | exact va_Nw.warmC hW h1 | exact va_Nw.warmD hW h1 | (simp [ky_wk] at hk)
theorem ky_Nw_same {u U : State} (hv : U.vm = u.vm) (h : ky_Nw u) : ky_Nw U := by
  intro w hw hk
  refine va_Nw.same ?_ hv.symm (h w hw hk)
  cases w <;> first | rfl | (simp [ky_wk] at hk)
def ky_F (D : va_G) (c : Nat → ClassId) (adK adV : Nat → Nat) (A : Nat → Prop) (U : State) (H : Heap) : Prop :=
  va_K D vwCl (ky_tys c) U ∧ vx_Zq Bundle.tN "UNASSIGNED_STACK" Bundle.steD A U H ∧ vx_Zq Bundle.tN "SUPPRESSED_SENTINEL" Bundle.listD A U H ∧ ky_St adK adV A U H ∧ (ky_Sv adK U ∧ ky_Nw U ∧ va_AO RX3 U) ∧ ky_Nc U
theorem ky_Nc_moved {u U : State} (hvm : u.vm.Alike U.vm) (h : ky_Nc u) : ky_Nc U := by
  intro i j hi hj hij
  obtain ⟨c, t, h1, h2, h3⟩ := h i j hi hj hij
  exact ⟨c, t, by rw [hvm.findClass]; exact h1, by rw [hvm.findClass]; exact h2, by rw [hvm.assignable]; exact h3⟩
theorem ky_F_kept {D : va_G} {c : Nat → ClassId} {adK adV : Nat → Nat} {A : Nat → Prop} {U : State} {H H1 : Heap} (h : ky_F D c adK adV A U H) (hq : ∀ a : Nat, a < H.size → ¬ A a → H1[a]? = H[a]?) : ky_F D c adK adV A U H1 := by
  obtain ⟨h1, h2, h3, ⟨h4, h5, h6⟩, h7, h8⟩ := h
  exact ⟨h1, h2.kept hq, h3.kept hq, ⟨fun i hi => ⟨(h4 i hi).1.kept hq, (h4 i hi).2.1.kept hq, (h4 i hi).2.2.1.kept hq, (h4 i hi).2.2.2.kept hq⟩, h5.kept hq, h6.kept hq⟩, h7, h8⟩
theorem ky_F_in {D : va_G} {c : Nat → ClassId} {adK adV : Nat → Nat} {A B : Nat → Prop} {U : State} {H : Heap} (h : ky_F D c adK adV A U H) (hAB : ∀ q, B q → A q) : ky_F D c adK adV B U H := by
  obtain ⟨h1, h2, h3, ⟨h4, h5, h6⟩, h7, h8⟩ := h
  exact ⟨h1, h2.narrow hAB, h3.narrow hAB, ⟨fun i hi => ⟨(h4 i hi).1.narrow hAB, (h4 i hi).2.1.narrow hAB, (h4 i hi).2.2.1.narrow hAB, (h4 i hi).2.2.2.narrow hAB⟩, h5.narrow hAB, h6.narrow hAB⟩, h7, h8⟩
theorem ky_F_moved {D : va_G} {c : Nat → ClassId} {adK adV : Nat → Nat} {A : Nat → Prop} {u U : State} {H : Heap} (hvm : u.vm.Alike U.vm) (hv : ky_Sv adK u ∧ ky_Nw u ∧ va_AO RX3 u → ky_Sv adK U ∧ ky_Nw U ∧ va_AO RX3 U) (h : ky_F D c adK adV A u H) : ky_F D c adK adV A U H := by
  obtain ⟨h1, h2, h3, ⟨h4, h5, h6⟩, h7, h8⟩ := h
  exact ⟨va_K.moved hvm h1, h2.moved hvm, h3.moved hvm, ⟨fun i hi => ⟨va_O.moved hvm (h4 i hi).1, va_OF.moved hvm (h4 i hi).2.1, va_OF.moved hvm (h4 i hi).2.2.1, va_T.moved hvm (h4 i hi).2.2.2⟩, va_Z.moved hvm h5, va_Zq.moved hvm h6⟩, hv h7, ky_Nc_moved hvm h8⟩
theorem ky_Sv_warm {adK : Nat → Nat} {s U : State} (hW : s.WarmedH U.vm) (h : ky_Sv adK s) : ky_Sv adK U :=
  ⟨fun y hy => (h.1 y hy).imp fun _ z => vk_R.warm hW z, fun y hy => by
    obtain ⟨tx, sa, z⟩ := h.2 y hy
    exact ⟨tx, sa, vk_R.warm hW z⟩⟩
theorem ky_Sv_same {adK : Nat → Nat} {u U : State} (hv : U.vm = u.vm) (h : ky_Sv adK u) : ky_Sv adK U :=
  ⟨fun y hy => (h.1 y hy).imp fun _ z => vk_R.same hv z, fun y hy => by
    obtain ⟨tx, sa, z⟩ := h.2 y hy
    exact ⟨tx, sa, vk_R.same hv z⟩⟩
theorem ky_X_moved {b n : Nat} {g : Nat → Int32} {u U : State} {H H1 : Heap} (hvm : u.vm.Alike U.vm) (h : va_X b n g u H) (e : H1[b]? = H[b]?) : va_X b n g U H1 := by
  obtain ⟨scr, h1, h2, h3⟩ := h
  exact ⟨scr, by rw [e]; exact h1, State.isArrayOf_alike hvm h2, h3⟩
/-- a method's end, as its postcondition Q tells it -/
def ky_Qc (D : va_G) (c : Nat → ClassId) (A : Nat → Prop) (f0 : ky_H) (Q : ky_Q) : Array Value → State → Outcome → State → Prop := fun _ st oc t =>
  (∃ v f', oc = .returned v ∧ Q (.inl v) f' ∧ ky_Wp D c A f' t.heap ∧ ky_5 f0 f') ∧ va_F A st t
def ky_Xc (D : va_G) (c : Nat → ClassId) (A : Nat → Prop) (f0 : ky_H) (Q : ky_Q) : String → State → State → Prop := fun E st t =>
  (∃ k f', k < 4 ∧ E = ky_xn k ∧ Q (.inr k) f' ∧ ky_Wp D c A f' t.heap ∧ ky_5 f0 f') ∧ va_F A st t
noncomputable def ky_rm (m : Nat) : Room := { frames := ky_dp m, cells := ky_ce m, slots := ky_so m, locals := ky_lo m }
def ky_Pc (D : va_G) (c : Nat → ClassId) (adK adV : Nat → Nat) (As : List Value) (f : ky_H) (sz : Nat) : Array Value → State → Prop :=
  va_Pc As fun U => U.heap.size = sz ∧ ky_Wp D c (ky_A f sz) f U.heap ∧ ky_F D c adK adV (ky_A f sz) U U.heap ∧ ky_Sc (ky_A f sz) f U
theorem ky_Pc_blind {D : va_G} {c : Nat → ClassId} {adK adV : Nat → Nat} {As : List Value} {f : ky_H} {sz : Nat} : FrameBlind (ky_Pc D c adK adV As f sz) := by
  intro a U g mk ⟨h0, h1, h2, h3, h4⟩
  refine ⟨h0, h1, h2, ky_F_moved (u := U) (U := U.calling g mk a) (Vm.Alike.refl U.vm) (fun z => ⟨ky_Sv_same (u := U) (U := U.calling g mk a) rfl z.1, ky_Nw_same (u := U) (U := U.calling g mk a) rfl z.2.1, va_AO.moved (u := U) (U := U.calling g mk a) (Vm.Alike.refl U.vm) z.2.2⟩) h3, fun b x hb => ?_⟩
  obtain ⟨g', e, h5, h6, h7⟩ := h4 b x hb
  exact ⟨g', e, ky_X_moved (u := U) (U := U.calling g mk a) (Vm.Alike.refl U.vm) h5 rfl, h6, h7⟩
/-- a call's start, seen from the caller -/
theorem ky_Pc_of {D : va_G} {c : Nat → ClassId} {adK adV : Nat → Nat} {As : List Value} {f f0 : ky_H} {s : State} {A : Nat → Prop} {H : Heap} {locs : List Loc} (hA : ∀ q, s.heap.size ≤ q → A q) (hF : ky_F D c adK adV A s s.heap) (hc : ky_Sc A f0 s) (h5 : ky_5 f0 f) (hP : ky_Wp D c A f H) (hS : va_S A s.heap H locs)
    (U : State) (hU : U.heap = H) (hW : s.WarmedH U.vm) : ky_Pc D c adK adV As f H.size As.toArray U := by
  have hin : ∀ q, ky_A f H.size q → A q := fun q hq => by
    rcases hq with hq | hq
    · exact ky_Wp_A hP hq
    · exact hA q (Nat.le_trans hS.1 hq)
  refine ⟨rfl, by rw [hU], by rw [hU]; exact ky_Wp_in hP fun q _ ho => Or.inl ho, ?_, fun b x hb => ?_⟩
  · rw [hU]
    exact ky_F_in (ky_F_moved hW.alike (fun z => ⟨ky_Sv_warm hW z.1, ky_Nw_warm hW z.2.1, z.2.2.moved hW.alike⟩) (ky_F_kept hF hS.2.1)) hin
  · obtain ⟨g, e, h1, h2, h3⟩ := hc b x (h5 b x hb)
    refine ⟨g, e, ky_X_moved hW.alike h1 (by rw [hU]; exact hS.2.1 b h3 h2), fun z => h2 (hin b z), ?_⟩
    rw [hU]; exact Nat.lt_of_lt_of_le h3 hS.1
section KYC
variable {p : Program} {l : Launch} {e : Env} {R : Room} {s : State} {m : MethodId} {args : Array Value} {below : List Frame} {meth : Method} {c : Code} {H : Heap} {locs : List Loc} {cells slots : Nat} {Q : State → Prop}
variable {mc ms : Nat} {free : Addr → Prop} {A0 A1 : Nat → Prop} {H0 : Heap} {pc : Nat} {ls : Array Slot} {st0 rest : List Value}
theorem ky_callg {B : Outcome → State → Prop} {BX : String → State → Prop} (hr : vx_Run p l e R s m args below meth c H locs cells slots mc ms (F0 m pc ls st0) rest (fun st oc t => B oc t ∧ va_F A1 st t) (fun E st t => BX E t ∧ va_F A1 st t) free) (hS : va_S A0 H0 H locs) (hA : ∀ q, q < H.size → A1 q → A0 q) (hf : ∀ q, free q → A0 q)
    (kx : ∀ (E : String) (ce : Cell) (q9 : Addr) (t : State) (H1 : Heap) (locs1 : List Loc), t.heap = H1 → s.vm.Alike t.vm → BX E t → H.size ≤ H1.size → va_S A0 H0 H1 locs1 → H1[q9]? = some ce → ce.vm = .none → s.vm.findClass E = some ce.cls → vx_W p l e R s m args below meth c H1 locs1 (cells + mc) (slots + ms) Q (F0 m pc ls rest) q9)
    (kk : ∀ (v : Option Value) (t : State) (H1 : Heap) (locs1 : List Loc), t.heap = H1 → s.vm.Alike t.vm → B (.returned v) t → H.size ≤ H1.size → va_S A0 H0 H1 locs1 → W p l e R s m args below meth c H1 locs1 (cells + mc) (slots + ms) Q (F0 m (pc + 3) ls (v.toList ++ rest))) : W p l e R s m args below meth c H locs cells slots Q (F0 m pc ls st0) := by
  intro T hT X
  rcases hr T hT X with ⟨v, st₀, t, T', L, h0, X', hL, e1, e2, ⟨hb, hF⟩, st⟩ | ⟨q, st₀, t, T', L, E, ce, h0, X', hL, e1, e2, ⟨hb, hF⟩, hce, hcv, hcl, st⟩
  · obtain ⟨k1, k2, k3⟩ := vx_keep h0 e1 hS hA hf hL hF
    obtain ⟨t2, a1, b1⟩ := kk v t T'.heap (locs ++ L) e1.symm (by rw [← e2]; exact X'.warmed.alike) hb k1 k3 T' rfl X'
    exact ⟨t2, st t2 a1, b1⟩
  · obtain ⟨k1, k2, k3⟩ := vx_keep h0 e1 hS hA hf hL hF
    obtain ⟨t2, a1, b1⟩ := kx E ce q t T'.heap (locs ++ L) e1.symm (by rw [← e2]; exact X'.warmed.alike) hb k1 k3 (by rw [e1]; exact hce) hcv hcl T' rfl X'
    exact ⟨t2, st.trans a1, b1⟩
theorem ky_callh {B : Outcome → State → Prop} (hr : va_Run p l e R s m args below meth c H locs cells slots mc ms (F0 m pc ls st0) rest (fun st oc t => B oc t ∧ va_F A1 st t) free) (hS : va_S A0 H0 H locs) (hA : ∀ q, q < H.size → A1 q → A0 q) (hf : ∀ q, free q → A0 q)
    (kk : ∀ (v : Option Value) (t : State) (H1 : Heap) (locs1 : List Loc), t.heap = H1 → s.vm.Alike t.vm → B (.returned v) t → H.size ≤ H1.size → va_S A0 H0 H1 locs1 → W p l e R s m args below meth c H1 locs1 (cells + mc) (slots + ms) Q (F0 m (pc + 3) ls (v.toList ++ rest))) : W p l e R s m args below meth c H locs cells slots Q (F0 m pc ls st0) := by
  intro T hT X
  obtain ⟨v, st₀, t, T', L, h0, X', hL, e1, e2, ⟨hb, hF⟩, st⟩ := hr T hT X
  obtain ⟨k1, k2, k3⟩ := vx_keep h0 e1 hS hA hf hL hF
  obtain ⟨t2, a1, b1⟩ := kk v t T'.heap (locs ++ L) e1.symm (by rw [← e2]; exact X'.warmed.alike) hb k1 k3 T' rfl X'
  exact ⟨t2, st t2 a1, b1⟩
end KYC
/-- a callee that never throws -/
theorem ky_met {l : Launch} {y : MethodName} {ws : List Cond} {rm : Room} {Pc : Array Value → State → Prop} {Qc : Array Value → State → Outcome → State → Prop} {XC : String → State → State → Prop} {mc ms : Nat} {free : Addr → Prop} (h : vx_Met l y ws rm Pc Qc XC mc ms free) (hx : ∀ E st t, ¬ XC E st t) : Met l y ws rm Pc Qc mc ms free := by
  intro p e h1 h2 h3 s m args below h4 h5 h6 h7
  obtain ⟨n, o, g1, g2, g3, g4⟩ := h p e h1 h2 h3 s m args below h4 h5 h6 h7
  refine ⟨n, o, g1, g2, g3, ?_⟩
  rcases g4 with g4 | ⟨q, -, E, ce, L, g5, -⟩
  · exact g4
  · exact absurd g5 (hx E _ _)
theorem ky_slen : ∀ (As : List Value), (lg_sl As).length = ky_cs As
  | [] => rfl
  | v :: r => by
    have ih := ky_slen r
    unfold lg_sl at ih ⊢
    rw [List.flatMap_cons, List.length_append, ih, ky_cs]
    cases v <;> rfl
