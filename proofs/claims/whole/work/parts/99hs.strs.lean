/-! ## the start: what the Statement's own words give at the law's entry -/
def ky_nl : List Cond := flatC (Cond.and given_1 narrow_1)
/-- text i: class, entry, place of its words -/
def ky_tb : List (Nat × Nat × Nat) := [(4, 54, 63), (4, 64, 72), (4, 73, 82), (4, 82, 91), (4, 88, 131), (4, 90, 139), (4, 92, 146), (5, 48, 152), (5, 75, 208), (9, 214, 631), (9, 216, 642), (9, 218, 651), (9, 220, 660), (9, 222, 669), (9, 224, 678), (9, 261, 710), (9, 263, 718), (9, 265, 729), (9, 267, 739), (9, 269, 749), (9, 271, 761), (9, 273, 769), (9, 275, 779), (9, 277, 787), (9, 279, 796), (9, 281, 806), (9, 283, 815)]
/-- a second entry of a text: class, entry, text, place of the word that says so -/
def ky_te : List (Nat × Nat × Nat × Nat) := [(9, 207, 0, 609), (9, 212, 1, 620), (9, 226, 2, 630), (9, 235, 4, 694), (9, 237, 5, 702), (9, 239, 6, 709)]
/-- the exceptions' texts: class, entry, place -/
def ky_tq : List (Nat × Nat × Nat) := [(8, 113, 235), (8, 178, 273), (8, 219, 319), (8, 249, 359), (8, 256, 377), (8, 259, 403), (8, 288, 456), (8, 345, 502), (8, 348, 527), (8, 356, 574), (8, 361, 291), (8, 366, 338), (8, 368, 554), (8, 370, 421)]
/-- that no exception is another: places -/
def ky_nc : List (List Nat) := [[0, 34, 47, 60], [21, 0, 48, 61], [22, 35, 0, 62], [23, 36, 49, 0]]
def ky_tg (i : Nat) : Nat × Nat × Nat := ky_tb.getD i (0, 0, 0)
def ky_tm (i : Nat) : Term := .string (ky_R (ky_tg i).1) (ky_tg i).2.1
def ky_tv (i : Nat) : Term := .field (ky_tm i) "java/lang/String" "value" "[B"
def ky_tel (i j : Nat) : Cond := .eq (.elem (ky_tv i) (.int (Int32.ofNat j))) (.int (nI ((ky_tx.getD i []).getD j 0)))
def ky_tw (i : Nat) : List Cond := .exactly (ky_tm i) "java/lang/String" :: .eq (.field (ky_tm i) "java/lang/String" "coder" "B") (.int 0) :: .arrayOf (ky_tv i) .byte :: .eq (.length (ky_tv i)) (.int (Int32.ofNat (ky_sl ky_tx i))) :: (List.range (ky_sl ky_tx i)).map (ky_tel i)
set_option maxRecDepth 100000 in
theorem ky_tw_ok : ∀ i, i < 27 → (ky_nl.drop (ky_tg i).2.2).take (4 + ky_sl ky_tx i) = ky_tw i := by decide +kernel
theorem ky_tw_in {i : Nat} (h : i < 27) {w : Cond} (hw : w ∈ ky_tw i) : w ∈ ky_nl := by
  rw [← ky_tw_ok i h] at hw
  exact List.mem_of_mem_drop (List.mem_of_mem_take hw)
def ky_isS (o : String) (k : Nat) : Option Cond → Bool
  | some (.stringRef o2 k2 _) => o2 == o && k2 == k
  | _ => false
def ky_skc (y : Nat × Nat × Nat × Nat) : Bool :=
  ky_isS (ky_R y.1) y.2.1 lw_tbl[y.2.2.2]? && decide (y.2.2.1 < 27) && (((ky_tg y.2.2.1).1 == y.1 && (ky_tg y.2.2.1).2.1 == y.2.1) || ky_te.any fun z => z.1 == y.1 && z.2.1 == y.2.1 && z.2.2.1 == y.2.2.1 && decide (ky_nl[z.2.2.2]? = some (.eq (ky_tm y.2.2.1) (.string (ky_R y.1) y.2.1))))
def ky_xkd (y : Nat × Nat × Nat × Nat × Nat × Nat × Nat × Nat) : Bool :=
  ky_isS (ky_R y.1) y.2.2.2.1 lw_tbl[y.2.2.2.2.2.2.2]? && ky_tq.any fun z => z.1 == y.1 && z.2.1 == y.2.2.2.1 && decide (ky_nl[z.2.2]? = some (.exactly (.string (ky_R y.1) y.2.2.2.1) "java/lang/String"))
set_option maxRecDepth 100000 in
theorem ky_sk_ok : ky_sk.all ky_skc = true := by decide +kernel
set_option maxRecDepth 100000 in
theorem ky_xd_ok : ky_xk.all ky_xkd = true := by decide +kernel
set_option maxRecDepth 100000 in
theorem ky_nc_ok : ∀ i, i < 4 → ∀ j, j < 4 → i ≠ j → ky_nl[(ky_nc.getD i []).getD j 0]? = some (.not (.castable (ky_xn i) (ky_xn j))) := by decide +kernel
theorem ky_isS_e {o : String} {k : Nat} {x : Option Cond} (h : ky_isS o k x = true) : ∃ tx, x = some (.stringRef o k tx) := by
  unfold ky_isS at h
  split at h
  · simp only [Bool.and_eq_true, beq_iff_eq] at h
    obtain ⟨rfl, rfl⟩ := h
    exact ⟨_, rfl⟩
  · cases h
section KYE
variable {args : Array Value} {s : State} {A : Nat → Prop}
theorem ky_eqr {t u : Term} {a : Nat} (h : (Cond.eq t u).before args s = true) (ht : t.eval args s none [] s = some (.ref a)) : u.eval args s none [] s = some (.ref a) := by
  cases hv : u.eval args s none [] s with
  | none => simp [Cond.before, Cond.holds, Cond.value, ht, hv] at h
  | some w =>
    simp only [Cond.before, Cond.holds, Cond.value, ht, hv] at h
    cases w <;> simp_all
/-- the texts: where they lie, what they hold -/
theorem ky_strs (hs : ∀ w ∈ ky_nl, w.before args s = true) (hA : ∀ a : Nat, a < s.heap.size → ¬ A a) : ∃ adK adV : Nat → Nat, ∀ i : Nat, i < 27 → (ky_tm i).eval args s none [] s = some (.ref (adK i)) ∧ va_O "java/lang/String" (adK i) A s s.heap ∧ va_OF "java/lang/String" "coder" "B" (.int 0) (adK i) A s s.heap ∧ va_OF "java/lang/String" "value" "[B" (.ref (adV i)) (adK i) A s s.heap ∧ va_T .byte (adV i) (ky_sl ky_tx i) (fun j => .int (nI ((ky_tx.getD i []).getD j 0))) A s s.heap := by
  have h0 : ∀ i : Nat, ∃ q : Nat × Nat, i < 27 → (ky_tm i).eval args s none [] s = some (.ref q.1) ∧ va_O "java/lang/String" q.1 A s s.heap ∧ va_OF "java/lang/String" "coder" "B" (.int 0) q.1 A s s.heap ∧ va_OF "java/lang/String" "value" "[B" (.ref q.2) q.1 A s s.heap ∧ va_T .byte q.2 (ky_sl ky_tx i) (fun j => .int (nI ((ky_tx.getD i []).getD j 0))) A s s.heap := by
    intro i
    by_cases hi : i < 27
    · have hw : ∀ w ∈ ky_tw i, w.before args s = true := fun w h => hs w (ky_tw_in hi h)
      have hex : (Cond.exactly (ky_tm i) "java/lang/String").before args s = true := hw _ (by unfold ky_tw; simp only [List.mem_cons, true_or])
      have hco : (Cond.eq (.field (ky_tm i) "java/lang/String" "coder" "B") (.int 0)).before args s = true := hw _ (by unfold ky_tw; simp only [List.mem_cons, true_or, or_true])
      have har : (Cond.arrayOf (ky_tv i) .byte).before args s = true := hw _ (by unfold ky_tw; simp only [List.mem_cons, true_or, or_true])
      have hle : (Cond.eq (.length (ky_tv i)) (.int (Int32.ofNat (ky_sl ky_tx i)))).before args s = true := hw _ (by unfold ky_tw; simp only [List.mem_cons, true_or, or_true])
      have hel : ∀ j : Nat, j < ky_sl ky_tx i → (ky_tel i j).before args s = true := fun j hj => hw _ (by
        unfold ky_tw
        refine List.mem_cons_of_mem _ (List.mem_cons_of_mem _ (List.mem_cons_of_mem _ (List.mem_cons_of_mem _ (List.mem_map.mpr ⟨j, List.mem_range.mpr hj, rfl⟩)))))
      obtain ⟨a, c, cA, kA, q1, q2, q3, q4, q5, q6, -⟩ := Cond.exactly_spec (args := args) (first := s) (o := none) (s := s) (idx := []) (t := ky_tm i) (cls := "java/lang/String") hex
      obtain ⟨t, ht, hT⟩ := va_Tof (f := fun j => .int (nI ((ky_tx.getD i []).getD j 0))) (A := A) (ky_sl_lt i) har (va_eqt hle) (fun j hj => va_eqt (hel j hj)) hA
      exact ⟨(a, t), fun _ => ⟨q1, ⟨cA, q3, q5, by rw [q6]; exact q2, hA a (Array.getElem?_eq_some_iff.mp q3).1⟩, vk_OFof q1 (va_eqt hco) hA, vk_OFof q1 ht hA, hT⟩⟩
    · exact ⟨(0, 0), fun h => absurd h hi⟩
  obtain ⟨ad, had⟩ := Classical.axiomOfChoice h0
  exact ⟨fun i => (ad i).1, fun i => (ad i).2, had⟩
theorem ky_sv0 (hs : ∀ w ∈ ky_nl, w.before args s = true) (hts : ∀ w ∈ lw_tbl, w.before args s = true) {adK : Nat → Nat} (h : ∀ i : Nat, i < 27 → (ky_tm i).eval args s none [] s = some (.ref (adK i))) : ky_Sv adK s := by
  refine ⟨fun y hy => ?_, fun y hy => ?_⟩
  · have hc := List.all_eq_true.mp ky_sk_ok y hy
    simp only [ky_skc, Bool.and_eq_true, Bool.or_eq_true, decide_eq_true_eq] at hc
    obtain ⟨⟨h1, h2⟩, h3⟩ := hc
    obtain ⟨tx, h1⟩ := ky_isS_e h1
    refine ⟨tx, vk_R.of (hts _ (List.mem_of_getElem? h1)) ?_⟩
    rcases h3 with h3 | h3
    · simp only [beq_iff_eq] at h3
      have h4 := h _ h2
      unfold ky_tm at h4
      rw [h3.1, h3.2] at h4
      exact h4
    · simp only [List.any_eq_true, Bool.and_eq_true, decide_eq_true_eq] at h3
      obtain ⟨z, -, -, h4⟩ := h3
      exact ky_eqr (hs _ (List.mem_of_getElem? h4)) (h _ h2)
  · have hc := List.all_eq_true.mp ky_xd_ok y hy
    simp only [ky_xkd, Bool.and_eq_true] at hc
    obtain ⟨h1, h3⟩ := hc
    obtain ⟨tx, h1⟩ := ky_isS_e h1
    simp only [List.any_eq_true, Bool.and_eq_true, decide_eq_true_eq] at h3
    obtain ⟨z, -, -, h4⟩ := h3
    obtain ⟨a, c, cA, kA, q1, -⟩ := Cond.exactly_spec (args := args) (first := s) (o := none) (s := s) (idx := []) (hs _ (List.mem_of_getElem? h4))
    exact ⟨tx, a, vk_R.of (hts _ (List.mem_of_getElem? h1)) q1⟩
theorem ky_kn (hts : ∀ w ∈ lw_tbl, w.before args s = true) : ∃ (dC : Nat → ClassId) (dI : Nat → Nat → Nat), ∀ (k : Nat) (q : vw_C), vwCl[k]? = some q → u_Kn s q.1 q.2.1 q.2.2 (dC k) (dI k) := by
  have hW : ∀ w ∈ ky_WS, w.before args s = true := fun w hw => hts w (List.mem_filter.mp hw).1
  have h0 : ∀ k : Nat, ∃ z : ClassId × (Nat → Nat), k < 10 → u_Kn s (ky_vc k).1 (ky_vc k).2.1 (ky_vc k).2.2 z.1 z.2 := by
    intro k
    by_cases hk : k < 10
    · obtain ⟨c, i, h⟩ := u_known hW (ky_hin hk) (hW _ (ky_cw_get hk).1)
      exact ⟨(c, i), fun _ => h⟩
    · exact ⟨(0, fun _ => 0), fun h => absurd h hk⟩
  obtain ⟨ad, had⟩ := Classical.axiomOfChoice h0
  refine ⟨fun k => (ad k).1, fun k => (ad k).2, fun k q hq => ?_⟩
  have hk : k < 10 := (List.getElem?_eq_some_iff.mp hq).1
  have h1 := had k hk
  have h2 := ky_vc_get hk
  rw [hq] at h2
  obtain rfl := Option.some.inj h2
  exact h1
theorem ky_ty1 {ty : FieldType} (hf : ∀ C, ty ≠ .object C) (h : (Cond.arrayClass ty).before args s = true) : ∃ c : ClassId, ArrOfT s c ty ∧ va_RA s c ty := by
  obtain ⟨c, k, comp, h1, h2, h3⟩ := Cond.arrayClass_spec (args := args) (first := s) (o := none) (s := s) (idx := []) h
  refine ⟨c, fun n z => ⟨fun k h => (by cases h), k, h2, comp, h3⟩, ?_⟩
  cases ty <;> first | exact absurd rfl (hf _) | exact h1
theorem ky_ty4 {C : String} (h : (Cond.arrayOver (.object C)).before args s = true) : ∃ c : ClassId, ArrOfT s c (.object C) ∧ va_RA s c (.object C) := by
  obtain ⟨comp, c, k, h1, h2, h3, h4, h5⟩ := Cond.arrayOver_spec (args := args) (first := s) (o := none) (s := s) (idx := []) h
  exact ⟨c, fun n z => ⟨fun k h => (by cases h), k, h3, comp, h4⟩, k, comp, h3, h4, h1, h5⟩
set_option maxRecDepth 100000 in
theorem ky_ao_ok : Cond.arrayOver (.object RX3) ∈ lw_tbl := by decide +kernel
theorem ky_tys0 (hts : ∀ w ∈ lw_tbl, w.before args s = true) : ∃ c : Nat → ClassId, ∀ (k : Nat) (q : ClassId × FieldType), (ky_tys c)[k]? = some q → ArrOfT s q.1 q.2 ∧ va_RA s q.1 q.2 := by
  have hW : ∀ w ∈ ky_WS, w.before args s = true := fun w hw => hts w (List.mem_filter.mp hw).1
  obtain ⟨c0, h0⟩ := ky_ty1 (ty := .byte) (fun _ z => by cases z) (hW _ (ky_ar_ok _ (by simp)))
  obtain ⟨c1, h1⟩ := ky_ty1 (ty := .int) (fun _ z => by cases z) (hW _ (ky_ar_ok _ (by simp)))
  obtain ⟨c2, h2⟩ := ky_ty1 (ty := .long) (fun _ z => by cases z) (hW _ (ky_ar_ok _ (by simp)))
  obtain ⟨c3, h3⟩ := ky_ty1 (ty := .boolean) (fun _ z => by cases z) (hW _ (ky_ar_ok _ (by simp)))
  obtain ⟨c4, h4⟩ := ky_ty4 (hts _ ky_ao_ok)
  refine ⟨fun k => if k = 0 then c0 else if k = 1 then c1 else if k = 2 then c2 else if k = 3 then c3 else c4, ?_⟩
  intro k q hq
  match k, hq with
  | 0, hq => cases hq; exact h0
  | 1, hq => cases hq; exact h1
  | 2, hq => cases hq; exact h2
  | 3, hq => cases hq; exact h3
  | 4, hq => cases hq; exact h4
  | k + 5, hq => simp [ky_tys] at hq
set_option maxRecDepth 100000 in
theorem ky_zw_ok : ky_nl[4]? = some (.eq (.static "java/lang/String" "COMPACT_STRINGS" "Z") (.int 1)) ∧ ky_nl[5]? = some (.isRef (.static "jdk/internal/util/Preconditions" "SIOOBE_FORMATTER" "Ljava/util/function/BiFunction;")) ∧ ky_nl[9]? = some (.isRef (.static Bundle.tN "UNASSIGNED_STACK" Bundle.steD)) ∧ ky_nl[10]? = some (.isRef (.static Bundle.tN "SUPPRESSED_SENTINEL" Bundle.listD)) := by decide +kernel
set_option maxRecDepth 100000 in
theorem ky_zl_ok : ∀ w ∈ ([.laysStatic "java/lang/String" "COMPACT_STRINGS" "Z", .initialized "java/lang/String", .laysStatic "jdk/internal/util/Preconditions" "SIOOBE_FORMATTER" "Ljava/util/function/BiFunction;", .initialized "jdk/internal/util/Preconditions", .laysStatic Bundle.tN "UNASSIGNED_STACK" Bundle.steD, .laysStatic Bundle.tN "SUPPRESSED_SENTINEL" Bundle.listD, .initialized Bundle.tN] : List Cond), w ∈ lw_tbl := by decide +kernel
/-- the law's world at its entry -/
theorem ky_F0 (hs : ∀ w ∈ ky_nl, w.before args s = true) (hts : ∀ w ∈ lw_tbl, w.before args s = true) (hA : ∀ a : Nat, a < s.heap.size → ¬ A a) : ∃ (D : va_G) (c : Nat → ClassId) (adK adV : Nat → Nat), ky_F D c adK adV A s s.heap := by
  obtain ⟨adK, adV, hst⟩ := ky_strs hs hA
  obtain ⟨dC, dI, hK⟩ := ky_kn hts
  obtain ⟨c, hc⟩ := ky_tys0 hts
  have hz : ∀ w ∈ ([.laysStatic "java/lang/String" "COMPACT_STRINGS" "Z", .initialized "java/lang/String", .laysStatic "jdk/internal/util/Preconditions" "SIOOBE_FORMATTER" "Ljava/util/function/BiFunction;", .initialized "jdk/internal/util/Preconditions", .laysStatic Bundle.tN "UNASSIGNED_STACK" Bundle.steD, .laysStatic Bundle.tN "SUPPRESSED_SENTINEL" Bundle.listD, .initialized Bundle.tN] : List Cond), w.before args s = true := fun w hw => hts w (ky_zl_ok w hw)
  obtain ⟨z4, z5, z9, z10⟩ := ky_zw_ok
  have hm : ∀ {k : Nat} {w : Cond}, ky_nl[k]? = some w → w.before args s = true := fun h => hs _ (List.mem_of_getElem? h)
  refine ⟨(dC, dI), c, adK, adV, ⟨hK, hc⟩, vx_Zqof (hz _ (by simp)) (hz _ (by simp)) (hm z9) hA, vx_Zqof (hz _ (by simp)) (hz _ (by simp)) (hm z10) hA, ⟨fun i hi => (hst i hi).2, va_Zof (hz _ (by simp)) (hz _ (by simp)) (va_eqi (hm z4)) hA, va_Zqof (hz _ (by simp)) (hz _ (by simp)) (hm z5) hA⟩, ⟨ky_sv0 hs hts fun i hi => (hst i hi).1, fun w hw hk => va_Nw.of (ky_wk_ot hk) (hts w hw), va_AO.of (A := args) (hts _ ky_ao_ok)⟩, fun i j hi hj hij => va_Nc.of (hm (ky_nc_ok i hi j hj hij))⟩
end KYE
