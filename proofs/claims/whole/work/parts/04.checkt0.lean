/-- the tables of handlers as the class files have them -/
def ky_hw : List (List (Nat × Nat × Nat × Nat)) := [[], [], [], [], [], [], [], [], [], [], [], [], [], [], [], [], [], [], [], [], [], [], [], [], [], [], [], [], [], [], [], [], [], [], [], [], [], [], [], [], [], [], [], [], [], [], [], [], [], [], [], [], [], [], [], [], [], [], [], [], [], [], [], [], [], [], [], [], [], [], [], [], [], [], [], [], [], [], [], [], [], [], [], [], [], [], [], [], [], [], [], [], [], [], [], [], [], [], [], [], [], [], [], [], [], [], [], [], [], [], [], [], [], [], [], [], [], [], [], [], [], [], [], [], [], [], [], [], [], [], [], [], [], [], [], [], [], [], [], [], [], [], [], [], [], [], [], [], [], [], [], [], [], [], [], [], [], [], [], [], [], [], [], [], [], [], [], [], [], [], [], [], [], [], [], [], [], [], [], [], [], [], [], [], [], [], [], [], [], [], [], [], [], [], [], [], [], [], [], [], [], [], [], [], [], [], [], [], [], [], [], [], [], [], [], [], [], [], [], [], [], [], [], [], [], [], [], [], [], [], [], [], [], [], [], [], [], [], [], [], [], [], [], [], [], [], [], [], [], [], [], [], [], [], [], [], [], [], [], [], [], [], [], [], [], [], [], [], [], [], [], [], [], [], [], [], [], [], [], [], [], [], [], [], [], [], [], [], [], [], [], [], [], [], [], [], [], [], [(0, 16, 19, 13)], [(0, 9, 12, 19)], [(0, 10, 13, 25), (0, 10, 17, 19)], [(0, 10, 13, 25)], [(0, 10, 13, 25)], [(0, 10, 13, 25), (0, 10, 17, 19)], [(0, 10, 13, 25), (0, 10, 17, 39)], [(0, 10, 13, 25)], [(0, 9, 12, 19)], [(0, 12, 15, 25), (0, 12, 19, 19)], [(0, 12, 15, 25), (0, 12, 19, 19)], [(0, 10, 13, 25)], [(0, 9, 12, 25)], [(0, 12, 15, 25), (0, 12, 19, 19)], [(0, 9, 12, 25)], [(0, 9, 12, 25)], [(0, 12, 15, 25), (0, 12, 19, 19)], [(0, 9, 12, 25)], [(0, 9, 12, 25)], [(0, 10, 13, 25)], [(0, 9, 12, 25)], [(0, 10, 13, 25), (0, 10, 17, 19)], [(0, 10, 13, 25)], [(0, 12, 15, 25), (0, 12, 19, 19)], [(0, 12, 15, 25)], [(0, 9, 12, 25)], [(0, 8, 11, 13)], [(0, 9, 12, 25)], [(0, 9, 12, 25), (0, 9, 15, 13)], []]
/-- the law's class: entry of an exception, which one, word -/
def ky_lx : List (Nat × Nat × Nat) := [(13, 0, 896), (19, 1, 979), (25, 2, 1026), (39, 3, 1105)]
def ky_hh (m : Nat) : List (Nat × Nat × Nat × Nat) := ky_hw.getD m []

/-! THE TABLES OF LINKS: each names words of the Statement's own tables. -/
/-- words that the tables alone decide, but that aren't good: links of the nest, casts, declarations -/
def ky_wk : Cond → Bool
  | .methodLinkNest .. => true
  | .castable .. => true
  | .declares .. => true
  | _ => false
def ky_atn (p : Nat) (w : Cond) : Bool := decide (lw_tbl[p]? = some w) && ky_wk w
def ky_mwd (m : Nat) : Nat × Nat × Nat × Nat := ky_mw.getD m (0, 0, 0, 0)
noncomputable def ky_mkc (y : Nat × Nat × Nat × Nat × Nat) : Bool :=
  let t := y.2.2.2.1
  let p := y.2.2.2.2
  let own := ky_R y.1
  let w := ky_mwd t
  match y.2.2.1 with
  | 0 => ky_at p (.methodLink own y.2.1 (ky_y t)) && ky_at w.2.1 (.instanceMethod (ky_y t)) && ky_at w.2.2.1 (.selects (ky_y t).cls (ky_y t) (ky_y t)) && ky_at w.2.2.2 (.initialized (ky_y t).cls)
  | 1 => ky_at p (.methodLink own y.2.1 (ky_y t)) && ky_at w.2.1 (.static (ky_y t)) && ky_at w.2.2.2 (.initialized (ky_y t).cls)
  | 8 => ky_at p (.methodLink own y.2.1 (ky_y t)) && ky_at w.2.1 (.static (ky_y t)) && ky_at w.2.2.2 (.initialized (ky_y t).cls)
  | 2 => ky_atn p (.methodLinkNest own y.2.1 (ky_y t) RX8) && ky_at w.2.1 (.static (ky_y t)) && ky_at w.2.2.2 (.initialized (ky_y t).cls)
  | 3 => ky_at p (.methodLink own y.2.1 (ky_y t)) && ky_at w.2.1 (.instanceMethod (ky_y t)) && ky_at w.2.2.2 (.initialized (ky_y t).cls) && decide ((ky_y t).name = "<init>")
  | 4 => ky_atn p (.methodLinkNest own y.2.1 (ky_y t) RX8) && ky_at w.2.1 (.instanceMethod (ky_y t)) && ky_at w.2.2.2 (.initialized (ky_y t).cls) && decide ((ky_y t).name = "<init>")
  | 5 => ky_at p (.methodLink own y.2.1 Lib.objectInit)
  | 6 => if t = 1 then ky_at p (.methodLink own y.2.1 Lib.Math.max.name) else if t = 2 then ky_at p (.methodLink own y.2.1 Lib.Math.min.name) else ky_at p (.methodLink own y.2.1 yJ9_floorMod_7cf53)
  | 7 => if t = 3 then ky_at p (.methodLink own y.2.1 yJ0_length_8abf5) else ky_at p (.methodLink own y.2.1 yJ0_charAt_5068e)
  | _ => false
noncomputable def ky_flc (y : Nat × Nat × Nat × Nat × Nat) : Bool :=
  decide (y.2.2.1 < 10 ∧ y.2.2.2.1 < (ky_vc y.2.2.1).2.2) && ky_at y.2.2.2.2 (.fieldLink (ky_R y.1) y.2.1 ((ky_vc y.2.2.1).2.1 y.2.2.2.1).1 ((ky_vc y.2.2.1).2.1 y.2.2.2.1).2.1 ((ky_vc y.2.2.1).2.1 y.2.2.2.1).2.2.1)
noncomputable def ky_nkc (y : Nat × Nat × Nat × Nat) : Bool := decide (y.2.2.1 < 10) && ky_at y.2.2.2 (.classLink (ky_R y.1) y.2.1 (ky_vc y.2.2.1).1)
def ky_x3 : List (Nat × Nat) := [(0, 115), (1, 180), (2, 347)]
def ky_xup : List String := ["java/lang/RuntimeException", "java/lang/Exception"]
noncomputable def ky_xwc (y : Nat × Nat) : Bool :=
  decide (.initialized (ky_xn y.1) ∈ lw_tbl) && goodWord (.initialized (ky_xn y.1))
    && (vx_atS RX8 y.2 (ky_xn y.1) ky_xup).all (fun w => decide (w ∈ lw_tbl) && (goodWord w || ky_wk w))
noncomputable def ky_xkc (y : Nat × Nat × Nat × Nat × Nat × Nat × Nat × Nat) : Bool :=
  decide (y.1 = 8 ∧ y.2.2.1 < 4 ∧ (y.2.2.1 = 3 ∨ (y.2.2.1, y.2.2.2.2.2.1) ∈ ky_x3)) && ky_at y.2.2.2.2.2.2.1 (.classLink (ky_R y.1) y.2.1 (ky_xn y.2.2.1))
set_option maxRecDepth 100000 in
theorem ky_fl_ok : ky_fl.all ky_flc = true := by decide +kernel
set_option maxRecDepth 100000 in
theorem ky_mk_0 : ((ky_mk.drop 0).take 40).all ky_mkc = true := by decide +kernel
set_option maxRecDepth 100000 in
theorem ky_mk_40 : ((ky_mk.drop 40).take 40).all ky_mkc = true := by decide +kernel
set_option maxRecDepth 100000 in
theorem ky_mk_80 : ((ky_mk.drop 80).take 40).all ky_mkc = true := by decide +kernel
set_option maxRecDepth 100000 in
theorem ky_mk_120 : ((ky_mk.drop 120).take 40).all ky_mkc = true := by decide +kernel
set_option maxRecDepth 100000 in
theorem ky_mk_160 : ((ky_mk.drop 160).take 40).all ky_mkc = true := by decide +kernel
set_option maxRecDepth 100000 in
theorem ky_mk_200 : ((ky_mk.drop 200).take 40).all ky_mkc = true := by decide +kernel
set_option maxRecDepth 100000 in
theorem ky_mk_240 : ((ky_mk.drop 240).take 40).all ky_mkc = true := by decide +kernel
set_option maxRecDepth 100000 in
theorem ky_mk_280 : ((ky_mk.drop 280).take 40).all ky_mkc = true := by decide +kernel
set_option maxRecDepth 100000 in
theorem ky_mk_320 : ((ky_mk.drop 320).take 40).all ky_mkc = true := by decide +kernel
set_option maxRecDepth 100000 in
theorem ky_mk_360 : ((ky_mk.drop 360).take 40).all ky_mkc = true := by decide +kernel
set_option maxRecDepth 100000 in
theorem ky_mk_ok : ky_mk.all ky_mkc = true := by
  have e : ky_mk = (ky_mk.drop 0).take 40 ++ ((ky_mk.drop 40).take 40 ++ ((ky_mk.drop 80).take 40 ++ ((ky_mk.drop 120).take 40 ++ ((ky_mk.drop 160).take 40 ++ ((ky_mk.drop 200).take 40 ++ ((ky_mk.drop 240).take 40 ++ ((ky_mk.drop 280).take 40 ++ ((ky_mk.drop 320).take 40 ++ ((ky_mk.drop 360).take 40))))))))) := by decide +kernel
  rw [e]
  simp only [List.all_append, ky_mk_0, ky_mk_40, ky_mk_80, ky_mk_120, ky_mk_160, ky_mk_200, ky_mk_240, ky_mk_280, ky_mk_320, ky_mk_360, Bool.and_true]
set_option maxRecDepth 100000 in
theorem ky_nk_ok : ky_nk.all ky_nkc = true := by decide +kernel
set_option maxRecDepth 100000 in
theorem ky_xk_ok : ky_xk.all ky_xkc = true := by decide +kernel
set_option maxRecDepth 100000 in
theorem ky_cw_ok : ∀ a, a < 10 → (ky_at (ky_cw.getD a (0, 0)).1 (.instantiable (ky_vc a).1 (ky_vc a).2.2) && ky_at (ky_cw.getD a (0, 0)).2 (.initialized (ky_vc a).1)) = true := by decide +kernel
set_option maxRecDepth 100000 in
theorem ky_in_ok : ∀ a, a < 10 → (u_ws (ky_vc a).1 (ky_vc a).2.1 (ky_vc a).2.2).all (fun w => decide (w ∈ lw_tbl) && goodWord w) = true := by decide +kernel
set_option maxRecDepth 100000 in
theorem ky_ty_ok : ∀ a, a < 10 → ∀ k, k < (ky_vc a).2.2 → parseFieldDescriptor ((ky_vc a).2.1 k).2.2.1 = some (ky_fy a k) := by decide +kernel
set_option maxRecDepth 100000 in
theorem ky_nm_ok : ∀ i, i < 10 → ∀ a, a < (ky_vc i).2.2 → ∀ b, b < (ky_vc i).2.2 → a ≠ b → ((ky_vc i).2.1 a).2.1 ≠ ((ky_vc i).2.1 b).2.1 := by decide +kernel
set_option maxRecDepth 100000 in
theorem ky_own_ok : ∀ a, a < 10 → ∀ k, k < (ky_vc a).2.2 → ((ky_vc a).2.1 k).1 = ky_R a := by decide +kernel
set_option maxRecDepth 100000 in
theorem ky_df_ok : ∀ a, a < 10 → (ky_df.getD a []).length = (ky_vc a).2.2 ∧ ∀ k, k < (ky_vc a).2.2 → defaultValue (ky_fy a k) = (ky_df.getD a []).getD k .null := by decide +kernel
set_option maxRecDepth 100000 in
theorem ky_cls_ok : ∀ m, m < 328 → (ky_y m).cls = ky_R (ky_ow m) := by decide +kernel
set_option maxRecDepth 100000 in
theorem ky_R_ok : ∀ o, o < 11 → plainName (ky_R o) = true ∧ ky_R o ≠ "java/lang/invoke/MethodHandle" ∧ ky_R o ≠ "java/lang/invoke/VarHandle" := by decide +kernel
set_option maxRecDepth 100000 in
theorem ky_ow_ok : ∀ m, m < 328 → ky_ow m < 11 := by decide +kernel
set_option maxRecDepth 100000 in
theorem ky_vR : ∀ a, a < 10 → (ky_vc a).1 = ky_R a := by decide +kernel
/-- a method's code among the tables' words -/
noncomputable def ky_cwd (m : Nat) : Cond := if ky_hh m = [] then .code (ky_y m) (ky_by m) (ky_ml m) (ky_rt m) else .codeWith (ky_y m) (ky_by m) (ky_ml m) (ky_rt m) (ky_hh m)

