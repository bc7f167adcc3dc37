/-! THE PROGRAM'S DATA ARE THE PROGRAM: each row agrees with the bytes and with the tables' words. -/
def ky_WS : List Cond := lw_tbl.filter goodWord
def ky_at (p : Nat) (w : Cond) : Bool := decide (lw_tbl[p]? = some w) && goodWord w
theorem ky_at_ws {p : Nat} {w : Cond} (h : ky_at p w = true) : w ∈ ky_WS := by
  simp only [ky_at, Bool.and_eq_true, decide_eq_true_eq] at h
  exact List.mem_filter.mpr ⟨List.mem_of_getElem? h.1, h.2⟩
def ky_c0 : vw_C := (RX0, TX0, 2)
def ky_vc (a : Nat) : vw_C := vwCl.getD a ky_c0
def ky_fy (a : Nat) : Nat → FieldType := [tyX0, tyX1, tyX2, tyX3, tyX4, tyX5, tyX6, tyX7, tyX8, tyX9].getD a tyX0
/-- the kind of a field's type -/
def ky_kd : FieldType → Nat
  | .int => 0
  | .long => 1
  | .object _ => 2
  | .array _ => 2
  | _ => 9
def ky_isr : Option FieldType → Bool
  | some (.object _) => true
  | some (.array _) => true
  | _ => false
/-- how many parameters the method's descriptor names -/
def ky_pn (y : MethodName) : Option Nat := (parseMethodDescriptor y.desc).map (fun d => d.parameters.length)
noncomputable def ky_cal (m a b c1 c2 : Nat) (inst : Nat) : Bool :=
  decide (10 ≤ a ∧ a - 10 < 328 ∧ ky_dp (a - 10) + 1 ≤ ky_dp m ∧ 8 + (ky_ml (a - 10) + 11) + ky_lo (a - 10) ≤ ky_lo m ∧ c1 = ky_ce (a - 10) ∧ c2 = ky_so (a - 10)) && decide ((ky_pn (ky_y (a - 10))).map (fun k => k + inst) = some b)
noncomputable def ky_lnk (m k kind t : Nat) : Bool := ky_mk.any fun y => y.1 == ky_ow m && y.2.1 == k && y.2.2.1 == kind && y.2.2.2.1 == t
def ky_swc (pc : Nat) : List (Int × Int) → List (Int32 × Nat) → Bool
  | [], [] => true
  | (k, o) :: r, (v, t) :: r' => decide (v.toInt = k ∧ (pc : Int) + o = (t : Int)) && ky_swc pc r r'
  | _, _ => false
def ky_tbc (pc : Nat) : Int → List Int → List (Int32 × Nat) → Bool
  | _, [], [] => true
  | k, o :: r, (v, t) :: r' => decide (v.toInt = k ∧ (pc : Int) + o = (t : Int)) && ky_tbc pc (k + 1) r r'
  | _, _, _ => false
noncomputable def ky_ci (m pc : Nat) (i : Instr) (len a b c1 c2 : Nat) (v : Int32) (cs : List (Int32 × Nat)) : Bool :=
  match i with
  | .iload_n k => decide (k.val = a ∧ len = 1)
  | .lload_n k => decide (k.val = a ∧ len = 1)
  | .aload_n k => decide (k.val = a ∧ len = 1)
  | .iload k => decide (k = a ∧ len = 2)
  | .lload k => decide (k = a ∧ len = 2)
  | .dload k => decide (k = a ∧ len = 2)
  | .aload k => decide (k = a ∧ len = 2)
  | .istore_n k => decide (k.val = a ∧ len = 1 ∧ a < ky_ml m)
  | .astore_n k => decide (k.val = a ∧ len = 1 ∧ a < ky_ml m)
  | .lstore_n k => decide (k.val = a ∧ len = 1 ∧ a + 1 < ky_ml m)
  | .istore k => decide (k = a ∧ len = 2 ∧ a < ky_ml m)
  | .astore k => decide (k = a ∧ len = 2 ∧ a < ky_ml m)
  | .lstore k => decide (k = a ∧ len = 2 ∧ a + 1 < ky_ml m)
  | .dstore k => decide (k = a ∧ len = 2 ∧ a + 1 < ky_ml m)
  | .iinc k n => decide (k = a ∧ Int32.ofInt n = v ∧ len = 3 ∧ a < ky_ml m)
  | .iconst n => decide (Int32.ofInt n = v ∧ len = 1)
  | .bipush n => decide ((Int8.ofInt n).toInt32 = v ∧ len = 2)
  | .sipush n => decide ((Int16.ofInt n).toInt32 = v ∧ len = 3)
  | .lconst n => decide (n.val = a ∧ len = 1)
  | .fconst n => decide (n.val = 0 ∧ len = 1)
  | .dconst n => decide (n.val = 0 ∧ len = 1)
  | .ldc k => decide (len = 2) && (if b = 0 then ky_at c1 (.constant (ky_R (ky_ow m)) k v) else ky_sk.any fun y => y.1 == ky_ow m && y.2.1 == k && y.2.2.1 == a)
  | .ldc_w k => decide (len = 3) && (ky_sk.any fun y => y.1 == ky_ow m && y.2.1 == k && y.2.2.1 == a)
  | .getfield k => decide (len = 3) && (ky_fl.any fun y => y.1 == ky_ow m && y.2.1 == k && y.2.2.1 == a && y.2.2.2.1 == b)
  | .putfield k => decide (len = 3) && (ky_fl.any fun y => y.1 == ky_ow m && y.2.1 == k && y.2.2.1 == a && y.2.2.2.1 == b) && decide (ky_kd (ky_fy a b) = c1) && (!((ky_vc a).2.1 b).2.2.2 || (decide ((ky_y m).name = "<init>") && decide (ky_ow m = a)))
  | .new k => decide (len = 3) && (if a < 100 then (ky_nk.any fun y => y.1 == ky_ow m && y.2.1 == k && y.2.2.1 == a) && decide (c1 = (ky_vc a).2.2)
      else (ky_xk.any fun y => y.1 == ky_ow m && y.2.1 == k && y.2.2.1 == a - 100 && y.2.2.2.1 == b && y.2.2.2.2.1 == c1 && y.2.2.2.2.2.1 == c2) && decide (ky_hs m = [] ∧ 6 ≤ ky_dp m ∧ 82 ≤ ky_lo m)
        && (if c1 = 0 then decide (decode (ky_by m) (pc + 3) = .ok (.dup, 1)) && decide (decode (ky_by m) (pc + 4) = .ok (.ldc b, 2)) && decide (decode (ky_by m) (pc + 6) = .ok (.invokespecial c2, 3)) && decide (decode (ky_by m) (pc + 9) = .ok (.athrow, 1))
            else decide (decode (ky_by m) (pc + 3) = .ok (.dup, 1)) && decide (decode (ky_by m) (pc + 4) = .ok (.ldc_w b, 3)) && decide (decode (ky_by m) (pc + 7) = .ok (.invokespecial c2, 3)) && decide (decode (ky_by m) (pc + 10) = .ok (.athrow, 1))))
  | .newarray t => decide (len = 2 ∧ ((a = 0 ∧ t = .byte) ∨ (a = 1 ∧ t = .int) ∨ (a = 2 ∧ t = .long) ∨ (a = 3 ∧ t = .boolean)))
  | .anewarray k => decide (len = 3) && (ky_nk.any fun y => y.1 == ky_ow m && y.2.1 == k && y.2.2.1 == 3)
  | .goto o => decide (len = 3 ∧ (pc : Int) + o = (a : Int))
  | .ifCond _ o => decide (len = 3 ∧ (pc : Int) + o = (a : Int))
  | .if_icmp _ o => decide (len = 3 ∧ (pc : Int) + o = (a : Int))
  | .ifnull o => decide (len = 3 ∧ (pc : Int) + o = (a : Int))
  | .ifnonnull o => decide (len = 3 ∧ (pc : Int) + o = (a : Int))
  | .lookupswitch d ps => decide ((pc : Int) + d = (a : Int)) && (ps.toList.zip (ps.toList.drop 1)).all (fun (x, next) => decide (x.1 < next.1)) && ky_swc pc ps.toList cs
  | .tableswitch d lo hi offs => decide ((pc : Int) + d = (a : Int)) && decide (hi = lo + (offs.size : Int) - 1) && ky_tbc pc lo offs.toList cs
  | .ireturn => decide (len = 1) && (decide (ky_rt m = some .int ∧ c1 = 0) || decide (ky_rt m = some .boolean ∧ c1 = 1))
  | .lreturn => decide (len = 1 ∧ ky_rt m = some .long)
  | .freturn => decide (len = 1 ∧ ky_rt m = some .float)
  | .dreturn => decide (len = 1 ∧ ky_rt m = some .double)
  | .areturn => decide (len = 1) && ky_isr (ky_rt m)
  | .return_ => decide (len = 1 ∧ ky_rt m = none)
  | .invokespecial k => decide (len = 3) && (if a = 0 then ky_lnk m k 5 0 && decide (1 ≤ ky_dp m ∧ 20 ≤ ky_lo m) else (ky_lnk m k 3 (a - 10) || ky_lnk m k 4 (a - 10)) && ky_cal m a b c1 c2 1 && decide (cs = [] ∧ ky_hs (a - 10) = [] ∧ ky_rt (a - 10) = none))
  | .invokestatic k => decide (len = 3) && (if a = 1 then ky_lnk m k 6 1 && decide (1 ≤ ky_dp m ∧ 21 ≤ ky_lo m) else if a = 2 then ky_lnk m k 6 2 && decide (1 ≤ ky_dp m ∧ 21 ≤ ky_lo m) else if a = 5 then ky_lnk m k 6 5 && decide (1 ≤ ky_dp m ∧ 22 ≤ ky_lo m) else ky_cal m a b c1 c2 0 && decide (cs = []) && ((ky_lnk m k 1 (a - 10) && decide (v = 0 ∧ ky_hs (a - 10) = [])) || (ky_lnk m k 2 (a - 10) && decide (v = 1 ∧ ky_hs (a - 10) = [])) || (ky_lnk m k 8 (a - 10) && decide (v = 0))))
  | .invokevirtual k => decide (len = 3) && (if a = 3 then ky_lnk m k 7 3 && decide (2 ≤ ky_dp m ∧ 60 ≤ ky_lo m) else if a = 4 then ky_lnk m k 7 4 && decide (5 ≤ ky_dp m ∧ 130 ≤ ky_lo m) else ky_lnk m k 0 (a - 10) && ky_cal m a b c1 c2 1 && decide (cs = [(0, ky_ow (a - 10))] ∧ ky_hs (a - 10) = []))
  | _ => decide (len = 1)
noncomputable def ky_ck (m : Nat) (x : Nat × ky_I) : Bool := decide (decode (ky_by m) x.1 = .ok (x.2.1, x.2.2.1)) && ky_ci m x.1 x.2.1 x.2.2.1 x.2.2.2.1 x.2.2.2.2.1 x.2.2.2.2.2.1 x.2.2.2.2.2.2.1 x.2.2.2.2.2.2.2.1 x.2.2.2.2.2.2.2.2
