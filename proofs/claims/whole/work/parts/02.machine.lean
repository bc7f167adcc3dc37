/-! THE ABSTRACT MACHINE. A heap is a function from addresses to things: an array (its type's number: 0 byte, 1 int, 2 long, 3 boolean, 4 Outline, 5 the law's script) or an object (its class' number in vwCl, its fields). ky_ok: the least predicate that is closed under one step; a call is a statement of the same kind. -/
abbrev ky_E : Type := (Nat × vp_A) ⊕ (Nat × List Value)
abbrev ky_H : Type := Nat → Option ky_E
abbrev ky_L : Type := List (Option Value)
abbrev ky_O : Type := Option Value ⊕ Nat
abbrev ky_Q : Type := ky_O → ky_H → Prop
abbrev ky_K : Type := Nat → ky_L → List Value → ky_H → Nat → Nat → Prop
abbrev ky_C : Type := Nat → List Value → ky_H → ky_Q → Prop
/-- an instruction; its length; four numbers, a whole number and a list that its kind gives a meaning -/
abbrev ky_I : Type := Instr × Nat × Nat × Nat × Nat × Nat × Int32 × List (Int32 × Nat)
abbrev ky_Hs : Type := List (Nat × Nat × Nat × Nat)
def ky_up (f : ky_H) (q : Nat) (e : ky_E) : ky_H := fun a => if a = q then some e else f a
-- locals
def ky_ldi : ky_L → Nat → (Int32 → Prop) → Prop
  | some (.int x) :: _, 0, P => P x
  | _ :: r, k + 1, P => ky_ldi r k P
  | _, _, _ => False
def ky_ldl : ky_L → Nat → (Int64 → Prop) → Prop
  | some (.long x) :: _, 0, P => P x
  | _ :: r, k + 1, P => ky_ldl r k P
  | _, _, _ => False
def ky_ldd : ky_L → Nat → (UInt64 → Prop) → Prop
  | some (.double x) :: _, 0, P => P x
  | _ :: r, k + 1, P => ky_ldd r k P
  | _, _, _ => False
def ky_lda : ky_L → Nat → (Value → Prop) → Prop
  | some (.ref x) :: _, 0, P => P (.ref x)
  | some .null :: _, 0, P => P .null
  | _ :: r, k + 1, P => ky_lda r k P
  | _, _, _ => False
def ky_cl2 : Option Value → Option Value
  | some (.long _) => none
  | some (.double _) => none
  | x => x
def ky_st1 : ky_L → Nat → Value → ky_L
  | _ :: r, 0, v => some v :: r
  | x :: r, 1, v => ky_cl2 x :: ky_st1 r 0 v
  | x :: r, k + 2, v => x :: ky_st1 r (k + 1) v
  | [], _, _ => []
def ky_st2 : ky_L → Nat → Value → ky_L
  | _ :: _ :: r, 0, v => some v :: none :: r
  | [_], 0, _ => []
  | x :: r, 1, v => ky_cl2 x :: ky_st2 r 0 v
  | x :: r, k + 2, v => x :: ky_st2 r (k + 1) v
  | [], _, _ => []
def ky_non : Nat → ky_L
  | 0 => []
  | n + 1 => none :: ky_non n
/-- the locals at a method's entry -/
def ky_ent : List Value → Nat → ky_L
  | [], n => ky_non n
  | .long x :: r, n => some (.long x) :: none :: ky_ent r (n - 2)
  | .double x :: r, n => some (.double x) :: none :: ky_ent r (n - 2)
  | v :: r, n => some v :: ky_ent r (n - 1)
-- the stack
def ky_s1i : List Value → (Int32 → List Value → Prop) → Prop
  | .int x :: r, P => P x r
  | _, _ => False
def ky_s2i : List Value → (Int32 → Int32 → List Value → Prop) → Prop
  | .int y :: .int x :: r, P => P x y r
  | _, _ => False
def ky_s1l : List Value → (Int64 → List Value → Prop) → Prop
  | .long x :: r, P => P x r
  | _, _ => False
def ky_s2l : List Value → (Int64 → Int64 → List Value → Prop) → Prop
  | .long y :: .long x :: r, P => P x y r
  | _, _ => False
def ky_sli : List Value → (Int64 → Int32 → List Value → Prop) → Prop
  | .int y :: .long x :: r, P => P x y r
  | _, _ => False
def ky_s1f : List Value → (UInt32 → List Value → Prop) → Prop
  | .float x :: r, P => P x r
  | _, _ => False
def ky_s2f : List Value → (UInt32 → UInt32 → List Value → Prop) → Prop
  | .float y :: .float x :: r, P => P x y r
  | _, _ => False
def ky_s1d : List Value → (UInt64 → List Value → Prop) → Prop
  | .double x :: r, P => P x r
  | _, _ => False
def ky_s2d : List Value → (UInt64 → UInt64 → List Value → Prop) → Prop
  | .double y :: .double x :: r, P => P x y r
  | _, _ => False
def ky_sr : List Value → (Nat → List Value → Prop) → Prop
  | .ref q :: r, P => P q r
  | _, _ => False
def ky_sai : List Value → (Nat → Int32 → List Value → Prop) → Prop
  | .int i :: .ref q :: r, P => P q i r
  | _, _ => False
def ky_sasi : List Value → (Nat → Int32 → Int32 → List Value → Prop) → Prop
  | .int x :: .int i :: .ref q :: r, P => P q i x r
  | _, _ => False
def ky_sasl : List Value → (Nat → Int32 → Int64 → List Value → Prop) → Prop
  | .long x :: .int i :: .ref q :: r, P => P q i x r
  | _, _ => False
def ky_sasr : List Value → (Nat → Int32 → Nat → List Value → Prop) → Prop
  | .ref x :: .int i :: .ref q :: r, P => P q i x r
  | _, _ => False
def ky_svr : List Value → (Value → Nat → List Value → Prop) → Prop
  | v :: .ref q :: r, P => P v q r
  | _, _ => False
def ky_sv : List Value → (Value → List Value → Prop) → Prop
  | v :: r, P => v.category = 1 ∧ P v r
  | _, _ => False
def ky_sv2 : List Value → (Value → Value → List Value → Prop) → Prop
  | v :: w :: r, P => v.category = 1 ∧ w.category = 1 ∧ P v w r
  | _, _ => False
def ky_s1 : List Value → (Value → Prop) → Prop
  | [v], P => P v
  | _, _ => False
def ky_cs : List Value → Nat
  | [] => 0
  | v :: r => v.category + ky_cs r
def ky_pop : Nat → List Value → List Value → (List Value → List Value → Prop) → Prop
  | 0, st, acc, P => P acc st
  | n + 1, v :: st, acc, P => ky_pop n st (v :: acc) P
  | _ + 1, [], _, _ => False
def ky_vl : Option Value → List Value → List Value
  | none, r => r
  | some v, r => v :: r
-- things of the heap
def ky_nth : List Value → Nat → (Value → Prop) → Prop
  | v :: _, 0, P => P v
  | _ :: r, k + 1, P => ky_nth r k P
  | [], _, _ => False
def ky_snt : List Value → Nat → Value → (List Value → Prop) → Prop
  | _ :: r, 0, v, P => P (v :: r)
  | x :: r, k + 1, v, P => ky_snt r k v (fun r' => P (x :: r'))
  | [], _, _, _ => False
def ky_obj : Option ky_E → Nat → (List Value → Prop) → Prop
  | some (.inr (c, fs)), a, P => c = a ∧ P fs
  | _, _, _ => False
def ky_ari : Option ky_E → (Nat → Nat → (Nat → Int32) → Prop) → Prop
  | some (.inl (t, n, .inl g)), P => P t n g
  | _, _ => False
def ky_arl : Option ky_E → (Nat → Nat → (Nat → Int64) → Prop) → Prop
  | some (.inl (t, n, .inr (.inl g))), P => P t n g
  | _, _ => False
def ky_arr : Option ky_E → (Nat → Nat → (Nat → Option Nat) → Prop) → Prop
  | some (.inl (t, n, .inr (.inr (.inr (.inr g))))), P => P t n g
  | _, _ => False
def ky_arn : Option ky_E → (Nat → Nat → Prop) → Prop
  | some (.inl (t, x)), P => P t x.1
  | _, _ => False
/-- a value that a field of the kind 0 int, 1 long, 2 reference takes -/
def ky_fv : Nat → Value → Prop
  | 0, .int _ => True
  | 1, .long _ => True
  | 2, .ref _ => True
  | 2, .null => True
  | _, _ => False
def ky_z (t n : Nat) : vp_A := if t = 2 then (n, .inr (.inl fun _ => 0)) else (n, .inl fun _ => 0)
def ky_nb (t : Nat) (x : Int32) : Int32 := if t = 0 then vp_nar .byte x else vp_nar .boolean x
/-- the receiver of a virtual call is an object of the class told -/
def ky_rcv : List (Int32 × Nat) → List Value → ky_H → Prop
  | [], _, _ => True
  | (_, c) :: _, .ref q :: _, f => ky_obj (f q) c fun _ => True
  | _, _, _ => False
def ky_hnd : ky_Hs → Nat → Nat → (Nat → Prop) → Prop → Prop
  | [], _, _, _, D => D
  | (s, e, h, x) :: r, pc, E, P, D => if s ≤ pc ∧ pc < e ∧ x = E then P h else ky_hnd r pc E P D
def ky_sw (x : Int32) : List (Int32 × Nat) → (Nat → Prop) → Nat → Prop
  | [], P, d => P d
  | (v, t) :: r, P, d => (x = v → P t) ∧ (¬ x = v → ky_sw x r P d)
/-- the texts of the String constants -/
def ky_sl (tx : List (List Nat)) (k : Nat) : Nat := (tx.getD k []).length
def ky_sc (tx : List (List Nat)) (k j : Nat) : Int32 := nI ((tx.getD k []).getD j 0)
/-- what is the same for all methods: the constants' addresses, their texts, the classes' fields at first -/
abbrev ky_G : Type := (Nat → Nat) × List (List Nat) × List (List Value)
def ky_aft (hs : ky_Hs) (ex : Bool) (pc : Nat) (ls : ky_L) (r : List Value) (cn sn : Nat) (K : ky_K) (Q : ky_Q) : ky_Q := fun o f => match o with
  | .inl w => K (pc + 3) ls (ky_vl w r) f cn sn
  | .inr E => if ex = true then ky_hnd hs pc E (fun h => ∀ q, K h ls [.ref q] f cn sn) (Q (.inr E) f) else False
def ky_inv (mc ms : Nat) (hs : ky_Hs) (ex : Bool) (a b c1 c2 : Nat) (cs : List (Int32 × Nat)) (pc : Nat) (ls : ky_L) (st : List Value) (f : ky_H) (cn sn : Nat) (K : ky_K) (C : ky_C) (Q : ky_Q) : Prop :=
  ky_pop b st [] fun As r => ky_cs r ≤ 8 ∧ cn + c1 ≤ mc ∧ sn + c2 ≤ ms ∧ ky_rcv cs As f ∧ C (a - 10) As f (ky_aft hs ex pc ls r (cn + c1) (sn + c2) K Q)
/-- Math.floorMod -/
def ky_fm (x y : Int32) : Int32 := if 0 ≤ (x ^^^ y) ∨ x - x / y * y = 0 then x - x / y * y else x - x / y * y + y
/-- one step -/
def ky_stp (G : ky_G) (mc ms : Nat) (hs : ky_Hs) (i : Instr) (a b c1 c2 : Nat) (v : Int32) (cs : List (Int32 × Nat)) (pc : Nat) (ls : ky_L) (st : List Value) (f : ky_H) (cn sn : Nat) (K : ky_K) (C : ky_C) (Q : ky_Q) : Prop :=
  match i with
  | .iload_n _ => ky_ldi ls a fun x => K (pc + 1) ls (.int x :: st) f cn sn
  | .iload _ => ky_ldi ls a fun x => K (pc + 2) ls (.int x :: st) f cn sn
  | .lload_n _ => ky_ldl ls a fun x => K (pc + 1) ls (.long x :: st) f cn sn
  | .lload _ => ky_ldl ls a fun x => K (pc + 2) ls (.long x :: st) f cn sn
  | .dload _ => ky_ldd ls a fun x => K (pc + 2) ls (.double x :: st) f cn sn
  | .aload_n _ => ky_lda ls a fun x => K (pc + 1) ls (x :: st) f cn sn
  | .aload _ => ky_lda ls a fun x => K (pc + 2) ls (x :: st) f cn sn
  | .istore_n _ => ky_s1i st fun x r => K (pc + 1) (ky_st1 ls a (.int x)) r f cn sn
  | .istore _ => ky_s1i st fun x r => K (pc + 2) (ky_st1 ls a (.int x)) r f cn sn
  | .lstore_n _ => ky_s1l st fun x r => K (pc + 1) (ky_st2 ls a (.long x)) r f cn sn
  | .lstore _ => ky_s1l st fun x r => K (pc + 2) (ky_st2 ls a (.long x)) r f cn sn
  | .dstore _ => ky_s1d st fun x r => K (pc + 2) (ky_st2 ls a (.double x)) r f cn sn
  | .astore_n _ => ky_lda (st.map some) 0 fun x => K (pc + 1) (ky_st1 ls a x) (st.drop 1) f cn sn
  | .astore _ => ky_lda (st.map some) 0 fun x => K (pc + 2) (ky_st1 ls a x) (st.drop 1) f cn sn
  | .iinc _ _ => ky_ldi ls a fun x => K (pc + 3) (ky_st1 ls a (.int (x + v))) st f cn sn
  | .iconst _ => K (pc + 1) ls (.int v :: st) f cn sn
  | .bipush _ => K (pc + 2) ls (.int v :: st) f cn sn
  | .sipush _ => K (pc + 3) ls (.int v :: st) f cn sn
  | .lconst _ => K (pc + 1) ls (.long (if a = 0 then 0 else 1) :: st) f cn sn
  | .fconst _ => K (pc + 1) ls (.float FP.fconst0 :: st) f cn sn
  | .dconst _ => K (pc + 1) ls (.double FP.dconst0 :: st) f cn sn
  | .ldc _ => K (pc + 2) ls ((if b = 0 then .int v else .ref (G.1 a)) :: st) f cn sn
  | .ldc_w _ => K (pc + 3) ls (.ref (G.1 a) :: st) f cn sn
  | .iadd => ky_s2i st fun x y r => K (pc + 1) ls (.int (x + y) :: r) f cn sn
  | .isub => ky_s2i st fun x y r => K (pc + 1) ls (.int (x - y) :: r) f cn sn
  | .imul => ky_s2i st fun x y r => K (pc + 1) ls (.int (x * y) :: r) f cn sn
  | .idiv => ky_s2i st fun x y r => ¬ y = 0 ∧ K (pc + 1) ls (.int (x / y) :: r) f cn sn
  | .irem => ky_s2i st fun x y r => ¬ y = 0 ∧ K (pc + 1) ls (.int (x - x / y * y) :: r) f cn sn
  | .ineg => ky_s1i st fun x r => K (pc + 1) ls (.int (-x) :: r) f cn sn
  | .iand => ky_s2i st fun x y r => K (pc + 1) ls (.int (x &&& y) :: r) f cn sn
  | .ior => ky_s2i st fun x y r => K (pc + 1) ls (.int (x ||| y) :: r) f cn sn
  | .ixor => ky_s2i st fun x y r => K (pc + 1) ls (.int (x ^^^ y) :: r) f cn sn
  | .ishl => ky_s2i st fun x y r => K (pc + 1) ls (.int (x <<< (y &&& 31)) :: r) f cn sn
  | .ishr => ky_s2i st fun x y r => K (pc + 1) ls (.int (x >>> (y &&& 31)) :: r) f cn sn
  | .iushr => ky_s2i st fun x y r => K (pc + 1) ls (.int (x.toUInt32 >>> (y.toUInt32 &&& Int32.toUInt32 31)).toInt32 :: r) f cn sn
  | .lor => ky_s2l st fun x y r => K (pc + 1) ls (.long (x ||| y) :: r) f cn sn
  | .lshl => ky_sli st fun x y r => K (pc + 1) ls (.long (x <<< (y.toInt64 &&& 63)) :: r) f cn sn
  | .lushr => ky_sli st fun x y r => K (pc + 1) ls (.long (x.toUInt64 >>> (y.toInt64.toUInt64 &&& Int64.toUInt64 63)).toInt64 :: r) f cn sn
  | .lcmp => ky_s2l st fun x y r => K (pc + 1) ls (.int (lg_cmp x y) :: r) f cn sn
  | .dcmp op => ky_s2d st fun x y r => K (pc + 1) ls (.int (Op.cmpValue (FP.dcmp x y) op) :: r) f cn sn
  | .i2l => ky_s1i st fun x r => K (pc + 1) ls (.long x.toInt64 :: r) f cn sn
  | .l2i => ky_s1l st fun x r => K (pc + 1) ls (.int x.toInt32 :: r) f cn sn
  | .i2b => ky_s1i st fun x r => K (pc + 1) ls (.int x.toInt8.toInt32 :: r) f cn sn
  | .i2f => ky_s1i st fun x r => K (pc + 1) ls (.float (FP.i2f x) :: r) f cn sn
  | .i2d => ky_s1i st fun x r => K (pc + 1) ls (.double (FP.i2d x) :: r) f cn sn
  | .f2d => ky_s1f st fun x r => vf_n64 (FP.f2d x) ∧ K (pc + 1) ls (.double (FP.f2d x) :: r) f cn sn
  | .fdiv => ky_s2f st fun x y r => vf_n32 (FP.fdiv x y) ∧ K (pc + 1) ls (.float (FP.fdiv x y) :: r) f cn sn
  | .ddiv => ky_s2d st fun x y r => vf_n64 (FP.ddiv x y) ∧ K (pc + 1) ls (.double (FP.ddiv x y) :: r) f cn sn
  | .dup => ky_sv st fun x r => K (pc + 1) ls (x :: x :: r) f cn sn
  | .dup2 => ky_sv2 st fun x y r => K (pc + 1) ls (x :: y :: x :: y :: r) f cn sn
  | .pop => ky_sv st fun _ r => K (pc + 1) ls r f cn sn
  | .getfield _ => ky_sr st fun q r => ky_obj (f q) a fun fs => ky_nth fs b fun x => K (pc + 3) ls (x :: r) f cn sn
  | .putfield _ => ky_svr st fun x q r => ky_fv c1 x ∧ ky_obj (f q) a fun fs => ky_snt fs b x fun fs' => K (pc + 3) ls r (ky_up f q (.inr (a, fs'))) cn sn
  | .new _ => if a < 100 then (cn + 1 ≤ mc ∧ sn + c1 ≤ ms ∧ ∀ q, f q = none → K (pc + 3) ls (.ref q :: st) (ky_up f q (.inr (a, G.2.2.getD a []))) (cn + 1) (sn + c1)) else (cn + 1 ≤ mc ∧ sn + 6 ≤ ms ∧ st = [] ∧ Q (.inr (a - 100)) f)
  | .newarray _ => ky_s1i st fun n r => ¬ n < 0 ∧ n.toNatClampNeg ≤ 1000000 ∧ cn + 1 ≤ mc ∧ sn + n.toNatClampNeg ≤ ms ∧ ∀ q, f q = none → K (pc + 2) ls (.ref q :: r) (ky_up f q (.inl (a, ky_z a n.toNatClampNeg))) (cn + 1) (sn + n.toNatClampNeg)
  | .anewarray _ => ky_s1i st fun n r => ¬ n < 0 ∧ n.toNatClampNeg ≤ 1000000 ∧ cn + 1 ≤ mc ∧ sn + n.toNatClampNeg ≤ ms ∧ ∀ q, f q = none → K (pc + 3) ls (.ref q :: r) (ky_up f q (.inl (4, n.toNatClampNeg, .inr (.inr (.inr (.inr fun _ => none)))))) (cn + 1) (sn + n.toNatClampNeg)
  | .arraylength => ky_sr st fun q r => ky_arn (f q) fun _ n => K (pc + 1) ls (.int (Int32.ofNat n) :: r) f cn sn
  | .iaload => ky_sai st fun q i r => ky_ari (f q) fun t n g => (t = 1 ∨ t = 5) ∧ vp_in i n ∧ K (pc + 1) ls (.int (g i.toNatClampNeg) :: r) f cn sn
  | .baload => ky_sai st fun q i r => ky_ari (f q) fun t n g => (t = 0 ∨ t = 3) ∧ vp_in i n ∧ K (pc + 1) ls (.int (g i.toNatClampNeg) :: r) f cn sn
  | .laload => ky_sai st fun q i r => ky_arl (f q) fun t n g => t = 2 ∧ vp_in i n ∧ K (pc + 1) ls (.long (g i.toNatClampNeg) :: r) f cn sn
  | .aaload => ky_sai st fun q i r => ky_arr (f q) fun t n g => t = 4 ∧ vp_in i n ∧ K (pc + 1) ls (va_rf (g i.toNatClampNeg) :: r) f cn sn
  | .iastore => ky_sasi st fun q i x r => ky_ari (f q) fun t n g => t = 1 ∧ vp_in i n ∧ K (pc + 1) ls r (ky_up f q (.inl (1, n, .inl (upd g i.toNatClampNeg x)))) cn sn
  | .bastore => ky_sasi st fun q i x r => ky_ari (f q) fun t n g => (t = 0 ∨ t = 3) ∧ vp_in i n ∧ K (pc + 1) ls r (ky_up f q (.inl (t, n, .inl (upd g i.toNatClampNeg (ky_nb t x))))) cn sn
  | .lastore => ky_sasl st fun q i x r => ky_arl (f q) fun t n g => t = 2 ∧ vp_in i n ∧ K (pc + 1) ls r (ky_up f q (.inl (2, n, .inr (.inl (vp_updL g i.toNatClampNeg x))))) cn sn
  | .aastore => ky_sasr st fun q i x r => ky_arr (f q) fun t n g => t = 4 ∧ vp_in i n ∧ (ky_obj (f x) 3 fun _ => True) ∧ K (pc + 1) ls r (ky_up f q (.inl (4, n, .inr (.inr (.inr (.inr (va_up g i.toNatClampNeg (some x)))))))) cn sn
  | .goto _ => K a ls st f cn sn
  | .ifCond .eq _ => ky_s1i st fun x r => (x = 0 → K a ls r f cn sn) ∧ (¬ x = 0 → K (pc + 3) ls r f cn sn)
  | .ifCond .ne _ => ky_s1i st fun x r => (¬ x = 0 → K a ls r f cn sn) ∧ (x = 0 → K (pc + 3) ls r f cn sn)
  | .ifCond .lt _ => ky_s1i st fun x r => (x < 0 → K a ls r f cn sn) ∧ (¬ x < 0 → K (pc + 3) ls r f cn sn)
  | .ifCond .ge _ => ky_s1i st fun x r => (0 ≤ x → K a ls r f cn sn) ∧ (¬ 0 ≤ x → K (pc + 3) ls r f cn sn)
  | .ifCond .gt _ => ky_s1i st fun x r => (0 < x → K a ls r f cn sn) ∧ (¬ 0 < x → K (pc + 3) ls r f cn sn)
  | .ifCond .le _ => ky_s1i st fun x r => (x ≤ 0 → K a ls r f cn sn) ∧ (¬ x ≤ 0 → K (pc + 3) ls r f cn sn)
  | .if_icmp .eq _ => ky_s2i st fun x y r => (x = y → K a ls r f cn sn) ∧ (¬ x = y → K (pc + 3) ls r f cn sn)
  | .if_icmp .ne _ => ky_s2i st fun x y r => (¬ x = y → K a ls r f cn sn) ∧ (x = y → K (pc + 3) ls r f cn sn)
  | .if_icmp .lt _ => ky_s2i st fun x y r => (x < y → K a ls r f cn sn) ∧ (¬ x < y → K (pc + 3) ls r f cn sn)
  | .if_icmp .ge _ => ky_s2i st fun x y r => (y ≤ x → K a ls r f cn sn) ∧ (¬ y ≤ x → K (pc + 3) ls r f cn sn)
  | .if_icmp .gt _ => ky_s2i st fun x y r => (y < x → K a ls r f cn sn) ∧ (¬ y < x → K (pc + 3) ls r f cn sn)
  | .if_icmp .le _ => ky_s2i st fun x y r => (x ≤ y → K a ls r f cn sn) ∧ (¬ x ≤ y → K (pc + 3) ls r f cn sn)
  | .ifnull _ => (match st with | .null :: r => K a ls r f cn sn | .ref _ :: r => K (pc + 3) ls r f cn sn | _ => False)
  | .ifnonnull _ => (match st with | .ref _ :: r => K a ls r f cn sn | .null :: r => K (pc + 3) ls r f cn sn | _ => False)
  | .tableswitch _ _ _ _ => ky_s1i st fun x r => ky_sw x cs (fun t => K t ls r f cn sn) a
  | .lookupswitch _ _ => ky_s1i st fun x r => ky_sw x cs (fun t => K t ls r f cn sn) a
  | .ireturn => ky_s1 st fun w => ky_s1i [w] fun x _ => (c1 = 0 ∨ x = 0 ∨ x = 1) ∧ Q (.inl (some (.int x))) f
  | .lreturn => ky_s1 st fun w => ky_s1l [w] fun x _ => Q (.inl (some (.long x))) f
  | .freturn => ky_s1 st fun w => ky_s1f [w] fun x _ => Q (.inl (some (.float x))) f
  | .dreturn => ky_s1 st fun w => ky_s1d [w] fun x _ => Q (.inl (some (.double x))) f
  | .areturn => ky_s1 st fun w => ky_sr [w] fun x _ => Q (.inl (some (.ref x))) f
  | .return_ => st = [] ∧ Q (.inl none) f
  | .invokespecial _ => if a = 0 then (ky_sr st fun _ r => ky_cs r ≤ 8 ∧ K (pc + 3) ls r f cn sn) else ky_inv mc ms hs false a b c1 c2 cs pc ls st f cn sn K C Q
  | .invokestatic _ => if a = 1 then (ky_s2i st fun x y r => ky_cs r ≤ 8 ∧ K (pc + 3) ls (.int (if x < y then y else x) :: r) f cn sn) else if a = 2 then (ky_s2i st fun x y r => ky_cs r ≤ 8 ∧ K (pc + 3) ls (.int (if y < x then y else x) :: r) f cn sn) else if a = 5 then (ky_s2i st fun x y r => ¬ y = 0 ∧ ky_cs r ≤ 8 ∧ K (pc + 3) ls (.int (ky_fm x y) :: r) f cn sn) else ky_inv mc ms hs (decide (v = 0)) a b c1 c2 cs pc ls st f cn sn K C Q
  | .invokevirtual _ => if a = 3 then (ky_sr st fun q r => ∃ k, k < G.2.1.length ∧ q = G.1 k ∧ ky_cs r ≤ 8 ∧ K (pc + 3) ls (.int (nI (ky_sl G.2.1 k)) :: r) f cn sn) else if a = 4 then (ky_sai st fun q i r => ∃ k j, k < G.2.1.length ∧ q = G.1 k ∧ i = nI j ∧ j < ky_sl G.2.1 k ∧ ky_cs r ≤ 8 ∧ K (pc + 3) ls (.int (ky_sc G.2.1 k j) :: r) f cn sn) else ky_inv mc ms hs true a b c1 c2 cs pc ls st f cn sn K C Q
  | _ => False
