/-! ===== an abstract machine: memory as maps by kind of value; code already linked ===== -/
abbrev AMem : Type := (Nat → Nat × Nat) × (Nat → Nat → Int32) × (Nat → Nat → Int64) × (Nat → Nat → UInt64) × (Nat → Nat → Option Nat) × Nat × Nat
def mT (M : AMem) : Nat → Nat × Nat := M.1
def mI (M : AMem) : Nat → Nat → Int32 := M.2.1
def mL (M : AMem) : Nat → Nat → Int64 := M.2.2.1
def mD (M : AMem) : Nat → Nat → UInt64 := M.2.2.2.1
def mR (M : AMem) : Nat → Nat → Option Nat := M.2.2.2.2.1
def mN (M : AMem) : Nat := M.2.2.2.2.2.1
def mS (M : AMem) : Nat := M.2.2.2.2.2.2
def stI (M : AMem) (a : Nat) (f : Nat → Int32) : AMem := (mT M, va_up (mI M) a f, mL M, mD M, mR M, mN M, mS M)
def stL (M : AMem) (a : Nat) (f : Nat → Int64) : AMem := (mT M, mI M, va_up (mL M) a f, mD M, mR M, mN M, mS M)
def stD (M : AMem) (a : Nat) (f : Nat → UInt64) : AMem := (mT M, mI M, mL M, va_up (mD M) a f, mR M, mN M, mS M)
def stR (M : AMem) (a : Nat) (f : Nat → Option Nat) : AMem := (mT M, mI M, mL M, mD M, va_up (mR M) a f, mN M, mS M)
def stN (M : AMem) (k n sl : Nat) : AMem := (va_up (mT M) (mN M) (k, n), va_up (mI M) (mN M) (fun _ => 0), va_up (mL M) (mN M) (fun _ => 0), va_up (mD M) (mN M) (fun _ => 0), va_up (mR M) (mN M) (fun _ => none), mN M + 1, mS M + sl)
/-- new int[n][k]: the outer row, then the first i inner rows -/
def stM (M : AMem) (n k : Nat) : Nat → AMem
  | 0 => stN M 108 n n
  | i + 1 => stR (stN (stM M n k i) 100 k k) (mN M) (va_up (mR (stM M n k i) (mN M)) i (some (mN (stM M n k i))))
/-- "fjs".charAt -/
def chA (x : Int32) : Int32 := if x = 0 then 102 else if x = 1 then 106 else 115
abbrev ALs : Type := List (Nat × Value)
abbrev ACfg : Type := Nat × ALs × List Value × AMem
/-- next; call (method, arguments, what stays on the stack); return; throw new -/
abbrev AOut : Type := ACfg ⊕ ((Nat × List Value × List Value) ⊕ (Option Value ⊕ Nat))
abbrev ARes : Type := AMem × (Option Value ⊕ (Nat × Nat))
def lkp : ALs → Nat → Option Value
  | [], _ => none
  | (j, v) :: t, i => if j = i then some v else lkp t i
def lins (i : Nat) (v : Value) : ALs → ALs
  | [] => [(i, v)]
  | (j, w) :: t => if j < i then (j, w) :: lins i v t else (i, v) :: (j, w) :: t
def lput (l : ALs) (i : Nat) (v : Value) : ALs := lins i v (l.filter (fun q => !(q.1 == i) && !(q.1 + 1 == i && q.2.category == 2)))
def lput2 (l : ALs) (i : Nat) (v : Value) : ALs := lins i v (l.filter (fun q => !(q.1 == i) && (!(q.1 == i + 1) && !(q.1 + 1 == i && q.2.category == 2))))
def csum (st : List Value) : Nat := (st.map fun v => v.category).sum
/-- a field's or array's kind: 0 int, 1 boolean, 2 char, 3 long, 4 double, 5 and on references -/
def fval (M : AMem) (a k t : Nat) : Value := if t = 3 then .long (mL M a k) else if t = 4 then .double (mD M a k) else if 5 ≤ t then va_rf (mR M a k) else .int (mI M a k)
def fty0 (t : Nat) : FieldType := if t = 0 then .int else if t = 1 then .boolean else .char
def wrv (M : AMem) (a k t : Nat) (v : Value) : Option AMem := match v with
  | .int x => if t ≤ 2 ∧ narrow (fty0 t) (.int x) = .int x ∧ fits (fty0 t) (.int x) = true then some (stI M a (upd (mI M a) k x)) else none
  | .long x => if t = 3 then some (stL M a (vp_updL (mL M a) k x)) else none
  | .ref r => if 5 ≤ t then some (stR M a (va_up (mR M a) k (some r))) else none
  | _ => none
def atc : ArrayType → Nat
  | .int => 0
  | .boolean => 1
  | .char => 2
  | .long => 3
  | .double => 4
  | _ => 99
def inb (j : Int32) (n : Nat) : Bool := decide (0 ≤ j.toInt) && decide (j.toInt < (n : Int))
section AM
variable (fty : Nat → Nat → Nat) (fN : Nat → Nat) (elK : Nat → Nat) (lcon : Nat → Int64) (mPar mOwn mKind mMx : Nat → Nat) (rt : Option FieldType)
def a_nx (pc : Nat) (ls : ALs) (st : List Value) (M : AMem) : Option AOut := some (.inl (pc, ls, st, M))
def a_ii (f : Int32 → Int32 → Int32) (pc : Nat) (ls : ALs) (st : List Value) (M : AMem) : Option AOut := match st with
  | .int y :: .int x :: r => a_nx (pc + 1) ls (.int (f x y) :: r) M
  | _ => none
def a_jj (f : Int64 → Int64 → Int64) (pc : Nat) (ls : ALs) (st : List Value) (M : AMem) : Option AOut := match st with
  | .long y :: .long x :: r => a_nx (pc + 1) ls (.long (f x y) :: r) M
  | _ => none
def a_ji (f : Int64 → Int32 → Int64) (pc : Nat) (ls : ALs) (st : List Value) (M : AMem) : Option AOut := match st with
  | .int y :: .long x :: r => a_nx (pc + 1) ls (.long (f x y) :: r) M
  | _ => none
def a_ld (len i c : Nat) (pc : Nat) (ls : ALs) (st : List Value) (M : AMem) : Option AOut := match lkp ls i with
  | some (.int x) => if c = 0 then a_nx (pc + len) ls (.int x :: st) M else none
  | some (.long x) => if c = 1 then a_nx (pc + len) ls (.long x :: st) M else none
  | some (.float x) => if c = 2 then a_nx (pc + len) ls (.float x :: st) M else none
  | some (.double x) => if c = 3 then a_nx (pc + len) ls (.double x :: st) M else none
  | some (.ref x) => if c = 4 then a_nx (pc + len) ls (.ref x :: st) M else none
  | some .null => if c = 4 then a_nx (pc + len) ls (.null :: st) M else none
  | _ => none
def a_st (len i c : Nat) (pc : Nat) (ls : ALs) (st : List Value) (M : AMem) : Option AOut := match st with
  | .int x :: r => if c = 0 then a_nx (pc + len) (lput ls i (.int x)) r M else none
  | .long x :: r => if c = 1 then a_nx (pc + len) (lput2 ls i (.long x)) r M else none
  | .float x :: r => if c = 2 then a_nx (pc + len) (lput ls i (.float x)) r M else none
  | .double x :: r => if c = 3 then a_nx (pc + len) (lput2 ls i (.double x)) r M else none
  | .ref x :: r => if c = 4 then a_nx (pc + len) (lput ls i (.ref x)) r M else none
  | .null :: r => if c = 4 then a_nx (pc + len) (lput ls i .null) r M else none
  | _ => none
def a_c1 (c : ClassFile.Cond) (x : Int32) : Bool := match c with
  | .eq => decide (x = 0)
  | .ne => decide (x ≠ 0)
  | .lt => decide (x < 0)
  | .ge => decide (0 ≤ x)
  | .gt => decide (0 < x)
  | .le => decide (x ≤ 0)
def a_c2 (c : ClassFile.Cond) (x y : Int32) : Bool := match c with
  | .eq => decide (x = y)
  | .ne => decide (x ≠ y)
  | .lt => decide (x < y)
  | .ge => decide (y ≤ x)
  | .gt => decide (y < x)
  | .le => decide (x ≤ y)
def a_if (b : Bool) (t len pc : Nat) (ls : ALs) (st : List Value) (M : AMem) : Option AOut := if b = true then a_nx t ls st M else a_nx (pc + len) ls st M
def a_ald (k1 k2 : Nat) (f : AMem → Nat → Nat → Value) (pc : Nat) (ls : ALs) (st : List Value) (M : AMem) : Option AOut := match st with
  | .int j :: .ref a :: r => if ((mT M a).1 = k1 ∨ (mT M a).1 = k2) ∧ inb j (mT M a).2 = true then a_nx (pc + 1) ls (f M a j.toNatClampNeg :: r) M else none
  | _ => none
def a_call (mj : Nat) (st : List Value) (M : AMem) : Option AOut :=
  if mKind mj = 0 then (if mPar mj ≤ st.length ∧ csum (st.drop (mPar mj)) ≤ 8 ∧ csum (st.take (mPar mj)) ≤ mMx mj then some (.inr (.inl (mj, (st.take (mPar mj)).reverse, st.drop (mPar mj)))) else none)
  else match st.drop (mPar mj) with
    | .ref b :: r => if mPar mj ≤ st.length ∧ (mT M b).1 = 1 + mOwn mj ∧ csum r ≤ 8 ∧ 1 + csum (st.take (mPar mj)) ≤ mMx mj then some (.inr (.inl (mj, .ref b :: (st.take (mPar mj)).reverse, r))) else none
    | _ => none
def amStep (i : Instr) (len pc : Nat) (ls : ALs) (st : List Value) (M : AMem) : Option AOut := match i with
  | .iconst n => a_nx (pc + len) ls (.int (Int32.ofInt n) :: st) M
  | .bipush n => a_nx (pc + len) ls (.int (Int8.ofInt n).toInt32 :: st) M
  | .sipush n => a_nx (pc + len) ls (.int (Int16.ofInt n).toInt32 :: st) M
  | .lconst n => a_nx (pc + len) ls (.long (Int64.ofNat (n : Nat)) :: st) M
  | .fconst n => if n = 0 then a_nx (pc + len) ls (.float FP.fconst0 :: st) M else none
  | .dconst n => if n = 0 then a_nx (pc + len) ls (.double FP.dconst0 :: st) M else none
  | .ldc2_w k => a_nx (pc + 3) ls (.long (lcon k) :: st) M
  | .iload k => a_ld len k 0 pc ls st M
  | .iload_n k => a_ld len k 0 pc ls st M
  | .lload k => a_ld len k 1 pc ls st M
  | .lload_n k => a_ld len k 1 pc ls st M
  | .fload k => a_ld len k 2 pc ls st M
  | .fload_n k => a_ld len k 2 pc ls st M
  | .dload k => a_ld len k 3 pc ls st M
  | .dload_n k => a_ld len k 3 pc ls st M
  | .aload k => a_ld len k 4 pc ls st M
  | .aload_n k => a_ld len k 4 pc ls st M
  | .istore k => a_st len k 0 pc ls st M
  | .istore_n k => a_st len k 0 pc ls st M
  | .lstore k => a_st len k 1 pc ls st M
  | .lstore_n k => a_st len k 1 pc ls st M
  | .fstore k => a_st len k 2 pc ls st M
  | .dstore k => a_st len k 3 pc ls st M
  | .astore k => a_st len k 4 pc ls st M
  | .astore_n k => a_st len k 4 pc ls st M
  | .iinc k n => match lkp ls k with
    | some (.int x) => a_nx (pc + len) (lput ls k (.int (x + Int32.ofInt n))) st M
    | _ => none
  | .iadd => a_ii (fun x y => x + y) pc ls st M
  | .isub => a_ii (fun x y => x - y) pc ls st M
  | .imul => a_ii (fun x y => x * y) pc ls st M
  | .iand => a_ii (fun x y => x &&& y) pc ls st M
  | .ior => a_ii (fun x y => x ||| y) pc ls st M
  | .ixor => a_ii (fun x y => x ^^^ y) pc ls st M
  | .iushr => a_ii (fun x y => (x.toUInt32 >>> (y.toUInt32 &&& Int32.toUInt32 31)).toInt32) pc ls st M
  | .goto_w n => a_nx (pc + 2) ls (.int (Int32.ofInt n) :: st) M
  | .jsr_w k => match lkp ls k.toNat with
    | some (.int x) => if inb x 3 = true ∧ csum st ≤ 8 then a_nx (pc + 7) ls (.int (chA x) :: st) M else none
    | _ => none
  | .multianewarray _ _ => match st with
    | .int k :: .int n :: r => if inb n 1001 = true ∧ inb k 1001 = true then a_nx (pc + 4) ls (.ref (mN M) :: r) (stM M n.toNatClampNeg k.toNatClampNeg n.toNatClampNeg) else none
    | _ => none
  | .idiv => match st with
    | .int y :: .int x :: r => if y = 0 then none else a_nx (pc + 1) ls (.int (x / y) :: r) M
    | _ => none
  | .irem => match st with
    | .int y :: .int x :: r => if y = 0 then none else a_nx (pc + 1) ls (.int (x - x / y * y) :: r) M
    | _ => none
  | .ineg => match st with
    | .int x :: r => a_nx (pc + 1) ls (.int (-x) :: r) M
    | _ => none
  | .ladd => a_jj (fun x y => x + y) pc ls st M
  | .lsub => a_jj (fun x y => x - y) pc ls st M
  | .lmul => a_jj (fun x y => x * y) pc ls st M
  | .land => a_jj (fun x y => x &&& y) pc ls st M
  | .lor => a_jj (fun x y => x ||| y) pc ls st M
  | .lxor => a_jj (fun x y => x ^^^ y) pc ls st M
  | .lshl => a_ji (fun x y => x <<< (y.toInt64 &&& 63)) pc ls st M
  | .lushr => a_ji (fun x y => (x.toUInt64 >>> (y.toInt64.toUInt64 &&& Int64.toUInt64 63)).toInt64) pc ls st M
  | .lcmp => match st with
    | .long y :: .long x :: r => a_nx (pc + 1) ls (.int (lg_cmp x y) :: r) M
    | _ => none
  | .fcmp op => match st with
    | .float y :: .float x :: r => a_nx (pc + 1) ls (.int (Op.cmpValue (FP.fcmp x y) op) :: r) M
    | _ => none
  | .dcmp op => match st with
    | .double y :: .double x :: r => a_nx (pc + 1) ls (.int (Op.cmpValue (FP.dcmp x y) op) :: r) M
    | _ => none
  | .fdiv => match st with
    | .float y :: .float x :: r => if FP.fdiv x y &&& 0x7fffffff ≤ 0x7f800000 then a_nx (pc + 1) ls (.float (FP.fdiv x y) :: r) M else none
    | _ => none
  | .ddiv => match st with
    | .double y :: .double x :: r => if FP.ddiv x y &&& 0x7fffffffffffffff ≤ 0x7ff0000000000000 then a_nx (pc + 1) ls (.double (FP.ddiv x y) :: r) M else none
    | _ => none
  | .f2d => match st with
    | .float x :: r => if FP.f2d x &&& 0x7fffffffffffffff ≤ 0x7ff0000000000000 then a_nx (pc + 1) ls (.double (FP.f2d x) :: r) M else none
    | _ => none
  | .i2l => match st with
    | .int x :: r => a_nx (pc + 1) ls (.long x.toInt64 :: r) M
    | _ => none
  | .l2i => match st with
    | .long x :: r => a_nx (pc + 1) ls (.int x.toInt32 :: r) M
    | _ => none
  | .i2c => match st with
    | .int x :: r => a_nx (pc + 1) ls (.int (x.toUInt32 % 65536).toInt32 :: r) M
    | _ => none
  | .i2f => match st with
    | .int x :: r => a_nx (pc + 1) ls (.float (FP.i2f x) :: r) M
    | _ => none
  | .i2d => match st with
    | .int x :: r => a_nx (pc + 1) ls (.double (FP.i2d x) :: r) M
    | _ => none
  | .dup => match st with
    | v :: r => if v.category = 1 then a_nx (pc + 1) ls (v :: v :: r) M else none
    | _ => none
  | .dup2 => match st with
    | v :: w :: r => if v.category = 1 ∧ w.category = 1 then a_nx (pc + 1) ls (v :: w :: v :: w :: r) M else none
    | _ => none
  | .pop => match st with
    | v :: r => if v.category = 1 then a_nx (pc + 1) ls r M else none
    | _ => none
  | .goto t => a_nx t.toNat ls st M
  | .ifCond c t => match st with
    | .int x :: r => a_if (a_c1 c x) t.toNat 3 pc ls r M
    | _ => none
  | .if_icmp c t => match st with
    | .int y :: .int x :: r => a_if (a_c2 c x y) t.toNat 3 pc ls r M
    | _ => none
  | .ifnull t => match st with
    | .ref _ :: r => a_nx (pc + 3) ls r M
    | .null :: r => a_nx t.toNat ls r M
    | _ => none
  | .ifnonnull t => match st with
    | .ref _ :: r => a_nx t.toNat ls r M
    | .null :: r => a_nx (pc + 3) ls r M
    | _ => none
  | .tableswitch d lo hi ts => match st with
    | .int x :: r => if x.toInt < lo ∨ hi < x.toInt then a_nx d.toNat ls r M else match ts[(x.toInt - lo).toNat]? with
      | some t => a_nx t.toNat ls r M
      | none => none
    | _ => none
  | .iaload => a_ald 100 200 (fun M a j => .int (mI M a j)) pc ls st M
  | .aaload => match st with
    | .int j :: .ref a :: r => if 105 ≤ (mT M a).1 ∧ (mT M a).1 ≤ 108 ∧ inb j (mT M a).2 = true then a_nx (pc + 1) ls (va_rf (mR M a j.toNatClampNeg) :: r) M else none
    | _ => none
  | .iastore => match st with
    | .int x :: .int j :: .ref a :: r => if (mT M a).1 = 100 ∧ inb j (mT M a).2 = true then a_nx (pc + 1) ls r (stI M a (upd (mI M a) j.toNatClampNeg x)) else none
    | _ => none
  | .aastore => match st with
    | .ref v :: .int j :: .ref a :: r => if 105 ≤ (mT M a).1 ∧ (mT M a).1 ≤ 106 ∧ (mT M v).1 = elK (mT M a).1 ∧ inb j (mT M a).2 = true then a_nx (pc + 1) ls r (stR M a (va_up (mR M a) j.toNatClampNeg (some v))) else none
    | _ => none
  | .arraylength => match st with
    | .ref a :: r => if (100 ≤ (mT M a).1 ∧ (mT M a).1 ≤ 108) ∨ (mT M a).1 = 200 then a_nx (pc + 1) ls (.int (Int32.ofNat (mT M a).2) :: r) M else none
    | _ => none
  | .newarray t => match st with
    | .int n :: r => if inb n 1001 = true ∧ atc t = 0 then a_nx (pc + 2) ls (.ref (mN M) :: r) (stN M (100 + atc t) n.toNatClampNeg n.toNatClampNeg) else none
    | _ => none
  | .anewarray t => match st with
    | .int n :: r => if inb n 1001 = true ∧ 5 ≤ t ∧ t ≤ 7 then a_nx (pc + 3) ls (.ref (mN M) :: r) (stN M (100 + t) n.toNatClampNeg n.toNatClampNeg) else none
    | _ => none
  | .new ci => if ci ≤ 8 then a_nx (pc + 3) ls (.ref (mN M) :: st) (stN M (1 + ci) 0 (fN ci)) else none
  | .getfield x => match st with
    | .ref a :: r => if (mT M a).1 = 1 + x / 100 then a_nx (pc + 3) ls (fval M a (x % 100) (fty (x / 100) (x % 100)) :: r) M else none
    | _ => none
  | .putfield x => match st with
    | v :: .ref a :: r => if (mT M a).1 = 1 + x / 100 then (match wrv M a (x % 100) (fty (x / 100) (x % 100)) v with
      | some M' => a_nx (pc + 3) ls r M'
      | none => none) else none
    | _ => none
  | .invokestatic mj => a_call mPar mOwn mKind mMx mj st M
  | .invokevirtual mj => a_call mPar mOwn mKind mMx mj st M
  | .invokespecial mj => a_call mPar mOwn mKind mMx mj st M
  | .monitorenter => match st with
    | .ref _ :: r => if csum r ≤ 8 then a_nx (pc + 3) ls r M else none
    | _ => none
  | .lrem => match st with
    | .int y :: .int x :: r => if csum r ≤ 8 then a_nx (pc + 3) ls (.int (if x < y then y else x) :: r) M else none
    | _ => none
  | .ldiv => match st with
    | .int y :: .int x :: r => if csum r ≤ 8 then a_nx (pc + 3) ls (.int (if y < x then y else x) :: r) M else none
    | _ => none
  | .lneg => match st with
    | .int x :: r => if csum r ≤ 8 then a_nx (pc + 3) ls (.int (if 0 ≤ x then x else 0 - x) :: r) M else none
    | _ => none
  | .jsr k => if csum st ≤ 8 then some (.inr (.inr (.inr k.toNat))) else none
  | .ireturn => match st, rt with
    | [.int v], some ty => if narrow ty (.int v) = .int v then some (.inr (.inr (.inl (some (.int v))))) else none
    | _, _ => none
  | .lreturn => match st with
    | [.long v] => if rt = some .long then some (.inr (.inr (.inl (some (.long v))))) else none
    | _ => none
  | .freturn => match st with
    | [.float v] => if rt = some .float then some (.inr (.inr (.inl (some (.float v))))) else none
    | _ => none
  | .dreturn => match st with
    | [.double v] => if rt = some .double then some (.inr (.inr (.inl (some (.double v))))) else none
    | _ => none
  | .areturn => match st, rt with
    | [.ref v], some (.object _) => some (.inr (.inr (.inl (some (.ref v)))))
    | [.null], some (.object _) => some (.inr (.inr (.inl (some .null))))
    | _, _ => none
  | .return_ => match st with
    | [] => if rt = none then some (.inr (.inr (.inl none))) else none
    | _ => none
  | _ => none
end AM
