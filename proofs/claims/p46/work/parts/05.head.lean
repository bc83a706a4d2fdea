/-! ===== the linked code is the code (by program) ===== -/
/-- an instruction that stands in linked code as it is -/
def plainI (i : Instr) : Bool := match i with
  | .iconst _ => true | .bipush _ => true | .sipush _ => true | .lconst _ => true | .fconst _ => true | .dconst _ => true
  | .iload _ => true | .iload_n _ => true | .lload _ => true | .lload_n _ => true | .fload _ => true | .fload_n _ => true | .dload _ => true | .dload_n _ => true | .aload _ => true | .aload_n _ => true
  | .istore _ => true | .istore_n _ => true | .lstore _ => true | .lstore_n _ => true | .fstore _ => true | .dstore _ => true | .astore _ => true | .astore_n _ => true | .iinc _ _ => true
  | .iadd => true | .isub => true | .imul => true | .iand => true | .ior => true | .idiv => true | .irem => true | .ineg => true
  | .ladd => true | .lsub => true | .lmul => true | .land => true | .lor => true | .lxor => true | .lshl => true | .lushr => true | .lcmp => true
  | .fcmp _ => true | .dcmp _ => true | .fdiv => true | .ddiv => true | .f2d => true | .i2l => true | .l2i => true | .i2c => true | .i2f => true | .i2d => true
  | .dup => true | .dup2 => true | .pop => true
  | .iaload => true | .aaload => true | .iastore => true | .aastore => true | .ixor => true | .iushr => true
  | .arraylength => true | .newarray _ => true
  | .ireturn => true | .lreturn => true | .freturn => true | .dreturn => true | .areturn => true | .return_ => true
  | _ => false
/-- the length of a plain instruction as the abstract machine steps over it -/
def plainL (i : Instr) : Nat := match i with
  | .bipush _ => 2 | .sipush _ => 3 | .iload _ => 2 | .lload _ => 2 | .fload _ => 2 | .dload _ => 2 | .aload _ => 2
  | .istore _ => 2 | .lstore _ => 2 | .fstore _ => 2 | .dstore _ => 2 | .astore _ => 2 | .iinc _ _ => 3 | .newarray _ => 2
  | _ => 1
/-- one more than the last local that an instruction writes -/
def stIx (i : Instr) : Nat := match i with
  | .istore k => k + 1 | .istore_n k => k.val + 1 | .lstore k => k + 2 | .lstore_n k => k.val + 2 | .fstore k => k + 1 | .dstore k => k + 2 | .astore k => k + 1 | .astore_n k => k.val + 1 | .iinc k _ => k + 1
  | _ => 0
def linF (o x y : Nat) : Bool := lkF.any (fun e => e.1 == o && e.2.1 == x && e.2.2.1 * 100 + e.2.2.2.1 == y && decide (e.2.2.2.1 < 100) && decide (e.2.2.1 ≤ 8) && decide (e.2.2.2.1 < clN e.2.2.1))
def finF (y : Nat) : Bool := (clT (y / 100) (y % 100)).2.2.2
/-- a final field is written by its class's own constructor, and by a plain link -/
def putF (m o x y : Nat) : Bool := linF o x y && (!finF y || (mKd m == 2 && o == y / 100 && decide ((clT (y / 100) (y % 100)).1 = cnm o) && lkF.any (fun e => e.1 == o && e.2.1 == x && e.2.2.1 * 100 + e.2.2.2.1 == y && decide (e.2.2.2.1 < 100) && e.2.2.2.2.1 == 0)))
def linM (m o x j k : Nat) : Bool := lkM.any (fun e => e.1 == o && e.2.1 == x && e.2.2.1 == j) && mKd j == k && decide (j < lawM) && decide (mLv j + 1 ≤ mLv m) && decide (8 + (mMx j + 11) + mLo j ≤ mLo m)
def aElm (t : Nat) : String := if t = 5 then "Deckmill$Sheet" else if t = 6 then "Deckmill$Pack" else if t = 7 then "Deckmill$Order" else ""
def tgOk (pc : Nat) (off t : Int) : Bool := decide ((pc : Int) + off = t) && decide (0 ≤ t)
def linOk (m o pc : Nat) (i0 : Instr) (l0 : Nat) (i : Instr) : Bool := match i with
  | .getfield y => (match i0 with | .getfield x => linF o x y && l0 == 3 | _ => false)
  | .putfield y => (match i0 with | .putfield x => putF m o x y && l0 == 3 | _ => false)
  | .invokestatic j => (match i0 with | .invokestatic x => linM m o x j 0 && l0 == 3 | _ => false)
  | .invokevirtual j => (match i0 with | .invokevirtual x => linM m o x j 1 && l0 == 3 | _ => false)
  | .invokespecial j => (match i0 with | .invokespecial x => linM m o x j 2 && l0 == 3 | _ => false)
  | .monitorenter => (match i0 with | .invokespecial x => lkO.any (fun e => e.1 == o && e.2.1 == x) && l0 == 3 && decide (1 ≤ mLv m) && decide (20 ≤ mLo m) | _ => false)
  | .lrem => (match i0 with | .invokestatic x => lkX.any (fun e => e.1 == o && e.2.1 == x && e.2.2.1 == 0) && l0 == 3 && decide (1 ≤ mLv m) && decide (21 ≤ mLo m) | _ => false)
  | .ldiv => (match i0 with | .invokestatic x => lkX.any (fun e => e.1 == o && e.2.1 == x && e.2.2.1 == 1) && l0 == 3 && decide (1 ≤ mLv m) && decide (21 ≤ mLo m) | _ => false)
  | .lneg => (match i0 with | .invokestatic x => lkX.any (fun e => e.1 == o && e.2.1 == x && e.2.2.1 == 2) && l0 == 3 && decide (1 ≤ mLv m) && decide (21 ≤ mLo m) | _ => false)
  | .new c => (match i0 with | .new x => lkC.any (fun e => e.1 == o && e.2.1 == x && decide (e.2.2.1 = cnm c)) && l0 == 3 && decide (c ≤ 8) | _ => false)
  | .anewarray t => (match i0 with | .anewarray x => lkC.any (fun e => e.1 == o && e.2.1 == x && decide (e.2.2.1 = aElm t)) && l0 == 3 | _ => false)
  | .ldc2_w k => (match i0 with | .ldc2_w x => lkL.any (fun e => e.1 == o && e.2.1 == x && e.2.2.1 == k) && l0 == 3 | _ => false)
  | .goto_w n => (match i0 with | .ldc x => lkI.any (fun e => e.1 == o && e.2.1 == x && decide (e.2.2.1 = Int32.ofInt n)) && l0 == 2 | _ => false)
  | .multianewarray y d => (match i0 with | .multianewarray x k => lkC.any (fun e => e.1 == o && e.2.1 == x && decide (e.2.2.1 = "[[I")) && decide (k = 2) && l0 == 4 && decide (y = 8) && decide (d = 2) | _ => false)
  | .jsr_w _ => false
  | .goto t => (match i0 with | .goto f => tgOk pc f t && l0 == 3 | _ => false)
  | .ifnull t => (match i0 with | .ifnull f => tgOk pc f t && l0 == 3 | _ => false)
  | .ifnonnull t => (match i0 with | .ifnonnull f => tgOk pc f t && l0 == 3 | _ => false)
  | .ifCond c t => (match i0 with | .ifCond c0 f => decide (c0 = c) && tgOk pc f t && l0 == 3 | _ => false)
  | .if_icmp c t => (match i0 with | .if_icmp c0 f => decide (c0 = c) && tgOk pc f t && l0 == 3 | _ => false)
  | .tableswitch d lo hi ts => (match i0 with | .tableswitch d0 lo0 hi0 fs => tgOk pc d0 d && decide (lo0 = lo) && decide (hi0 = hi) && decide (fs.size = ts.size) && (List.range fs.size).all (fun k => tgOk pc (fs.getD k 0) (ts.getD k 0)) | _ => false)
  | i => plainI i && decide (i0 = i) && l0 == plainL i && decide (stIx i ≤ mMx m)
def thrOk (m o ik is ic k : Nat) : Bool := decide (k < 5) && lkC.any (fun e => e.1 == o && e.2.1 == ik && decide (e.2.2.1 = enm k)) && lkS.any (fun e => e.1 == o && e.2.1 == is) && lkE.any (fun e => e.1 == o && e.2.1 == ic && e.2.2.1 == k) && (mHn m).isEmpty && decide (6 ≤ mLv m) && decide (90 ≤ mLo m)
def dcI (cc : ByteArray) (pc : Nat) : Instr × Nat := match decode cc pc with
  | .ok p => p
  | .error _ => (.nop, 0)
def insOk (m : Nat) (cc : ByteArray) (e : Nat × Instr × Nat) : Bool := match e.2.1 with
  | .jsr k => (match dcI cc e.1, dcI cc (e.1 + 3), dcI cc (e.1 + 4) with
    | (.new ik, 3), (.dup, 1), (.ldc is, 2) => (match dcI cc (e.1 + 6), dcI cc (e.1 + 9) with
      | (.invokespecial ic, 3), (.athrow, 1) => thrOk m (mOw m) ik is ic k.toNat
      | _, _ => false)
    | (.new ik, 3), (.dup, 1), (.ldc_w is, 3) => (match dcI cc (e.1 + 7), dcI cc (e.1 + 10) with
      | (.invokespecial ic, 3), (.athrow, 1) => thrOk m (mOw m) ik is ic k.toNat
      | _, _ => false)
    | _, _, _ => false)
  | .jsr_w k => (match dcI cc e.1, dcI cc (e.1 + 2), dcI cc (e.1 + 4) with
    | (.ldc is, 2), (.iload j, 2), (.invokevirtual ix, 3) => decide ((j : Int) = k) && e.2.2 == 7 && mOw m == 9 && is == 135 && lkH.any (fun f => f.1 == mOw m && f.2.1 == ix) && decide (4 ≤ mLv m) && decide (85 ≤ mLo m)
    | _, _, _ => false)
  | i => linOk m (mOw m) e.1 (dcI cc e.1).1 (dcI cc e.1).2 i && (!plainI i || e.2.2 == plainL i)
def hndOk (m : Nat) : Bool := (mHn m).all (fun h => lkC.any (fun e => e.1 == mOw m && e.2.1 == h.2.2.2.1 && decide (e.2.2.1 = enm h.2.2.2.2.1)) && decide (h.2.2.2.2.1 < 5) && decide (h.2.2.2.1 ≠ 0) && (match dcI (mC m) h.2.2.1 with
  | (.astore_n k, 1) => decide (k.val < mMx m) && h.2.2.2.2.2 == 1
  | (.astore k, 2) => decide (k < mMx m) && h.2.2.2.2.2 == 2
  | _ => false))
theorem hnd_all : (List.range (lawM + 1)).all hndOk = true := by decide +kernel

