/-! ===== the tables hold: links are words of the claim, linked code is the code ===== -/
def clT (ci : Nat) : u_T := (awCl.getD ci ("", fun _ => ("", "", "", false), 0)).2.1
def clN (ci : Nat) : Nat := (awCl.getD ci ("", fun _ => ("", "", "", false), 0)).2.2
def nestHost : String := "Deckmill"
def wF (e : Nat × Nat × Nat × Nat × Nat × Nat) : Cond := match e with
  | (o, x, ci, k, n, _) => if n = 0 then .fieldLink (cnm o) x (cnm ci) (clT ci k).2.1 (clT ci k).2.2.1 else .fieldLinkNest (cnm o) x (cnm ci) (clT ci k).2.1 (clT ci k).2.2.1 nestHost
def wM (e : Nat × Nat × Nat × Nat × Nat) : Cond := match e with
  | (o, x, j, n, _) => if n = 0 then .methodLink (cnm o) x (mY j) else .methodLinkNest (cnm o) x (mY j) nestHost
theorem lkF_ok : lkF.all (fun e => decide (lw_tbl[e.2.2.2.2.2]? = some (wF e))) = true := by decide +kernel
theorem lkM_ok : lkM.all (fun e => decide (lw_tbl[e.2.2.2.2]? = some (wM e))) = true := by decide +kernel
theorem lkC_ok : lkC.all (fun e => decide (lw_tbl[e.2.2.2]? = some (.classLink (cnm e.1) e.2.1 e.2.2.1))) = true := by decide +kernel
theorem lkL_ok : lkL.all (fun e => decide (lw_tbl[e.2.2.2]? = some (.constantLong (cnm e.1) e.2.1 (lcon e.2.2.1)))) = true := by decide +kernel
theorem lkS_ok : lkS.all (fun e => decide (lw_tbl[e.2.2.2]? = some (.stringRef (cnm e.1) e.2.1 e.2.2.1))) = true := by decide +kernel
theorem lkO_ok : lkO.all (fun e => decide (lw_tbl[e.2.2]? = some (.methodLink (cnm e.1) e.2.1 Jvm.Lib.objectInit))) = true := by decide +kernel
def exNames : List String := ["java/lang/RuntimeException", "java/lang/Exception"]
def okw (w : Cond) : Bool := goodWord w || (match w with
  | .declares _ => true
  | .castable _ _ => true
  | .fieldLinkNest _ _ _ _ _ _ => true
  | .methodLinkNest _ _ _ _ => true
  | _ => false)
theorem lkE_ok1 : lkE.all (fun e => (vx_atS (cnm e.1) e.2.1 (enm e.2.2.1) exNames).all (fun w => vx_ot w)) = true := by decide +kernel
theorem lkE_ok2 : lkE.all (fun e => (vx_atS (cnm e.1) e.2.1 (enm e.2.2.1) exNames).all (fun w => okw w)) = true := by decide +kernel
theorem lkI_ok : lkI.all (fun e => decide (lw_tbl[e.2.2.2]? = some (.constant (cnm e.1) e.2.1 e.2.2.1))) = true := by decide +kernel
theorem lkH_ok : lkH.all (fun e => decide (lw_tbl[e.2.2]? = some (.methodLink (cnm e.1) e.2.1 yJ0_charAt_5068e))) = true := by decide +kernel
theorem lkX_ok : lkX.all (fun e => decide (lw_tbl[e.2.2.2]? = some (.methodLink (cnm e.1) e.2.1 (if e.2.2.1 = 0 then Jvm.Lib.Math.max.name else if e.2.2.1 = 1 then Jvm.Lib.Math.min.name else Jvm.Lib.Math.abs.name)))) = true := by decide +kernel
theorem lkE_ok4 : (lkE.filter (fun e => e.2.2.1 != 4)).all (fun e => (vx_atS (cnm e.1) e.2.1 (enm e.2.2.1) exNames).all (fun w => decide (w ∈ lw_tbl))) = true := by decide +kernel
/-- a method's own words: its code, static or instance, what it selects, its class made ready -/
def mW (j : Nat) : Cond := if (mHn j).isEmpty then .code (mY j) (mC j) (mMx j) (mRt j) else .codeWith (mY j) (mC j) (mMx j) (mRt j) ((mHn j).map (fun h => (h.1, h.2.1, h.2.2.1, h.2.2.2.1)))
def okM (j : Nat) : Bool := (if mKd j = 0 then decide (lw_tbl[(mPc j).2.1]? = some (.static (mY j))) else decide (lw_tbl[(mPc j).2.1]? = some (.instanceMethod (mY j))))
  && (if mKd j = 1 then decide (lw_tbl[(mPc j).2.2.1]? = some (.selects (mY j).cls (mY j) (mY j))) else true) && decide (lw_tbl[(mPc j).2.2.2]? = some (.initialized (mY j).cls))
  && decide ((mY j).cls = cnm (mOw j)) && decide ((mY j).cls ≠ "java/lang/invoke/MethodHandle") && decide ((mY j).cls ≠ "java/lang/invoke/VarHandle") && decide ((parseMethodDescriptor (mY j).desc).map (fun d => d.parameters.length) = some (mPr j)) && plainName (mY j).cls
  && (if mKd j = 2 then decide ((mY j).name = "<init>") && decide (mRt j = none) else true)
theorem okM_all : (List.range lawM).all okM = true := by decide +kernel
theorem arrW : decide (Cond.arrayClass .int ∈ lw_tbl) && decide (Cond.arrayOver (.array .int) ∈ lw_tbl) && decide (Cond.arrayOver (.object "Deckmill$Sheet") ∈ lw_tbl) && decide (Cond.arrayOver (.object "Deckmill$Pack") ∈ lw_tbl) && decide (Cond.arrayOver (.object "Deckmill$Order") ∈ lw_tbl) = true := by decide +kernel
