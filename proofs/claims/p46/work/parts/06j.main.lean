/-! ===== soundness, by induction on the fuel ===== -/
def ExecS (l : Launch) (G : AG) (n : Nat) : Prop := ∀ (mi pc : Nat) (ls : ALs) (st : List Value) (M : AMem) (res : AR), amExec n mi pc ls st M = some res →
  ∀ (p : Program) (e : Env) (R : Room) (s : State) (m : MethodId) (args : Array Value) (below : List Frame) (meth : Method) (c : Code) (H : Heap) (locs : List Loc) (cells slots : Nat) (Q : State → Prop) (lsC : Array Slot) (n0 s0 : Nat), FX G mi p l R s m meth c → lv_has lsC (mMx mi) ls → HR G M H → va_S (gA G) s.heap H locs →
  cells + n0 = mN M → slots + s0 = mS M → mN res.1 ≤ n0 + R.cells → mS res.1 ≤ s0 + R.slots →
  (∀ v, res.2 = .inl v → ∀ (pc9 len9 : Nat) (i9 : Instr) (ls9 : ALs) (lsC9 : Array Slot) (H9 : Heap) (locs9 : List Loc) (cells9 slots9 : Nat), insOk mi (mC mi) (pc9, i9, len9) = true → sStep mi i9 len9 pc9 ls9 v.toList res.1 = some (.inr (.inr (.inl v))) → HR G res.1 H9 → va_S (gA G) s.heap H9 locs9 → cells9 + n0 = mN res.1 → slots9 + s0 = mS res.1 →
    W p l e R s m args below meth c H9 locs9 cells9 slots9 Q (F0 m pc9 lsC9 v.toList)) →
  (∀ k, res.2 = .inr k → ∃ (Qc : Array Value → State → Outcome → State → Prop) (XC : String → State → State → Prop) (mc ms : Nat), Q = vx_MQ below Qc XC args s mc ms (gA G) ∧ mN res.1 ≤ n0 + mc ∧ mS res.1 ≤ s0 + ms ∧ ∀ t : State, s.vm.Alike t.vm → k < 5 → HR G res.1 t.heap → va_F (gA G) s t → XC (enm k) s t) →
  W p l e R s m args below meth c H locs cells slots Q (F0 m pc lsC st)
theorem okM_at {j : Nat} (h : j < lawM) : (if mKd j = 0 then lw_tbl[(mPc j).2.1]? = some (Cond.static (mY j)) else lw_tbl[(mPc j).2.1]? = some (Cond.instanceMethod (mY j))) ∧ (mKd j = 1 → lw_tbl[(mPc j).2.2.1]? = some (Cond.selects (mY j).cls (mY j) (mY j))) ∧ lw_tbl[(mPc j).2.2.2]? = some (Cond.initialized (mY j).cls)
    ∧ (mY j).cls = cnm (mOw j) ∧ ((mY j).cls ≠ "java/lang/invoke/MethodHandle" ∧ (mY j).cls ≠ "java/lang/invoke/VarHandle") ∧ (∀ sig, parseMethodDescriptor (mY j).desc = some sig → mPr j = sig.parameters.length) ∧ plainName (mY j).cls = true ∧ (mKd j = 2 → (mY j).name = "<init>" ∧ mRt j = none) := by
  have h0 := all_lt okM_all h
  simp only [okM, Bool.and_eq_true, decide_eq_true_eq] at h0
  obtain ⟨⟨⟨⟨⟨⟨⟨⟨h1, h2⟩, h3⟩, h4⟩, h5⟩, h6⟩, h7⟩, h8⟩, h9⟩ := h0
  refine ⟨?_, fun hk => ?_, h3, h4, ⟨h5, h6⟩, fun sig hs => ?_, h8, fun hk => ?_⟩
  · split
    · rename_i hk
      rw [if_pos hk] at h1
      exact of_decide_eq_true h1
    · rename_i hk
      rw [if_neg hk] at h1
      exact of_decide_eq_true h1
  · rw [if_pos hk] at h2
    exact of_decide_eq_true h2
  · rw [hs] at h7
    exact (Option.some.inj h7).symm
  · rw [if_pos hk] at h9
    simp only [Bool.and_eq_true, decide_eq_true_eq] at h9
    exact h9
theorem mW_code {j : Nat} (h : (mHn j).isEmpty = true) : mW j = .code (mY j) (mC j) (mMx j) (mRt j) := by
  unfold mW
  rw [if_pos h]
theorem mW_with {j : Nat} (h : ¬ (mHn j).isEmpty = true) : mW j = .codeWith (mY j) (mC j) (mMx j) (mRt j) (mHh j) := by
  unfold mW
  rw [if_neg h]
  rfl
theorem mW_okw {j : Nat} : okw (mW j) = true := by
  unfold mW
  split <;> rfl
theorem mW_in {j : Nat} (h : j < lawM) : mW j ∈ lw_tbl := lw_of (cw_all j h)
/-- a body at its entry -/
theorem body_sound {l : Launch} {G : AG} {n : Nat} (htr : l.stackTraces = false) (hE : ExecS l G n) {j : Nat} {as : List Value} {M : AMem} {res : AR} (hj : j < lawM) (hle : csum as ≤ mMx j) (hx : amExec n j 0 (lv_args 0 as) [] M = some res) {p : Program} {e : Env} {s s₁ : State} {m : MethodId} {below : List Frame} {meth : Method} {c : Code} {ws : List Cond}
    (B : BodyLoose p l (mY j) (headSpec ws (Rm j M res)) (mC j) (mMx j) (mRt j) e s m as.toArray below meth c s₁) (hml : c.maxLocals = mMx j) (htb : c.exceptionTable.toList = tableOf (mHh j)) (hP : Pm G M as as.toArray s) :
    W p l e (Rm j M res) s m as.toArray below meth c s.heap [] 0 0 (vx_MQ below (Qr G res) (Xr G res) as.toArray s (mN res.1 - mN M) (mS res.1 - mS M) (gA G)) (entryFrame m as.toArray (mMx j)) := by
  obtain ⟨-, hHR, hKK, hKH, hsz⟩ := hP
  obtain ⟨hmono1, hmono2⟩ := exec_mono _ _ _ _ _ _ _ hx
  have hown : s.vm.findClass (mY j).cls = some m.cls := findClass_of_methodNamed B.named
  obtain ⟨-, -, -, hcl, -, -, -, hi⟩ := okM_at hj
  rw [hcl] at hown
  have hnm : meth.name = (mY j).name := (name_of_methodNamed B.named B.method).1
  have hl := lv_entry as (n := mMx j) (by rw [lg_len]; exact hle)
  rw [lg_entry_eq]
  have F : FX G j p l (Rm j M res) s m meth c := ⟨B.exec, B.bytes, hml, hown, fun hk => by rw [hnm]; exact (hi hk).1, Nat.le_refl _, Nat.le_refl _, hKK, hKH, hsz, B.notSynchronized, htr, fun _ => htb, B.returns, Nat.le_of_lt hj⟩
  refine hE j 0 (lv_args 0 as) [] M res hx p e (Rm j M res) s m as.toArray below meth c s.heap [] 0 0 _ _ (mN M) (mS M) F hl hHR va_S.rf (Nat.zero_add _) (Nat.zero_add _) (by show _ ≤ _ + (mN res.1 - mN M); omega) (by show _ ≤ _ + (mS res.1 - mS M); omega) ?_ ?_
  · intro v hv pc9 len9 i9 ls9 lsC9 H9 locs9 cells9 slots9 hio hst hHR9 hS9 hc9 hs9
    have e1 : mN res.1 - mN M = cells9 := by omega
    have e2 : mS res.1 - mS M = slots9 := by omega
    rw [e1, e2]
    refine vx_ret (ret_row F hio hst (fun t ht hW => ⟨⟨v, hv, rfl⟩, by rw [ht]; exact hHR9, hS9.F ht⟩) hS9.2.2)
  · intro k hk
    exact ⟨_, _, _, _, rfl, by omega, by omega, fun t _ h5 hh hf => ⟨⟨k, hk, rfl, h5⟩, hh, hf⟩⟩
theorem met_of_exec {l : Launch} {G : AG} {n : Nat} (htr : l.stackTraces = false) (hE : ExecS l G n) : MetS l G n := by
  intro j as M res hj hle hx
  obtain ⟨-, -, -, -, -, -, hpl, -⟩ := okM_at hj
  by_cases hh : (mHn j).isEmpty = true
  · rw [mW_code hh]
    refine vx_ofW (cc := mC j) (maxL := mMx j) (ret := mRt j) hpl rfl ?_
    intro p e s m args below meth c s₁ B hml hempty hP
    obtain ⟨rfl, h9⟩ := id hP
    refine body_sound htr hE hj hle hx B hml ?_ hP
    rw [List.eq_nil_iff_forall_not_mem.mpr hempty]
    unfold mHh
    rw [List.isEmpty_iff.mp hh]
    rfl
  · rw [mW_with hh]
    refine vx_ofWH (cc := mC j) (maxL := mMx j) (ret := mRt j) (hh := mHh j) hpl rfl ?_
    intro p e s m args below meth c s₁ B hml hP
    obtain ⟨rfl, h9⟩ := id hP
    refine body_sound htr hE hj hle hx B hml ?_ hP
    exact vx_table (x := mY j) B (atoms_spec (ws := [Cond.codeWith (mY j) (mC j) (mMx j) (mRt j) (mHh j)]) B.pre _ List.mem_cons_self)
