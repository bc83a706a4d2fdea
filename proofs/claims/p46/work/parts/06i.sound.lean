/-! ===== soundness: what the abstract machine answers, the machine does ===== -/
theorem mw_small : (List.range lawM).all (fun j => decide (mOw j ≤ 12) && (mKd j == 0 || mKd j == 1 || mKd j == 2) && ((mHn j).isEmpty || (mKd j == 0 && lkM.all (fun e => e.2.2.1 != j || e.2.2.2.1 == 0)))) = true := by decide +kernel
/-- methods that never throw, as the tables have it -/
theorem th_calls : (List.range (lawM + 1)).all (fun j => mTh j || (lcode j).all (fun e => match e.2.1 with
  | .jsr _ => false
  | .invokestatic i => !mTh i || !(mHn j).isEmpty
  | .invokevirtual i => !mTh i || !(mHn j).isEmpty
  | .invokespecial i => !mTh i || !(mHn j).isEmpty
  | _ => true)) = true := by decide +kernel
theorem th_links : lkM.all (fun e => !mTh e.2.2.1 || (e.2.2.2.1 == 0 && mKd e.2.2.1 != 2 && (mHn e.2.2.1).isEmpty)) = true := by decide +kernel
theorem lookup_mem {α : Type} {k : Nat} {v : α} : ∀ {l : List (Nat × α)}, l.lookup k = some v → (k, v) ∈ l
  | (j, w) :: t, h => by
    unfold List.lookup at h
    split at h
    · rename_i he
      cases h
      rw [eq_of_beq he]
      exact List.mem_cons_self
    · exact List.mem_cons_of_mem _ (lookup_mem h)
theorem fetch_ok {mi pc len : Nat} {i : Instr} (hm : mi ≤ lawM) (h : fetch mi pc = some (i, len)) : insOk mi (mC mi) (pc, i, len) = true := List.all_eq_true.mp (io_all mi (by omega)) _ (lookup_mem h)
theorem call_inv {mi len pc mj : Nat} {i : Instr} {ls : ALs} {st as r : List Value} {M : AMem} (hst : sStep mi i len pc ls st M = some (.inr (.inl (mj, as, r)))) : (i = .invokestatic mj ∨ i = .invokevirtual mj ∨ i = .invokespecial mj) ∧ a_call mPr mOw mKd mMx mj st M = some (.inr (.inl (mj, as, r))) := by
  have hm : ∀ z, a_call mPr mOw mKd mMx z st M = some (.inr (.inl (mj, as, r))) → z = mj := by
    intro z h
    simp only [a_call] at h
    repeat' split at h
    all_goals first | (cases h; done) | (cases h; rfl)
  cases i <;> first
    | (have h9 := hm _ hst; subst h9; exact ⟨Or.inl rfl, hst⟩)
    | (have h9 := hm _ hst; subst h9; exact ⟨Or.inr (Or.inl rfl), hst⟩)
    | (have h9 := hm _ hst; subst h9; exact ⟨Or.inr (Or.inr rfl), hst⟩)
    | (simp only [sStep, amStep, a_nx, a_ii, a_jj, a_ji, a_ld, a_st, a_if, a_ald] at hst; (repeat' split at hst); all_goals (cases hst; done))
theorem ret_inv {mi len pc : Nat} {i : Instr} {ls : ALs} {st : List Value} {M : AMem} {v : Option Value} (hst : sStep mi i len pc ls st M = some (.inr (.inr (.inl v)))) : st = v.toList := by
  cases i <;> simp only [sStep, amStep, a_nx, a_ii, a_jj, a_ji, a_ld, a_st, a_if, a_ald, a_call] at hst <;> (repeat' split at hst) <;> first | (cases hst; done) | (cases hst; rfl)
theorem thr_inv {mi len pc k : Nat} {i : Instr} {ls : ALs} {st : List Value} {M : AMem} (hst : sStep mi i len pc ls st M = some (.inr (.inr (.inr k)))) : ∃ z : Int, i = .jsr z ∧ k = z.toNat ∧ csum st ≤ 8 := by
  cases i <;> simp only [sStep, amStep, a_nx, a_ii, a_jj, a_ji, a_ld, a_st, a_if, a_ald, a_call] at hst <;> (repeat' split at hst) <;> first | (cases hst; done) | (rename_i h0; cases hst; exact ⟨_, rfl, rfl, h0⟩)
theorem thr_lt {mi pc len : Nat} {k : Int} {cc : ByteArray} (hio : insOk mi cc (pc, .jsr k, len) = true) : k.toNat < 5 := by
  have h : ∀ ik is ic, thrOk mi (mOw mi) ik is ic k.toNat = true → k.toNat < 5 := by
    intro ik is ic ht
    simp only [thrOk, Bool.and_eq_true, decide_eq_true_eq] at ht
    exact ht.1.1.1.1.1.1
  simp only [insOk] at hio
  repeat' split at hio
  all_goals first | exact h _ _ _ hio | cases hio
/-- a method that the tables call safe returns -/
theorem no_throw : ∀ (n mi pc : Nat) (ls : ALs) (st : List Value) (M : AMem) (res : AR), mi ≤ lawM → mTh mi = false → amExec n mi pc ls st M = some res → ∃ v, res.2 = .inl v := by
  intro n
  induction n with
  | zero => intro mi pc ls st M res _ _ h; cases h
  | succ n ih =>
    intro mi pc ls st M res hm ht h
    have hall := all_lt th_calls (show mi < lawM + 1 by omega)
    rw [ht, Bool.false_or] at hall
    unfold amExec at h
    split at h
    · cases h
    · rename_i i len hf
      have hent := List.all_eq_true.mp hall _ (lookup_mem hf)
      split at h
      · cases h
      · exact ih _ _ _ _ _ _ hm ht h
      · rename_i mj as r hst
        obtain ⟨hi, -⟩ := call_inv hst
        split at h
        · cases h
        · exact ih _ _ _ _ _ _ hm ht h
        · rename_i M1 E hc
          split at h
          · split at h
            · rename_i hemp
              have hj : mj < lawM ∧ mTh mj = false := by
                have hio := fetch_ok hm hf
                rcases hi with rfl | rfl | rfl
                all_goals
                  simp only [hemp, Bool.not_true, Bool.or_false, Bool.not_eq_true'] at hent
                  refine ⟨?_, hent⟩
                  simp only [insOk, linOk, Bool.and_eq_true] at hio
                  obtain ⟨h1, -⟩ := hio
                  split at h1
                  · simp only [linM, Bool.and_eq_true, decide_eq_true_eq] at h1
                    exact h1.1.1.1.2
                  · cases h1
              obtain ⟨v, hv⟩ := ih _ _ _ _ _ _ (by omega) hj.2 hc
              cases hv
            · cases h
          · exact ih _ _ _ _ _ _ hm ht h
      · cases h
        exact ⟨_, rfl⟩
      · rename_i k hst
        obtain ⟨z, rfl, -, -⟩ := thr_inv hst
        cases hent
section RT
variable {G : AG} {mi : Nat} {p : Program} {l : Launch} {e : Env} {R : Room} {s : State} {m : MethodId} {args : Array Value} {below : List Frame} {meth : Method} {c : Code} {H : Heap} {locs : List Loc} {cells slots : Nat}
/-- a return's row -/
theorem ret_row (F : FX G mi p l R s m meth c) {i : Instr} {len len9 pc pc9 : Nat} {ls9 : ALs} {lsC : Array Slot} {v : Option Value} {M : AMem} (hio : insOk mi (mC mi) (pc, i, len) = true) (hst : sStep mi i len9 pc9 ls9 v.toList M = some (.inr (.inr (.inl v)))) {Qc : Array Value → State → Outcome → State → Prop} {free : Addr → Prop}
    (hq : ∀ t : State, t.heap = H → s.WarmedH t.vm → Qc args s (.returned v) t) (hf : ∀ q ∈ locs, free q.base) : W p l e R s m args below meth c H locs cells slots (MQ below Qc args s cells slots free) (F0 m pc lsC v.toList) := by
  obtain ⟨hx, hb, hml, hown, hin, hfr, hlo, hK, hKH, hsz, hlk, htr, htb, hrt, hmi⟩ := F
  cases i
  case ireturn =>
    obtain ⟨hd, -, -⟩ := ins_plain rfl hio
    simp only [sStep, amStep] at hst
    split at hst
    · rename_i x ty e1 e2
      split at hst
      · rename_i hn
        simp only [Option.some.injEq, Sum.inr.injEq, Sum.inl.injEq] at hst
        subst hst
        exact W.zret hx hb (hrt.trans e2) hn hq hf hd hlk
      · cases hst
    · cases hst
  case lreturn =>
    obtain ⟨hd, -, -⟩ := ins_plain rfl hio
    simp only [sStep, amStep] at hst
    split at hst
    · rename_i x e1
      split at hst
      · rename_i e2
        simp only [Option.some.injEq, Sum.inr.injEq, Sum.inl.injEq] at hst
        subst hst
        exact W.lret hx hb (hrt.trans e2) hq hf hd hlk
      · cases hst
    · cases hst
  case freturn =>
    obtain ⟨hd, -, -⟩ := ins_plain rfl hio
    simp only [sStep, amStep] at hst
    split at hst
    · rename_i x e1
      split at hst
      · rename_i e2
        simp only [Option.some.injEq, Sum.inr.injEq, Sum.inl.injEq] at hst
        subst hst
        exact W.fret hx hb (hrt.trans e2) hq hf hd hlk
      · cases hst
    · cases hst
  case dreturn =>
    obtain ⟨hd, -, -⟩ := ins_plain rfl hio
    simp only [sStep, amStep] at hst
    split at hst
    · rename_i x e1
      split at hst
      · rename_i e2
        simp only [Option.some.injEq, Sum.inr.injEq, Sum.inl.injEq] at hst
        subst hst
        exact W.dret hx hb (hrt.trans e2) hq hf hd hlk
      · cases hst
    · cases hst
  case areturn =>
    obtain ⟨hd, -, -⟩ := ins_plain rfl hio
    simp only [sStep, amStep] at hst
    split at hst
    · rename_i x C e1 e2
      simp only [Option.some.injEq, Sum.inr.injEq, Sum.inl.injEq] at hst
      subst hst
      exact W.aret hx hb (hrt.trans e2) (Or.inl ⟨_, rfl⟩) (Or.inr ⟨_, rfl⟩) hq hf hd hlk
    · rename_i C e1 e2
      simp only [Option.some.injEq, Sum.inr.injEq, Sum.inl.injEq] at hst
      subst hst
      exact W.aret hx hb (hrt.trans e2) (Or.inl ⟨_, rfl⟩) (Or.inl rfl) hq hf hd hlk
    · cases hst
  case return_ =>
    obtain ⟨hd, -, -⟩ := ins_plain rfl hio
    simp only [sStep, amStep] at hst
    split at hst
    · split at hst
      · rename_i e2
        simp only [Option.some.injEq, Sum.inr.injEq, Sum.inl.injEq] at hst
        subst hst
        exact W.vret hx hb (hrt.trans e2) hq hf hd hlk
      · cases hst
    · cases hst
  all_goals (simp only [sStep, amStep, a_nx, a_ii, a_jj, a_ji, a_ld, a_st, a_if, a_ald, a_call] at hst; (repeat' split at hst); all_goals (cases hst; done))
end RT
