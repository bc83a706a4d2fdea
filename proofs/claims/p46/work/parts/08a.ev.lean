/-! ===== runs of the linked code, without fuel ===== -/
theorem exec_more : ∀ (n mi pc : Nat) (ls : ALs) (st : List Value) (M : AMem) (r : AR), amExec n mi pc ls st M = some r → ∀ k, amExec (n + k) mi pc ls st M = some r := by
  intro n
  induction n with
  | zero => intro mi pc ls st M r h; cases h
  | succ n ih =>
    intro mi pc ls st M r h k
    rw [show n + 1 + k = (n + k) + 1 by omega]
    unfold amExec at h ⊢
    cases hf : fetch mi pc with
    | none => rw [hf] at h; cases h
    | some il =>
      obtain ⟨i, len⟩ := il
      rw [hf] at h
      simp only at h ⊢
      cases hs : sStep mi i len pc ls st M with
      | none => rw [hs] at h; cases h
      | some o =>
        rw [hs] at h
        rcases o with ⟨pc', ls', st', M'⟩ | ⟨mj, as, rs⟩ | v | E
        · exact ih _ _ _ _ _ _ h k
        · simp only at h ⊢
          cases hc : amExec n mj 0 (lv_args 0 as) [] M with
          | none => rw [hc] at h; cases h
          | some r1 =>
            rw [ih _ _ _ _ _ _ hc k]
            rw [hc] at h
            obtain ⟨M1, v | E⟩ := r1
            · exact ih _ _ _ _ _ _ h k
            · simp only at h ⊢
              cases hh : fHnd (mHn mi) pc E with
              | none => rw [hh] at h; exact h
              | some hp => rw [hh] at h; exact ih _ _ _ _ _ _ h k
        · exact h
        · exact h
theorem exec_det {n n' mi pc : Nat} {ls : ALs} {st : List Value} {M : AMem} {r r' : AR} (h : amExec n mi pc ls st M = some r) (h' : amExec n' mi pc ls st M = some r') : r = r' := by
  have h1 := exec_more _ _ _ _ _ _ _ h n'
  have h2 := exec_more _ _ _ _ _ _ _ h' n
  rw [Nat.add_comm] at h2
  exact Option.some.inj (h1.symm.trans h2)
def EvP (m pc : Nat) (ls : ALs) (st : List Value) (M : AMem) (Q : AR → Prop) : Prop := ∃ n r, amExec n m pc ls st M = some r ∧ Q r
/-- behind a call -/
def aftP (m pc : Nat) (ls : ALs) (rs : List Value) (Q : AR → Prop) (r : AR) : Prop := match r with
  | (M1, .inl v) => EvP m (pc + 3) ls (v.toList ++ rs) M1 Q
  | (M1, .inr E) => match fHnd (mHn m) pc E with
    | none => (mHn m).isEmpty = true ∧ Q (M1, .inr E)
    | some hp => EvP m hp [] [] M1 Q
/-- a callee's run -/
def CaP (m : Nat) (as : List Value) (M : AMem) (Q : AR → Prop) : Prop := EvP m 0 (lv_args 0 as) [] M Q
def outP (m pc : Nat) (ls : ALs) (M : AMem) (Q : AR → Prop) (o : Option AOut) : Prop := match o with
  | none => False
  | some (.inl (pc', ls', st', M')) => EvP m pc' ls' st' M' Q
  | some (.inr (.inl (mj, as, rs))) => CaP mj as M (aftP m pc ls rs Q)
  | some (.inr (.inr (.inl v))) => Q (M, .inl v)
  | some (.inr (.inr (.inr E))) => Q (stN M 0 0 6, .inr E)
theorem EvP_det {m pc : Nat} {ls : ALs} {st : List Value} {M : AMem} {r : AR} (h : EvP m pc ls st M (fun x => x = r)) (Q : AR → Prop) : EvP m pc ls st M Q = Q r := by
  obtain ⟨n, r0, h1, rfl⟩ := h
  refine propext ⟨fun ⟨n', r', h2, h3⟩ => ?_, fun hq => ⟨n, r0, h1, hq⟩⟩
  rw [exec_det h1 h2]
  exact h3
theorem EvP_mono {m pc : Nat} {ls : ALs} {st : List Value} {M : AMem} {Q Q' : AR → Prop} (h : EvP m pc ls st M Q) (hq : ∀ r, Q r → Q' r) : EvP m pc ls st M Q' := by
  obtain ⟨n, r, h1, h2⟩ := h
  exact ⟨n, r, h1, hq r h2⟩
theorem EvP_step {m pc len : Nat} {i : Instr} {ls : ALs} {st : List Value} {M : AMem} {Q : AR → Prop} (h : fetch m pc = some (i, len)) : EvP m pc ls st M Q = outP m pc ls M Q (sStep m i len pc ls st M) := by
  refine propext ⟨fun ⟨n, r, h1, h2⟩ => ?_, fun hq => ?_⟩
  · cases n with
    | zero => cases h1
    | succ n =>
      unfold amExec at h1
      simp only [h] at h1
      cases hs : sStep m i len pc ls st M with
      | none => rw [hs] at h1; cases h1
      | some o =>
        rw [hs] at h1
        rcases o with ⟨pc', ls', st', M'⟩ | ⟨mj, as, rs⟩ | v | E
        · exact ⟨n, r, h1, h2⟩
        · simp only at h1
          cases hc : amExec n mj 0 (lv_args 0 as) [] M with
          | none => rw [hc] at h1; cases h1
          | some r1 =>
            rw [hc] at h1
            obtain ⟨M1, v | E⟩ := r1
            · exact ⟨n, _, hc, n, r, h1, h2⟩
            · refine ⟨n, _, hc, ?_⟩
              simp only [aftP]
              simp only at h1
              cases hh : fHnd (mHn m) pc E with
              | none =>
                rw [hh] at h1
                simp only at h1
                split at h1
                · rename_i he
                  cases h1
                  exact ⟨he, h2⟩
                · cases h1
              | some hp =>
                rw [hh] at h1
                exact ⟨n, r, h1, h2⟩
        · cases h1
          exact h2
        · cases h1
          exact h2
  · cases hs : sStep m i len pc ls st M with
    | none => rw [hs] at hq; exact hq.elim
    | some o =>
      rw [hs] at hq
      rcases o with ⟨pc', ls', st', M'⟩ | ⟨mj, as, rs⟩ | v | E
      · obtain ⟨n, r, h1, h2⟩ := hq
        refine ⟨n + 1, r, ?_, h2⟩
        unfold amExec
        simp only [h, hs]
        exact h1
      · obtain ⟨n, ⟨M1, v | E⟩, h1, h2⟩ := hq
        · obtain ⟨n', r, h3, h4⟩ := h2
          refine ⟨n + n' + 1, r, ?_, h4⟩
          unfold amExec
          simp only [h, hs, exec_more _ _ _ _ _ _ _ h1 n']
          rw [Nat.add_comm n n']
          exact exec_more _ _ _ _ _ _ _ h3 n
        · simp only [aftP] at h2
          cases hh : fHnd (mHn m) pc E with
          | none =>
            rw [hh] at h2
            refine ⟨n + 1, _, ?_, h2.2⟩
            unfold amExec
            simp only [h, hs, h1, hh]
            rw [if_pos h2.1]
          | some hp =>
            rw [hh] at h2
            obtain ⟨n', r, h3, h4⟩ := h2
            refine ⟨n + n' + 1, r, ?_, h4⟩
            unfold amExec
            simp only [h, hs, exec_more _ _ _ _ _ _ _ h1 n', hh]
            rw [Nat.add_comm n n']
            exact exec_more _ _ _ _ _ _ _ h3 n
      · exact ⟨1, _, by unfold amExec; simp only [h, hs], hq⟩
      · exact ⟨1, _, by unfold amExec; simp only [h, hs], hq⟩
theorem CaP_det {m : Nat} {as : List Value} {M : AMem} {r : AR} (h : CaP m as M (fun x => x = r)) (Q : AR → Prop) : CaP m as M Q = Q r := EvP_det h Q
theorem outP_ite {m pc : Nat} {ls : ALs} {M : AMem} {Q : AR → Prop} {c : Prop} [Decidable c] {a b : Option AOut} : outP m pc ls M Q (if c then a else b) = if c then outP m pc ls M Q a else outP m pc ls M Q b := by
  split <;> rfl
theorem aft_ret {m pc : Nat} {ls : ALs} {rs : List Value} {Q : AR → Prop} {M1 : AMem} {v : Value} : aftP m pc ls rs Q (M1, .inl (some v)) = EvP m (pc + 3) ls (v :: rs) M1 Q := rfl
theorem aft_void {m pc : Nat} {ls : ALs} {rs : List Value} {Q : AR → Prop} {M1 : AMem} : aftP m pc ls rs Q (M1, .inl none) = EvP m (pc + 3) ls rs M1 Q := rfl
theorem aft_thr {m pc E : Nat} {ls : ALs} {rs : List Value} {Q : AR → Prop} {M1 : AMem} : aftP m pc ls rs Q (M1, .inr E) = (match fHnd (mHn m) pc E with
    | none => (mHn m).isEmpty = true ∧ Q (M1, .inr E)
    | some hp => EvP m hp [] [] M1 Q) := rfl
-- the memory's reads behind its writes
theorem mT_stI {M : AMem} {a : Nat} {f : Nat → Int32} : mT (stI M a f) = mT M := rfl
theorem mI_stI {M : AMem} {a : Nat} {f : Nat → Int32} : mI (stI M a f) = va_up (mI M) a f := rfl
theorem mL_stI {M : AMem} {a : Nat} {f : Nat → Int32} : mL (stI M a f) = mL M := rfl
theorem mD_stI {M : AMem} {a : Nat} {f : Nat → Int32} : mD (stI M a f) = mD M := rfl
theorem mR_stI {M : AMem} {a : Nat} {f : Nat → Int32} : mR (stI M a f) = mR M := rfl
theorem mN_stI {M : AMem} {a : Nat} {f : Nat → Int32} : mN (stI M a f) = mN M := rfl
theorem mS_stI {M : AMem} {a : Nat} {f : Nat → Int32} : mS (stI M a f) = mS M := rfl
theorem mT_stL {M : AMem} {a : Nat} {f : Nat → Int64} : mT (stL M a f) = mT M := rfl
theorem mI_stL {M : AMem} {a : Nat} {f : Nat → Int64} : mI (stL M a f) = mI M := rfl
theorem mL_stL {M : AMem} {a : Nat} {f : Nat → Int64} : mL (stL M a f) = va_up (mL M) a f := rfl
theorem mD_stL {M : AMem} {a : Nat} {f : Nat → Int64} : mD (stL M a f) = mD M := rfl
theorem mR_stL {M : AMem} {a : Nat} {f : Nat → Int64} : mR (stL M a f) = mR M := rfl
theorem mN_stL {M : AMem} {a : Nat} {f : Nat → Int64} : mN (stL M a f) = mN M := rfl
theorem mS_stL {M : AMem} {a : Nat} {f : Nat → Int64} : mS (stL M a f) = mS M := rfl
theorem mT_stD {M : AMem} {a : Nat} {f : Nat → UInt64} : mT (stD M a f) = mT M := rfl
theorem mI_stD {M : AMem} {a : Nat} {f : Nat → UInt64} : mI (stD M a f) = mI M := rfl
theorem mL_stD {M : AMem} {a : Nat} {f : Nat → UInt64} : mL (stD M a f) = mL M := rfl
theorem mD_stD {M : AMem} {a : Nat} {f : Nat → UInt64} : mD (stD M a f) = va_up (mD M) a f := rfl
theorem mR_stD {M : AMem} {a : Nat} {f : Nat → UInt64} : mR (stD M a f) = mR M := rfl
theorem mN_stD {M : AMem} {a : Nat} {f : Nat → UInt64} : mN (stD M a f) = mN M := rfl
theorem mS_stD {M : AMem} {a : Nat} {f : Nat → UInt64} : mS (stD M a f) = mS M := rfl
theorem mT_stR {M : AMem} {a : Nat} {f : Nat → Option Nat} : mT (stR M a f) = mT M := rfl
theorem mI_stR {M : AMem} {a : Nat} {f : Nat → Option Nat} : mI (stR M a f) = mI M := rfl
theorem mL_stR {M : AMem} {a : Nat} {f : Nat → Option Nat} : mL (stR M a f) = mL M := rfl
theorem mD_stR {M : AMem} {a : Nat} {f : Nat → Option Nat} : mD (stR M a f) = mD M := rfl
theorem mR_stR {M : AMem} {a : Nat} {f : Nat → Option Nat} : mR (stR M a f) = va_up (mR M) a f := rfl
theorem mN_stR {M : AMem} {a : Nat} {f : Nat → Option Nat} : mN (stR M a f) = mN M := rfl
theorem mS_stR {M : AMem} {a : Nat} {f : Nat → Option Nat} : mS (stR M a f) = mS M := rfl
theorem mT_stN {M : AMem} {k n sl : Nat} : mT (stN M k n sl) = va_up (mT M) (mN M) (k, n) := rfl
theorem mI_stN {M : AMem} {k n sl : Nat} : mI (stN M k n sl) = va_up (mI M) (mN M) (fun _ => 0) := rfl
theorem mL_stN {M : AMem} {k n sl : Nat} : mL (stN M k n sl) = va_up (mL M) (mN M) (fun _ => 0) := rfl
theorem mD_stN {M : AMem} {k n sl : Nat} : mD (stN M k n sl) = va_up (mD M) (mN M) (fun _ => 0) := rfl
theorem mR_stN {M : AMem} {k n sl : Nat} : mR (stN M k n sl) = va_up (mR M) (mN M) (fun _ => none) := rfl
theorem mN_stN {M : AMem} {k n sl : Nat} : mN (stN M k n sl) = mN M + 1 := rfl
theorem mS_stN {M : AMem} {k n sl : Nat} : mS (stN M k n sl) = mS M + sl := rfl
