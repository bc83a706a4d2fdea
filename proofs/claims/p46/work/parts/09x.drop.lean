/-! ===== locals that nobody reads any more are let go ===== -/
def gdL (l : ALs) : Prop := l.Pairwise (fun a b => a.1 < b.1)
theorem lkp_of {i : Nat} {v : Value} : ∀ {l : ALs}, gdL l → (i, v) ∈ l → lkp l i = some v
  | [], _, h => nomatch h
  | (j, w) :: t, hg, h => by
    have hp := List.pairwise_cons.mp hg
    unfold lkp
    rcases List.mem_cons.mp h with h | h
    · cases h
      rw [if_pos rfl]
    · have h9 : j < i := hp.1 _ h
      rw [if_neg (by omega)]
      exact lkp_of hp.2 h
theorem mem_lins {i : Nat} {v : Value} : ∀ {l : ALs} {q : Nat × Value}, q ∈ (i, v) :: l → q ∈ lins i v l
  | [], q, h => h
  | (j, w) :: t, q, h => by
    unfold lins
    by_cases e : j < i
    · rw [if_pos e]
      rcases List.mem_cons.mp h with h | h
      · exact List.mem_cons_of_mem _ (mem_lins (by rw [h]; exact List.mem_cons_self))
      · rcases List.mem_cons.mp h with h | h
        · rw [h]; exact List.mem_cons_self
        · exact List.mem_cons_of_mem _ (mem_lins (List.mem_cons_of_mem _ h))
    · rw [if_neg e]
      exact h
theorem lins_good {i : Nat} {v : Value} : ∀ {l : ALs}, gdL l → (∀ q ∈ l, q.1 ≠ i) → gdL (lins i v l)
  | [], _, _ => List.pairwise_singleton _ _
  | (j, w) :: t, hg, hn => by
    have hp := List.pairwise_cons.mp hg
    unfold lins
    by_cases e : j < i
    · rw [if_pos e]
      refine List.pairwise_cons.mpr ⟨fun q hq => ?_, lins_good hp.2 (fun q hq => hn q (List.mem_cons_of_mem _ hq))⟩
      rcases List.mem_cons.mp (lins_mem hq) with h | h
      · rw [h]; exact e
      · exact hp.1 q h
    · rw [if_neg e]
      refine List.pairwise_cons.mpr ⟨fun q hq => ?_, hg⟩
      have h1 : j ≠ i := hn (j, w) List.mem_cons_self
      rcases List.mem_cons.mp hq with h | h
      · rw [h]; show i < j; omega
      · have h2 : j < q.1 := hp.1 q h
        show i < q.1
        omega
/-- more is known of the locals -/
def suL (l l2 : ALs) : Prop := gdL l2 ∧ ∀ q ∈ l, q ∈ l2
theorem su_lkp {l l2 : ALs} {i : Nat} {v : Value} (h : suL l l2) (hk : lkp l i = some v) : lkp l2 i = some v := lkp_of h.1 (h.2 _ (lkp_mem hk))
theorem su_put {l l2 : ALs} {i : Nat} {v : Value} (h : suL l l2) : suL (lput l i v) (lput l2 i v) := by
  refine ⟨lins_good (List.Pairwise.filter _ h.1) (fun q hq => ?_), fun q hq => ?_⟩
  · have := (List.mem_filter.mp hq).2
    simp at this
    exact this.1
  · apply mem_lins
    rcases List.mem_cons.mp (lins_mem hq) with h2 | h2
    · rw [h2]; exact List.mem_cons_self
    · obtain ⟨a, b⟩ := List.mem_filter.mp h2
      exact List.mem_cons_of_mem _ (List.mem_filter.mpr ⟨h.2 q a, b⟩)
theorem su_put2 {l l2 : ALs} {i : Nat} {v : Value} (h : suL l l2) : suL (lput2 l i v) (lput2 l2 i v) := by
  refine ⟨lins_good (List.Pairwise.filter _ h.1) (fun q hq => ?_), fun q hq => ?_⟩
  · have := (List.mem_filter.mp hq).2
    simp at this
    exact this.1
  · apply mem_lins
    rcases List.mem_cons.mp (lins_mem hq) with h2 | h2
    · rw [h2]; exact List.mem_cons_self
    · obtain ⟨a, b⟩ := List.mem_filter.mp h2
      exact List.mem_cons_of_mem _ (List.mem_filter.mpr ⟨h.2 q a, b⟩)
def setL (ls : ALs) : AOut → AOut
  | .inl (pc, _, st, M) => .inl (pc, ls, st, M)
  | .inr x => .inr x
/-- an instruction that reads or writes a local -/
def locI (i : Instr) : Bool := match i with
  | .iload _ => true | .iload_n _ => true | .lload _ => true | .lload_n _ => true | .fload _ => true | .fload_n _ => true | .dload _ => true | .dload_n _ => true | .aload _ => true | .aload_n _ => true
  | .istore _ => true | .istore_n _ => true | .lstore _ => true | .lstore_n _ => true | .fstore _ => true | .dstore _ => true | .astore _ => true | .astore_n _ => true | .iinc _ _ => true | .jsr_w _ => true
  | _ => false
def suO (o o2 : AOut) : Prop := match o, o2 with
  | .inl (p1, l1, s1, m1), .inl (p2, l2, s2, m2) => p2 = p1 ∧ s2 = s1 ∧ m2 = m1 ∧ suL l1 l2
  | .inr a, .inr b => b = a
  | _, _ => False
set_option maxHeartbeats 4000000 in
theorem step_setL {mi len pc : Nat} {i : Instr} {ls : ALs} {st : List Value} {M : AMem} (hl : locI i = false) : sStep mi i len pc ls st M = (sStep mi i len pc [] st M).map (setL ls) := by
  cases i <;> first
    | (exact Bool.noConfusion (show true = false from hl))
    | (simp only [sStep, amStep, a_nx, a_ii, a_jj, a_ji, a_if, a_ald, a_call] <;> (repeat' split) <;> first | rfl | (simp_all [setL]; done))
theorem set_su {o : AOut} {ls : ALs} {ls2 : ALs} (h : suL ls ls2) : suO (setL ls o) (setL ls2 o) := by
  rcases o with ⟨a, b, c, d⟩ | x
  · exact ⟨rfl, rfl, rfl, h⟩
  · exact rfl
theorem ld_su {len i c pc : Nat} {ls ls2 : ALs} {st : List Value} {M : AMem} {o : AOut} (h : suL ls ls2) (ho : a_ld len i c pc ls st M = some o) : ∃ o2, a_ld len i c pc ls2 st M = some o2 ∧ suO o o2 := by
  unfold a_ld at ho
  cases hk : lkp ls i with
  | none => rw [hk] at ho; cases ho
  | some v =>
    have h2 := su_lkp h hk
    unfold a_ld
    rw [hk] at ho
    rw [h2]
    cases v <;> simp only [a_nx] at ho ⊢ <;> first
      | (split at ho
         · rename_i hc
           cases ho
           exact ⟨_, if_pos hc, rfl, rfl, rfl, h⟩
         · cases ho)
      | cases ho
theorem st_su {len i c pc : Nat} {ls ls2 : ALs} {st : List Value} {M : AMem} {o : AOut} (h : suL ls ls2) (ho : a_st len i c pc ls st M = some o) : ∃ o2, a_st len i c pc ls2 st M = some o2 ∧ suO o o2 := by
  unfold a_st a_nx at ho ⊢
  split at ho <;> first
    | (split at ho
       · rename_i hc
         cases ho
         exact ⟨_, if_pos hc, rfl, rfl, rfl, su_put h⟩
       · cases ho)
    | (split at ho
       · rename_i hc
         cases ho
         exact ⟨_, if_pos hc, rfl, rfl, rfl, su_put2 h⟩
       · cases ho)
    | cases ho
theorem step_su {mi len pc : Nat} {i : Instr} {ls ls2 : ALs} {st : List Value} {M : AMem} {o : AOut} (h : suL ls ls2) (ho : sStep mi i len pc ls st M = some o) : ∃ o2, sStep mi i len pc ls2 st M = some o2 ∧ suO o o2 := by
  cases hl : locI i
  · rw [step_setL hl] at ho ⊢
    cases hz : sStep mi i len pc [] st M with
    | none => rw [hz] at ho; cases ho
    | some z =>
      rw [hz] at ho
      cases ho
      exact ⟨_, rfl, set_su h⟩
  · cases i <;> first
      | (exact Bool.noConfusion (show false = true from hl))
      | (exact ld_su h ho)
      | (exact st_su h ho)
      | skip
    · simp only [sStep, amStep, a_nx] at ho ⊢
      split at ho
      · rename_i k n x hk
        cases ho
        rw [su_lkp h hk]
        exact ⟨_, rfl, rfl, rfl, rfl, su_put h⟩
      · cases ho
    · simp only [sStep, amStep, a_nx] at ho ⊢
      split at ho
      · rename_i k x hk
        split at ho
        · rename_i hc
          cases ho
          rw [su_lkp h hk]
          exact ⟨_, if_pos hc, rfl, rfl, rfl, h⟩
        · cases ho
      · cases ho
theorem exec_su : ∀ (n mi pc : Nat) (ls ls2 : ALs) (st : List Value) (M : AMem) (r : AR), suL ls ls2 → amExec n mi pc ls st M = some r → amExec n mi pc ls2 st M = some r := by
  intro n
  induction n with
  | zero => intro mi pc ls ls2 st M r _ h; cases h
  | succ n ih =>
    intro mi pc ls ls2 st M r hsu h
    unfold amExec at h ⊢
    cases hf : fetch mi pc with
    | none => rw [hf] at h; cases h
    | some il =>
      obtain ⟨i, len⟩ := il
      rw [hf] at h
      simp only at h ⊢
      cases hs : sStep mi i len pc ls st M with
      | none => rw [hs] at h; cases h
      | some o =>
        obtain ⟨o2, h2, h3⟩ := step_su hsu hs
        rw [h2]
        rw [hs] at h
        rcases o with ⟨pc', ls', st', M'⟩ | ⟨mj, as, rs⟩ | v | E
        · rcases o2 with ⟨p2, l2, s2, m2⟩ | x
          · obtain ⟨rfl, rfl, rfl, h4⟩ := h3
            exact ih _ _ _ _ _ _ _ h4 h
          · exact h3.elim
        · rcases o2 with ⟨p2, l2, s2, m2⟩ | x
          · exact h3.elim
          · cases (show x = _ from h3)
            simp only at h ⊢
            cases hc : amExec n mj 0 (lv_args 0 as) [] M with
            | none => rw [hc] at h; cases h
            | some r1 =>
              rw [hc] at h
              obtain ⟨M1, v | E⟩ := r1
              · exact ih _ _ _ _ _ _ _ hsu h
              · simp only at h ⊢
                cases hh : fHnd (mHn mi) pc E with
                | none => rw [hh] at h; exact h
                | some hp => rw [hh] at h; exact h
        · rcases o2 with ⟨p2, l2, s2, m2⟩ | x
          · exact h3.elim
          · cases (show x = _ from h3)
            exact h
        · rcases o2 with ⟨p2, l2, s2, m2⟩ | x
          · exact h3.elim
          · cases (show x = _ from h3)
            exact h
/-- a run that knows less of the locals is a run -/
theorem EvP_drop {m pc : Nat} {ls : ALs} (ls2 : ALs) {st : List Value} {M : AMem} {Q : AR → Prop} (hg : gdL ls) (hs : ∀ q ∈ ls2, q ∈ ls) (h : EvP m pc ls2 st M Q) : EvP m pc ls st M Q := by
  obtain ⟨n, r, h1, h2⟩ := h
  exact ⟨n, r, exec_su n m pc ls2 ls st M r ⟨hg, hs⟩ h1, h2⟩
/-- a loop with an invariant, by what is owed behind it -/
theorem loopK {m pc : Nat} {Q : AR → Prop} (n : Nat) (L : Nat → ALs) (I : Nat → AMem → Prop) (h : ∀ k, k < n → ∀ M, I k M → (∀ M', I (k + 1) M' → EvP m pc (L (k + 1)) [] M' Q) → EvP m pc (L k) [] M Q) (hn : ∀ M, I n M → EvP m pc (L n) [] M Q) : ∀ M, I 0 M → EvP m pc (L 0) [] M Q := by
  induction n with
  | zero => exact hn
  | succ n ih => exact ih (fun k hk => h k (by omega)) (fun M hM => h n (by omega) M hM hn)
