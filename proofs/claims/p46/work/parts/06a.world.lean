/-! ===== the world of the abstract machine in the heap ===== -/
def sStep (m : Nat) : Instr → Nat → Nat → ALs → List Value → AMem → Option AOut := amStep fty fNs elK lcon mPr mOw mKd mMx (mRt m)
def fHnd : List (Nat × Nat × Nat × Nat × Nat × Nat) → Nat → Nat → Option Nat
  | [], _, _ => none
  | h :: t, pc, E => if h.1 ≤ pc ∧ pc < h.2.1 ∧ h.2.2.2.2.1 = E then some (h.2.2.1 + h.2.2.2.2.2) else fHnd t pc E
abbrev AR : Type := AMem × (Option Value ⊕ Nat)
/-- the linked code, run: fuel, method, place, locals, stack, memory -/
def amExec : Nat → Nat → Nat → ALs → List Value → AMem → Option AR
  | 0, _, _, _, _, _ => none
  | n + 1, m, pc, ls, st, M => match fetch m pc with
    | none => none
    | some (i, len) => match sStep m i len pc ls st M with
      | none => none
      | some (.inl (pc', ls', st', M')) => amExec n m pc' ls' st' M'
      | some (.inr (.inl (mj, as, r))) => match amExec n mj 0 (lv_args 0 as) [] M with
        | none => none
        | some (M', .inl v) => amExec n m (pc + 3) ls (v.toList ++ r) M'
        | some (M', .inr E) => match fHnd (mHn m) pc E with
          | none => if (mHn m).isEmpty = true then some (M', .inr E) else none
          | some hp => amExec n m hp [] [] M'
      | some (.inr (.inr (.inl v))) => some (M, .inl v)
      | some (.inr (.inr (.inr E))) => some (stN M 0 0 6, .inr E)
def aTy (t : Nat) : FieldType := if t ≤ 4 then .int else if t = 8 then .array .int else .object (aElm t)
def tysA (cT : Nat → ClassId) : List (ClassId × FieldType) := (List.range 9).map (fun t => (cT t, aTy t))
def arrOf (M : AMem) (a t : Nat) : vp_A := ((mT M a).2, if t ≤ 2 then .inl (mI M a) else if t = 3 then .inr (.inl (mL M a)) else if t = 4 then .inr (.inr (.inr (.inl (mD M a)))) else .inr (.inr (.inr (.inr (mR M a)))))
/-- what is fixed over a run: where the new cells begin, the script, the classes' numbers -/
abbrev AG : Type := Nat × Nat × Nat × (Nat → Int32) × va_G × (Nat → ClassId)
/-- the world at one address -/
def hrA (G : AG) (M : AMem) (H : Heap) (a : Nat) : Prop := match G with
  | (base, b, L, xs, D, cT) => ((mT M a).1 = 0) ∨ ((1 ≤ (mT M a).1 ∧ (mT M a).1 ≤ 9) ∧ base ≤ a ∧ t_OB a (D.1 ((mT M a).1 - 1)) (clN ((mT M a).1 - 1)) (D.2 ((mT M a).1 - 1)) H (fun j => fval M a j (fty ((mT M a).1 - 1) j)))
    ∨ ((100 ≤ (mT M a).1 ∧ (mT M a).1 ≤ 108) ∧ base ≤ a ∧ H[a]? = some (vp_cell (cT ((mT M a).1 - 100)) (arrOf M a ((mT M a).1 - 100)))) ∨ ((mT M a).1 = 200 ∧ a = b ∧ (mT M a).2 = L ∧ mI M a = xs)
def HR (G : AG) (M : AMem) (H : Heap) : Prop := H.size = mN M ∧ G.1 ≤ mN M ∧ ∀ a, hrA G M H a
def gA (G : AG) : Nat → Prop := fun q => G.1 ≤ q
def tyOk (ci k : Nat) : Bool := (fty ci k == 0 && decide (parseFieldDescriptor (clT ci k).2.2.1 = some .int)) || (fty ci k == 1 && decide (parseFieldDescriptor (clT ci k).2.2.1 = some .boolean)) || (fty ci k == 2 && decide (parseFieldDescriptor (clT ci k).2.2.1 = some .char))
  || (fty ci k == 3 && decide (parseFieldDescriptor (clT ci k).2.2.1 = some .long)) || (fty ci k == 5 && (match parseFieldDescriptor (clT ci k).2.2.1 with
    | some (.object _) => true
    | some (.array _) => true
    | _ => false))
theorem cls_ty : (List.range 9).all (fun ci => (List.range (clN ci)).all (fun k => tyOk ci k)) = true := by decide +kernel
theorem cls_ws : (List.range 9).all (fun ci => (u_ws (cnm ci) (clT ci) (clN ci)).all (fun w => decide (w ∈ lw_tbl) && okw w)) = true := by decide +kernel
theorem cls_nm : (List.range 9).all (fun ci => (List.range (clN ci)).all (fun a => (List.range (clN ci)).all (fun b => a == b || decide ((clT ci a).2.1 ≠ (clT ci b).2.1)))) = true := by decide +kernel
theorem cls_ini : (List.range 9).all (fun ci => decide (Cond.instantiable (cnm ci) (clN ci) ∈ lw_tbl) && decide (Cond.initialized (cnm ci) ∈ lw_tbl) && decide (fNs ci = clN ci)) = true := by decide +kernel
theorem exn_ini : (List.range 5).all (fun k => decide (Cond.initialized (enm k) ∈ lw_tbl) && Bundle.fit (enm k) && decide (Cond.castable (enm k) (enm k) ∈ lw_tbl)) = true := by decide +kernel
theorem vw_at {ci : Nat} (h : ci ≤ 8) : awCl[ci]? = some (cnm ci, clT ci, clN ci) := by
  match ci, h with
  | 0, _ => rfl
  | 1, _ => rfl
  | 2, _ => rfl
  | 3, _ => rfl
  | 4, _ => rfl
  | 5, _ => rfl
  | 6, _ => rfl
  | 7, _ => rfl
  | 8, _ => rfl
theorem all_lt {n : Nat} {f : Nat → Bool} (h : (List.range n).all f = true) {k : Nat} (hk : k < n) : f k = true := List.all_eq_true.mp h k (List.mem_range.mpr hk)
/-- the class of int[][] -/
def kcc (cT : Nat → ClassId) (U : State) : Prop := ∃ k, U.vm.classes[cT 8]? = some k ∧ k.kind = .array (cT 0) (.array .int)
/-- the law's text, and what charAt reads of it -/
def kst (cT : Nat → ClassId) (A : Nat → Prop) (U : State) (H : Heap) : Prop := vk_S 1 [3] [[102, 106, 115]] (fun _ => cT 20) (fun _ => cT 21) A U H ∧ va_Z "java/lang/String" "COMPACT_STRINGS" "Z" (.int 1) A U H ∧ va_Zq "jdk/internal/util/Preconditions" "SIOOBE_FORMATTER" "Ljava/util/function/BiFunction;" A U H
/-- what the tables say, kept -/
def KK (G : AG) (U : State) : Prop := (∀ w ∈ lw_tbl, okw w = true → ∀ A, w.before A U = true) ∧ (∀ e ∈ lkS, ∃ sa, vk_R (cnm e.1) e.2.1 e.2.2.1 sa U) ∧ (∀ i j, i < 5 → j < 5 → i ≠ j → va_Nc (enm i) (enm j) U)
  ∧ va_K G.2.2.2.2.1 awCl (tysA G.2.2.2.2.2) U ∧ (∀ t, 5 ≤ t → t ≤ 7 → va_AO (aElm t) U) ∧ kcc G.2.2.2.2.2 U ∧ vk_R "DeckmillLaw" 135 "fjs" (G.2.2.2.2.2 20) U
/-- .. and of the heap -/
def KH (G : AG) (U : State) (H : Heap) : Prop := va_X G.2.1 G.2.2.1 G.2.2.2.1 U H ∧ G.2.1 < G.1 ∧ G.2.2.1 < 2 ^ 31 ∧ vx_Zq Bundle.tN "UNASSIGNED_STACK" Bundle.steD (gA G) U H ∧ vx_Zq Bundle.tN "SUPPRESSED_SENTINEL" Bundle.listD (gA G) U H ∧ kst G.2.2.2.2.2 (gA G) U H
theorem okw_warm {w : Cond} (hw : okw w = true) {s U : State} (hW : s.WarmedH U.vm) (h : ∀ A, w.before A s = true) : ∀ A, w.before A U = true := by
  intro A
  simp only [okw, Bool.or_eq_true] at hw
  rcases hw with hw | hw
  · exact word_at hW (good_of_word hw) (h #[])
  · cases w <;> first | (cases hw; done) | skip
    all_goals first | exact va_Nw.use rfl (va_Nw.warmF hW (va_Nw.of rfl (h #[]))) | exact va_Nw.use rfl (va_Nw.warmM hW (va_Nw.of rfl (h #[]))) | exact va_Nw.use rfl (va_Nw.warmD hW (va_Nw.of rfl (h #[]))) | exact va_Nw.use rfl (va_Nw.warmC hW (va_Nw.of rfl (h #[])))
theorem KK.warm {G : AG} {s U : State} (h : KK G s) (hW : s.WarmedH U.vm) : KK G U := by
  obtain ⟨h1, h2, h3, h4, h5, ⟨k9, h6, h7⟩, h8⟩ := h
  obtain ⟨k8, e1, e2⟩ := hW.alike.2.2 _ _ h6
  refine ⟨fun w hw ho => okw_warm ho hW (h1 w hw ho), fun e he => ?_, fun i j hi hj n => va_Nc.moved hW.alike (h3 i j hi hj n), va_K.moved hW.alike h4, fun t a b => va_AO.moved hW.alike (h5 t a b), ⟨k8, e1, by rw [e2]; exact h7⟩, vk_R.warm hW h8⟩
  obtain ⟨sa, hsa⟩ := h2 e he
  exact ⟨sa, vk_R.warm hW hsa⟩
theorem KH.kept {G : AG} {s U : State} {H H1 : Heap} (h : KH G s H) (hvm : s.vm.Alike U.vm) (hz : G.1 ≤ H.size) (hq : ∀ q : Nat, q < H.size → ¬ gA G q → H1[q]? = H[q]?) : KH G U H1 := by
  obtain ⟨h1, h2, h3, h4, h5, h6, h7, h8⟩ := h
  exact ⟨va_X.moved hvm (h1.kept (hq _ (Nat.lt_of_lt_of_le h2 hz) (Nat.not_le.mpr h2))), h2, h3, vx_Zq.moved hvm (h4.kept hq), vx_Zq.moved hvm (h5.kept hq), vk_S.moved hvm (h6.kept hq), va_Z.moved hvm (h7.kept hq), va_Zq.moved hvm (h8.kept hq)⟩
theorem lw_of {p : Nat} {w : Cond} (h : lw_tbl[p]? = some w) : w ∈ lw_tbl := List.mem_of_getElem? h
/-- a write at one address -/
theorem HR.put {G : AG} {M M' : AMem} {H H' : Heap} {a : Nat} (h : HR G M H) (hz : H'.size = H.size) (hq : ∀ q, q ≠ a → H'[q]? = H[q]?) (hN : mN M' = mN M) (hT : ∀ q, mT M' q = mT M q)
    (hM : ∀ q, q ≠ a → mI M' q = mI M q ∧ mL M' q = mL M q ∧ mD M' q = mD M q ∧ mR M' q = mR M q) (ha : hrA G M' H' a) : HR G M' H' := by
  obtain ⟨h1, h2, h3⟩ := h
  refine ⟨by rw [hz, hN]; exact h1, by rw [hN]; exact h2, fun q => ?_⟩
  by_cases e : q = a
  · subst e; exact ha
  · have h4 := h3 q
    obtain ⟨e1, e2, e3, e4⟩ := hM q e
    obtain ⟨base, b, L, xs, D, cT⟩ := G
    simp only [hrA, hT, fval, arrOf, e1, e2, e3, e4] at h4 ⊢
    rcases h4 with h4 | ⟨x1, x2, x3⟩ | ⟨x1, x2, x3⟩ | h4
    · exact Or.inl h4
    · exact Or.inr (Or.inl ⟨x1, x2, x3.kept (hq q e)⟩)
    · exact Or.inr (Or.inr (Or.inl ⟨x1, x2, (hq q e).trans x3⟩))
    · exact Or.inr (Or.inr (Or.inr h4))
/-- a new cell -/
theorem HR.push {G : AG} {M : AMem} {H H' : Heap} {k n sl : Nat} (h : HR G M H) (hz : H'.size = mN M + 1) (hq : ∀ q, q < mN M → H'[q]? = H[q]?) (ha : hrA G (stN M k n sl) H' (mN M)) : HR G (stN M k n sl) H' := by
  obtain ⟨h1, h2, h3⟩ := h
  refine ⟨hz, Nat.le_trans h2 (Nat.le_succ _), fun q => ?_⟩
  by_cases e : q = mN M
  · subst e; exact ha
  · have h4 := h3 q
    obtain ⟨base, b, L, xs, D, cT⟩ := G
    have e1 : mT (stN M k n sl) q = mT M q := va_up_ne _ _ e
    have e2 : mI (stN M k n sl) q = mI M q := va_up_ne _ _ e
    have e3 : mL (stN M k n sl) q = mL M q := va_up_ne _ _ e
    have e4 : mD (stN M k n sl) q = mD M q := va_up_ne _ _ e
    have e5 : mR (stN M k n sl) q = mR M q := va_up_ne _ _ e
    simp only [hrA, fval, arrOf, e1, e2, e3, e4, e5] at h4 ⊢
    rcases h4 with h4 | ⟨x1, x2, x3⟩ | ⟨x1, x2, x3⟩ | h4
    · exact Or.inl h4
    · obtain ⟨cell, c1, c2⟩ := x3
      have hl : q < H.size := (Array.getElem?_eq_some_iff.mp c1).1
      exact Or.inr (Or.inl ⟨x1, x2, cell, by rw [hq q (by rw [← h1]; exact hl)]; exact c1, c2⟩)
    · have hl : q < H.size := (Array.getElem?_eq_some_iff.mp x3).1
      exact Or.inr (Or.inr (Or.inl ⟨x1, x2, by rw [hq q (by rw [← h1]; exact hl)]; exact x3⟩))
    · exact Or.inr (Or.inr (Or.inr h4))
