/-! THE CLAIM OUT OF ONE WALK OF THE LAW'S BODY. Your part is whole_start (and what it stands on); all else here is the same for every law, but numbers. -/
def R_law : String := "DeckmillLaw"
def lw_P (b : Addr) (xs : List Int32) (args : Array Value) (s : State) : Prop := args = #[.ref b] ∧ s.IntsAt b xs ∧ xs.length ≤ 2560 ∧ (Jvm.Cond.and given_1 narrow_1).before args s = true
/-- what a walk over the start with the record d0 says of its end, said of the start itself -/
theorem lw_closed {s t : State} {o : Outcome} {d0 : Drawn} {L : List Loc} {k n : Nat} (hd0 : s.drawn.sameBut d0 lw_cs) (hv : ∃ v, o = .returned v) (hW : (s.setDrawn d0).WarmedH t.vm) (hs : (s.setDrawn d0).sameButNew ({ t with vm := s.vm } : State) L k n) : State.butDraws s t lw_cs (fun t1 => Framed s o t1 L k n) := by
  have h2 : t.drawn = d0 := congrArg State.drawn hs.1
  refine ⟨⟨hv, hW, State.sameButNew.setDrawn hs s.drawn⟩, ?_, by decide⟩
  rw [h2]
  exact hd0
def lw_Q (_ : Array Value) (s : State) (o : Outcome) (t : State) : Prop := o = .returned (some (.int 1)) ∧ State.butDraws s t lw_cs (fun t1 => Framed s o t1 [] 601024 7293033)
def lw_Z (below : List Frame) (a : Array Value) (s : State) : State → Prop := fun t => ∃ o, t.status = .running ∧ Ended t below o ∧ lw_Q a s o t
/-- the law's own end, with 1 on the stack, nothing written that was there before, its room as the claim has it; d0: the record of draws at this point (at the entry s.drawn: begin with 'refine W.base ?_' and 'have hd0 := Drawn.sameBut.refl s.drawn lw_cs') -/
theorem lw_ret {p : Program} {l : Launch} {e : Env} {s : State} {m : MethodId} {below : List Frame} {meth : Method} {c : Code} {b : Nat} {d0 : Drawn} (hd0 : s.drawn.sameBut d0 lw_cs) (hx : p.tables.exec = Jvm.exec) (hb : c.code = code) (hr : meth.sig.returnType = ret) (hlocks : meth.locks = false) {pc : Nat} {H : Heap} {ls : Array Slot} (hdg : decode code pc = .ok (.ireturn, 1)) : W p l e room_1 (s.setDrawn d0) m #[Value.ref b] below meth c H [] 601024 7293033 (lw_Z below #[Value.ref b] s) (F0 m pc ls [.int 1]) := by
  intro T hT X
  obtain ⟨fs, hret, hrun, hended, hW, hframe⟩ := X.leave (v := some (.int 1)) (hlocks := hlocks) (fun h => by rw [hr] at h; cases h)
  have hmeth' : T.vm.method? m = some meth := X.method'
  refine ⟨T.setFrames fs, ?_, .returned (some (.int 1)), hrun, hended, rfl, lw_closed hd0 ⟨_, rfl⟩ hW hframe⟩
  jvm_step X.here [X.here.top, hx, hb, hdg, hmeth', hr, ret, narrow_b1]
  (try refine ⟨rfl, ?_⟩); (try refine ⟨rfl, ?_⟩)
  first | (intro acts; rw [hret _ acts rfl rfl rfl]) | rw [hret _ _ rfl rfl rfl]
  exact Steps.refl _
/-- what holds at the law's entry: the machine, the code, the tables' words (any of lw_tbl by 'hts w (by decide +kernel)'), the script of L ints xs at the cell b, what the Statement gives of the start (any of its parts by flat_of_before) -/
def lw_At (p : Program) (s : State) (m : MethodId) (meth : Method) (c : Code) (b L : Nat) (xs : Nat → Int32) : Prop :=
  p.tables.exec = Jvm.exec ∧ c.code = code ∧ meth.sig.returnType = ret ∧ c.maxLocals = 9 ∧ s.vm.findClass R_law = some m.cls ∧ (∀ w ∈ lw_tbl, w.before #[Value.ref b] s = true) ∧ va_X b L xs s s.heap ∧ b < s.heap.size ∧ meth.locks = false ∧ (Jvm.Cond.and given_1 narrow_1).before #[Value.ref b] s = true
/-! ===== the claim, out of a run of the abstract machine ===== -/
theorem narS : lkS.all (fun e => decide (Cond.exactly (.string (cnm e.1) e.2.1) "java/lang/String" ∈ flatC (Jvm.Cond.and given_1 narrow_1))) = true := by decide +kernel
theorem narC : (List.range 5).all (fun i => (List.range 5).all (fun j => i == j || decide (Cond.not (.castable (enm i) (enm j)) ∈ flatC (Jvm.Cond.and given_1 narrow_1)))) = true := by decide +kernel
theorem narR : decide (Cond.isRef (.static Bundle.tN "UNASSIGNED_STACK" Bundle.steD) ∈ flatC (Jvm.Cond.and given_1 narrow_1)) && decide (Cond.isRef (.static Bundle.tN "SUPPRESSED_SENTINEL" Bundle.listD) ∈ flatC (Jvm.Cond.and given_1 narrow_1))
  && decide (Cond.laysStatic Bundle.tN "UNASSIGNED_STACK" Bundle.steD ∈ lw_tbl) && decide (Cond.laysStatic Bundle.tN "SUPPRESSED_SENTINEL" Bundle.listD ∈ lw_tbl) && decide (Cond.initialized Bundle.tN ∈ lw_tbl) = true := by decide +kernel
theorem lawC : mC lawM = code ∧ mMx lawM = 9 ∧ mRt lawM = ret ∧ cnm (mOw lawM) = R_law ∧ mKd lawM = 0 ∧ mTh lawM = false ∧ (mHn lawM).isEmpty = true ∧ mLv lawM ≤ 11 ∧ mLo lawM ≤ 402 := ⟨rfl, rfl, rfl, rfl, rfl, rfl, rfl, by decide, by decide⟩
theorem okw_any {w : Cond} (hw : okw w = true) {s : State} {A0 : Array Value} (h : w.before A0 s = true) : ∀ A, w.before A s = true := by
  intro A
  simp only [okw, Bool.or_eq_true] at hw
  rcases hw with hw | hw
  · exact word_at (State.WarmedH.refl s) (good_of_word hw) h
  · cases w <;> first | (cases hw; done) | skip
    all_goals exact va_tabs rfl rfl h
/-- the memory at the law's entry: the script alone -/
def M00 (base b L : Nat) (xs : Nat → Int32) : AMem := (fun a => if a = b then (200, L) else (0, 0), fun a => if a = b then xs else fun _ => 0, fun _ _ => 0, fun _ _ => 0, fun _ _ => none, base, 0)
theorem aArr {s : State} {t : Nat} (ht : t ≤ 4) (hA : ∀ w ∈ lw_tbl, okw w = true → ∀ A, w.before A s = true) : ∃ cA, ArrOfT s cA (aTy t) ∧ va_RA s cA (aTy t) := by
  have h0 := arrW
  simp only [Bool.and_eq_true, decide_eq_true_eq] at h0
  obtain ⟨⟨⟨⟨⟨⟨⟨h1, h2⟩, h3⟩, h4⟩, h5⟩, -⟩, -⟩, -⟩ := h0
  have hw : Cond.arrayClass (aTy t) ∈ lw_tbl := by
    have h : t = 0 ∨ t = 1 ∨ t = 2 ∨ t = 3 ∨ t = 4 := by omega
    rcases h with rfl | rfl | rfl | rfl | rfl
    · exact h1
    · exact h2
    · exact h3
    · exact h4
    · exact h5
  obtain ⟨c, k, comp, g1, g2, g3⟩ := Cond.arrayClass_spec (args := #[]) (first := s) (o := none) (s := s) (idx := []) (hA _ hw okw_ac #[])
  refine ⟨c, fun n z => ⟨fun k h => (by cases h), k, g2, comp, g3⟩, ?_⟩
  have h : t = 0 ∨ t = 1 ∨ t = 2 ∨ t = 3 ∨ t = 4 := by omega
  rcases h with rfl | rfl | rfl | rfl | rfl <;> exact g1
theorem aArr2 {s : State} {t : Nat} (ht : 5 ≤ t) (ht2 : t ≤ 7) (h : va_AO (aElm t) s) : ∃ cA, ArrOfT s cA (aTy t) ∧ va_RA s cA (aTy t) := by
  obtain ⟨comp, c, k, g1, g2, g3, g4, g5⟩ := Cond.arrayOver_spec (va_AO.use (A := #[]) h)
  have e : aTy t = .object (aElm t) := by
    have h : t = 5 ∨ t = 6 ∨ t = 7 := by omega
    rcases h with rfl | rfl | rfl <;> rfl
  rw [e]
  exact ⟨c, fun n z => ⟨fun k h => (by cases h), k, g3, comp, g4⟩, k, comp, g3, g4, g1, g5⟩
set_option maxHeartbeats 4000000 in
/-- what the abstract machine answers at the law is what the law does -/
theorem start_of {p : Program} {e : Env} {s : State} {m : MethodId} {below : List Frame} {meth : Method} {c : Code} (l : Launch) (hflags : l.flags = flags0) {b L : Nat} {xs : Nat → Int32} (hL : L ≤ 2560) (C0 : lw_At p s m meth c b L xs)
    (hrun : ∃ n Mf, amExec n lawM 0 [(0, .ref b)] [] (M00 s.heap.size b L xs) = some (Mf, .inl (some (.int 1))) ∧ mN Mf ≤ s.heap.size + 601024 ∧ mS Mf ≤ 7293033) : W p l e room_1 s m #[Value.ref b] below meth c s.heap [] 0 0 (lw_Z below #[Value.ref b] s) (entryFrame m ([Value.ref b] : List Value).toArray 9) := by
  obtain ⟨hx, hb, hr, hml, hown, hts, hX, hbl, hlocks, hgv⟩ := id C0
  obtain ⟨n, Mf, hex, hN, hSl⟩ := hrun
  have hnar := flat_of_before _ hgv
  obtain ⟨l1, l2, l3, l4, l5, l6, l7, l8, l9⟩ := lawC
  have hW1 : ∀ w ∈ lw_tbl, okw w = true → ∀ A, w.before A s = true := fun w hw ho => okw_any ho (hts w hw)
  have hcl : ∀ k : Nat, ∃ z : ClassId × (Nat → Nat), k ≤ 8 → u_Kn s (cnm k) (clT k) (clN k) z.1 z.2 := by
    intro k
    by_cases hk : k ≤ 8
    · have h9 := all_lt cls_ini (show k < 9 by omega)
      simp only [Bool.and_eq_true, decide_eq_true_eq] at h9
      obtain ⟨c9, i9, h⟩ := u_known (ws := u_ws (cnm k) (clT k) (clN k)) (C := cnm k) (T := clT k) (N := clN k) (n := clN k) (args := #[Value.ref b]) (s := s) (fun w hw => by
        have h1 := List.all_eq_true.mp (all_lt cls_ws (show k < 9 by omega)) w hw
        simp only [Bool.and_eq_true, decide_eq_true_eq] at h1
        exact hts w h1.1) (fun w hw => hw) (hts _ h9.1.1)
      exact ⟨(c9, i9), fun _ => h⟩
    · exact ⟨(0, fun _ => 0), fun h => absurd h hk⟩
  obtain ⟨z, hz⟩ := Classical.axiomOfChoice hcl
  have h0 := arrW
  simp only [Bool.and_eq_true, decide_eq_true_eq] at h0
  have hAO : ∀ t, 5 ≤ t → t ≤ 7 → va_AO (aElm t) s := by
    intro t h5 h7
    have h : t = 5 ∨ t = 6 ∨ t = 7 := by omega
    rcases h with rfl | rfl | rfl
    · exact va_AO.of (hts _ h0.1.1.2)
    · exact va_AO.of (hts _ h0.1.2)
    · exact va_AO.of (hts _ h0.2)
  have har : ∀ t : Nat, ∃ cA : ClassId, t ≤ 7 → ArrOfT s cA (aTy t) ∧ va_RA s cA (aTy t) := by
    intro t
    by_cases h4 : t ≤ 4
    · obtain ⟨cA, h⟩ := aArr h4 hW1
      exact ⟨cA, fun _ => h⟩
    · by_cases h7 : t ≤ 7
      · obtain ⟨cA, h⟩ := aArr2 (by omega) h7 (hAO t (by omega) h7)
        exact ⟨cA, fun _ => h⟩
      · exact ⟨0, fun h => absurd h h7⟩
  obtain ⟨cT, hcT⟩ := Classical.axiomOfChoice har
  generalize hG : ((s.heap.size, b, L, xs, (fun k => (z k).1, fun k => (z k).2), cT) : AG) = G
  have g1 : G.1 = s.heap.size := by rw [← hG]
  have hA : ∀ a : Nat, a < s.heap.size → ¬ gA G a := fun a ha => by unfold gA; rw [g1]; omega
  have hR := narR
  simp only [Bool.and_eq_true, decide_eq_true_eq] at hR
  have hKK : KK G s := by
    refine ⟨hW1, fun e9 he => ?_, fun i j hi hj hn => ?_, ⟨fun k q hq => ?_, fun k q hq => ?_⟩, hAO⟩
    · have h1 := of_decide_eq_true (List.all_eq_true.mp narS e9 he)
      obtain ⟨a, c9, cA, kA, q1, -⟩ := Cond.exactly_spec (args := #[Value.ref b]) (first := s) (o := none) (s := s) (idx := []) (hnar _ h1)
      have h2 := of_decide_eq_true (List.all_eq_true.mp lkS_ok e9 he)
      exact ⟨a, vk_R.of (hts _ (lw_of h2)) q1⟩
    · have h1 := all_lt (all_lt narC hi) hj
      simp only [Bool.or_eq_true, beq_iff_eq, decide_eq_true_eq] at h1
      exact va_Nc.of (hnar _ (h1.resolve_left hn))
    · have hk : k ≤ 8 := by
        have hlt := (List.getElem?_eq_some_iff.mp hq).1
        have e9 : vwCl.length = 9 := rfl
        omega
      rw [vw_at hk] at hq
      cases hq
      rw [← hG]
      exact hz k hk
    · have hk : k ≤ 7 := by
        have hlt := (List.getElem?_eq_some_iff.mp hq).1
        unfold tysA at hlt
        rw [List.length_map, List.length_range] at hlt
        omega
      rw [tys_at hk] at hq
      cases hq
      rw [← hG]
      exact hcT k hk
  have hKH : KH G s s.heap := by
    refine ⟨by rw [← hG]; exact hX, by rw [← hG]; exact hbl, by rw [← hG]; show L < 2 ^ 31; omega, ?_, ?_⟩
    · exact vx_Zqof (hts _ hR.1.1.2) (hts _ hR.2) (hnar _ hR.1.1.1.1) hA
    · exact vx_Zqof (hts _ hR.1.2) (hts _ hR.2) (hnar _ hR.1.1.1.2) hA
  have hHR : HR G (M00 s.heap.size b L xs) s.heap := by
    refine ⟨rfl, by rw [g1]; exact Nat.le_refl _, fun a => ?_⟩
    rw [← hG]
    by_cases ha : a = b
    · refine Or.inr (Or.inr (Or.inr ⟨?_, ha, ?_, ?_⟩)) <;> simp [M00, mT, mI, ha]
    · exact Or.inl (by simp [M00, mT, ha])
  have hWr : s.WarmedH (s.setDrawn s.drawn).vm := State.WarmedH.refl s
  have htr : l.stackTraces = false := by
    have : l.stackTraces = !(l.flags.contains noTraceFlag) := rfl
    rw [this, hflags]
    decide
  have k1 : mKd lawM = 2 → meth.name = "<init>" := fun h => absurd (l5.symm.trans h) (by decide)
  have k2 : (mTh lawM = true ∨ (mHn lawM).isEmpty = false) → c.exceptionTable.toList = tableOf ((mHn lawM).map (fun h => (h.1, h.2.1, h.2.2.1, h.2.2.2.1))) := by
    intro h
    rcases h with h | h
    · exact absurd (l6.symm.trans h) (by decide)
    · exact absurd (l7.symm.trans h) (by decide)
  have F : FX G lawM p l room_1 (s.setDrawn s.drawn) m meth c := ⟨hx, by rw [hb, l1], by rw [hml, l2], by rw [l4]; exact hown, k1, l8, l9, hKK.warm hWr, hKH.kept hWr.alike (Nat.le_of_eq g1) (fun _ _ _ => rfl), Nat.le_of_eq g1, hlocks, htr, k2, by rw [hr, l3], Nat.le_refl _⟩
  have hd0 := Drawn.sameBut.refl s.drawn lw_cs
  refine W.base ?_
  have hl := lv_entry ([.ref b]) (n := 9) (Nat.le_of_ble_eq_true rfl)
  rw [lg_entry_eq]
  generalize (lg_sl ([.ref b]) ++ List.replicate (9 - (lg_sl ([.ref b])).length) Slot.unset).toArray = lsC at hl ⊢
  refine exec_all htr n lawM 0 _ [] _ _ hex p e room_1 (s.setDrawn s.drawn) m #[Value.ref b] below meth c s.heap [] 0 0 _ lsC s.heap.size 0 F (by rw [l2]; exact hl) hHR va_S.rf (Nat.zero_add _) rfl hN (by show mS Mf ≤ 0 + 7293033; omega) ?_ ?_
  · intro v hv pc9 len9 i9 ls9 lsC9 H9 locs9 cells9 slots9 hio hst hH9 hS9 hc9 hs9
    cases hv
    have hi : i9 = .ireturn := by
      cases i9 <;> first | rfl | skip
      all_goals (simp only [sStep, amStep, a_nx, a_ii, a_jj, a_ji, a_ld, a_st, a_if, a_ald, a_call] at hst; (repeat' split at hst); all_goals first | (cases hst; done) | (rename_i h; cases h; done))
    subst hi
    obtain ⟨hd, -, -⟩ := ins_plain rfl hio
    rw [l1] at hd
    refine va_forget (fun q hq => ?_) ?_
    · have := hS9.2.2 q hq
      unfold gA at this
      rw [g1] at this
      exact this
    · dsimp only at hN hSl hc9 hs9
      refine W.widen (k := 601024) (n := 7293033) (by omega) (by omega) ?_
      exact lw_ret hd0 hx hb hr hlocks hd
  · intro k hk
    cases hk
