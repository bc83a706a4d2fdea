/-! ===== throws, returns, and one step of any instruction ===== -/
section WT
variable {p : Program} {l : Launch} {e : Env} {R : Room} {s : State} {m : MethodId} {args : Array Value} {below : List Frame} {meth : Method} {c : Code} {H : Heap} {locs : List Loc} {cells slots : Nat} {Q : State → Prop}
variable {mc ms : Nat} {free : Addr → Prop} {A0 A1 : Nat → Prop} {H0 : Heap} {a : Array Value} {ls : Array Slot} {st0 rest : List Value}
variable {Qc : Array Value → State → Outcome → State → Prop} {XC : String → State → State → Prop}
theorem w_throwS {cc : ByteArray} {pc : Nat} (hexec : p.tables.exec = Jvm.exec) (hb : c.code = cc) (hl : l.stackTraces = false) {own cls text : String} {names : List String} {ik is ic mc ms sa : Nat} {A : Nat → Prop}
    (hown : s.vm.findClass own = some m.cls) (hcls : Bundle.fit cls = true) (hnames : ∀ n ∈ names, Bundle.fit n = true)
    (hk : (Cond.classLink own ik cls).before args s = true) (hini : (Cond.initialized cls).before args s = true) (hstr : vk_R own is text sa s) (hat : ∀ w ∈ vx_atS own ic cls names, w.before args s = true)
    (hgood : ∀ w ∈ Cond.classLink own ik cls :: Cond.initialized cls :: vx_atS own ic cls names, vx_ot w = true)
    (hU : vx_Zq Bundle.tN "UNASSIGNED_STACK" Bundle.steD A s s.heap) (hN : vx_Zq Bundle.tN "SUPPRESSED_SENTINEL" Bundle.listD A s s.heap) (hS : va_S A s.heap H locs) (hsize : ls.size = c.maxLocals)
    (d0 : decode cc pc = .ok (.new ik, 3)) (d3 : decode cc (pc + 3) = .ok (.dup, 1)) (d4 : decode cc (pc + 4) = .ok (.ldc is, 2)) (d6 : decode cc (pc + 6) = .ok (.invokespecial ic, 3)) (d9 : decode cc (pc + 9) = .ok (.athrow, 1))
    (hout : ∀ x ∈ c.exceptionTable.toList, covers x (pc + 9) = false)
    (hRframes : names.length + 3 < R.frames) (hRlocals : (rest.map fun v => v.category).sum + (13 * (names.length + 1) + 43) ≤ R.locals) (hRcells : cells + 1 ≤ R.cells) (hRslots : slots + 6 ≤ R.slots) (hlocks : meth.locks = false)
    (hx : ∀ t : State, s.vm.Alike t.vm → t.heap.size = H.size + 1 → (∀ q : Nat, q < H.size → t.heap[q]? = H[q]?) → XC cls s t)
    (hf : ∀ z ∈ locs, free z.base) (hc : cells + 1 ≤ mc) (hs : slots + 6 ≤ ms) :
    W p l e R s m args below meth c H locs cells slots (vx_MQ below Qc XC args s mc ms free) (F0 m pc ls rest) := by
  intro T hT X
  have htr : e.platform.stackTraces = false := (show e.platform.stackTraces = l.stackTraces by rw [X.admits.platform]).trans hl
  have Y := vx_rebase X (R' := { frames := R.frames, locals := R.locals, cells := 1, slots := 6 }) (Nat.le_refl _) (Nat.le_refl _) hRcells hRslots
  obtain ⟨s', hA⟩ : ∃ z, z = (T.setVm s.vm).setFrames (.invoking m args :: below) := ⟨_, rfl⟩
  rw [← hA] at Y
  have hvm : s'.vm = s.vm := by rw [hA]; rfl
  have hhp : s'.heap = H := by rw [hA]; exact hT
  have hW0 : s.WarmedH s'.vm := by rw [hvm]; exact State.WarmedH.refl s
  have hat' : ∀ w ∈ vx_atS own ic cls names, w.before args s' = true := fun w hw => vx_ot_at hW0 hvm.symm (hgood w (List.mem_cons_of_mem _ (List.mem_cons_of_mem _ hw))) (hat w hw)
  have hk' : (Cond.classLink own ik cls).before args s' = true := vx_ot_at hW0 hvm.symm (hgood _ List.mem_cons_self) hk
  have hini' : (Cond.initialized cls).before args s' = true := vx_ot_at hW0 hvm.symm (hgood _ (List.mem_cons_of_mem _ List.mem_cons_self)) hini
  have hU' : vx_Zq Bundle.tN "UNASSIGNED_STACK" Bundle.steD A s' s'.heap := by rw [hhp]; exact vx_Zq.moved hW0.alike (hU.kept hS.2.1)
  have hN' : vx_Zq Bundle.tN "SUPPRESSED_SENTINEL" Bundle.listD A s' s'.heap := by rw [hhp]; exact vx_Zq.moved hW0.alike (hN.kept hS.2.1)
  have h : ∀ w ∈ Bundle.ownAtoms own ic cls names, w.before args s' = true := vx_own hat' (vx_isRefq hU'.1) (vx_isRefq hN'.1) hU'.2.word hN'.2.word
  have hown' : s'.vm.findClass own = some m.cls := by rw [hvm]; exact hown
  have hins : (Cond.instantiable cls 6).before args s' = true := h _ (by simp [Bundle.ownAtoms])
  obtain ⟨vm₁, cX, kX, hfX, hkX, -, -, X₁, st1⟩ := Y.newCold hexec (own := own) (C := cls) (index := ik) (n := 6) hown' hk' hins hini'
    (g := F0 m pc ls rest) rfl (by rw [hb]; exact d0) (Nat.le_refl _) (Nat.le_refl _)
  generalize hT1 : (T.setVm vm₁).pushCell { cls := cX, slots := kX.instanceTypes.map defaultValue, vm := .none } = T1 at X₁ st1
  have hcat : (Value.ref T.heap.size).category = 1 := rfl
  have hcellA : T1.heap[T.heap.size]? = some (freshCell cX kX) := by rw [← hT1]; exact State.heap_pushCell_size _ _
  have d3' : decode c.code (pc + 3) = .ok (.dup, 1) := by rw [hb]; exact d3
  have d4' : decode c.code (pc + 4) = .ok (.ldc is, 2) := by rw [hb]; exact d4
  have hstr' : vk_R own is text sa s' := vk_R.warm hW0 hstr
  obtain ⟨U, hsteps, hrun, hend, hW, hsame, ce, hce, hO⟩ := X₁.ctorThrowS hexec htr (own := own) (cls := cls) (names := names) (ic := ic) hown' hcls hnames h (fun x hx => nomatch hx) hfX hkX hcellA (by rw [hhp, hT]; exact Nat.le_refl _) (msg := .ref sa) rfl
    (g := { method := m, pc := pc + 6, locals := ls, stack := .ref sa :: .ref T.heap.size :: .ref T.heap.size :: rest, locked := none }) rfl hsize rfl rfl (rest := rest) rfl
    (by rw [hb]; exact d6) (by rw [hb]; exact d9) hout hRframes (by simp only [List.map_cons, List.sum_cons, hcat]; omega) hlocks
  obtain ⟨f1, f2⟩ := vx_frame hsame
  rw [hhp] at f1 f2
  have f9 : U.heap.size = H.size + 1 := by
    have g1 : U.heap.size ≤ s'.heap.size + (0 + 1) := hsame.2.2.1
    have g2 : T.heap.size < U.heap.size := (Array.getElem?_eq_some_iff.mp hce).1
    rw [hhp] at g1
    rw [hT] at g2
    omega
  have hWs : s.WarmedH U.vm := State.WarmedH.trans hW0 hW
  have hcl : s.vm.findClass cls = some ce.cls := by
    have h9 := hO.cls
    rw [hvm] at h9
    exact h9
  have hall : s.sameButNew ({ U with vm := s.vm } : State) locs mc ms := by
    subst hA
    obtain ⟨e1, e2⟩ := hsame
    rw [State.setFrames_setFrames] at e1
    have h2 : (T.setVm s.vm).sameButNew ({ U with vm := s.vm } : State) [] (0 + 1) (0 + 6) := ⟨e1, e2⟩
    have h3 := X.same.trans h2
    rw [List.append_nil] at h3
    exact h3.mono hc hs
  refine ⟨U, ?_, .threw T.heap.size, hrun, hend, Or.inr ⟨T.heap.size, rfl, cls, ce, locs, hx U hWs.alike f9 (fun q hq => f2 q hq (fun z hz => nomatch hz)), hce, hO.vm, hcl, hWs, hall, hf⟩⟩
  refine st1 _ ?_
  show Steps p.tables e below (T1.setTop { method := m, pc := pc + 3, locals := ls, stack := .ref T.heap.size :: rest, locked := none }) _
  jvm_step X₁.here [X₁.here.top, hexec, d3', Value.category]
  exact X₁.ldcString hexec (own := own) (text := text) (index := is) (a := sa) hown' hstr'.1 hstr'.2
    (g := { method := m, pc := pc + 4, locals := ls, stack := .ref T.heap.size :: .ref T.heap.size :: rest, locked := none }) rfl d4' _ hsteps
theorem w_throwSW {cc : ByteArray} {pc : Nat} (hexec : p.tables.exec = Jvm.exec) (hb : c.code = cc) (hl : l.stackTraces = false) {own cls text : String} {names : List String} {ik is ic mc ms sa : Nat} {A : Nat → Prop}
    (hown : s.vm.findClass own = some m.cls) (hcls : Bundle.fit cls = true) (hnames : ∀ n ∈ names, Bundle.fit n = true)
    (hk : (Cond.classLink own ik cls).before args s = true) (hini : (Cond.initialized cls).before args s = true) (hstr : vk_R own is text sa s) (hat : ∀ w ∈ vx_atS own ic cls names, w.before args s = true)
    (hgood : ∀ w ∈ Cond.classLink own ik cls :: Cond.initialized cls :: vx_atS own ic cls names, vx_ot w = true)
    (hU : vx_Zq Bundle.tN "UNASSIGNED_STACK" Bundle.steD A s s.heap) (hN : vx_Zq Bundle.tN "SUPPRESSED_SENTINEL" Bundle.listD A s s.heap) (hS : va_S A s.heap H locs) (hsize : ls.size = c.maxLocals)
    (d0 : decode cc pc = .ok (.new ik, 3)) (d3 : decode cc (pc + 3) = .ok (.dup, 1)) (d4 : decode cc (pc + 4) = .ok (.ldc_w is, 3)) (d7 : decode cc (pc + 7) = .ok (.invokespecial ic, 3)) (d10 : decode cc (pc + 10) = .ok (.athrow, 1))
    (hout : ∀ x ∈ c.exceptionTable.toList, covers x (pc + 10) = false)
    (hRframes : names.length + 3 < R.frames) (hRlocals : (rest.map fun v => v.category).sum + (13 * (names.length + 1) + 43) ≤ R.locals) (hRcells : cells + 1 ≤ R.cells) (hRslots : slots + 6 ≤ R.slots) (hlocks : meth.locks = false)
    (hx : ∀ t : State, s.vm.Alike t.vm → t.heap.size = H.size + 1 → (∀ q : Nat, q < H.size → t.heap[q]? = H[q]?) → XC cls s t)
    (hf : ∀ z ∈ locs, free z.base) (hc : cells + 1 ≤ mc) (hs : slots + 6 ≤ ms) :
    W p l e R s m args below meth c H locs cells slots (vx_MQ below Qc XC args s mc ms free) (F0 m pc ls rest) := by
  intro T hT X
  have htr : e.platform.stackTraces = false := (show e.platform.stackTraces = l.stackTraces by rw [X.admits.platform]).trans hl
  have Y := vx_rebase X (R' := { frames := R.frames, locals := R.locals, cells := 1, slots := 6 }) (Nat.le_refl _) (Nat.le_refl _) hRcells hRslots
  obtain ⟨s', hA⟩ : ∃ z, z = (T.setVm s.vm).setFrames (.invoking m args :: below) := ⟨_, rfl⟩
  rw [← hA] at Y
  have hvm : s'.vm = s.vm := by rw [hA]; rfl
  have hhp : s'.heap = H := by rw [hA]; exact hT
  have hW0 : s.WarmedH s'.vm := by rw [hvm]; exact State.WarmedH.refl s
  have hat' : ∀ w ∈ vx_atS own ic cls names, w.before args s' = true := fun w hw => vx_ot_at hW0 hvm.symm (hgood w (List.mem_cons_of_mem _ (List.mem_cons_of_mem _ hw))) (hat w hw)
  have hk' : (Cond.classLink own ik cls).before args s' = true := vx_ot_at hW0 hvm.symm (hgood _ List.mem_cons_self) hk
  have hini' : (Cond.initialized cls).before args s' = true := vx_ot_at hW0 hvm.symm (hgood _ (List.mem_cons_of_mem _ List.mem_cons_self)) hini
  have hU' : vx_Zq Bundle.tN "UNASSIGNED_STACK" Bundle.steD A s' s'.heap := by rw [hhp]; exact vx_Zq.moved hW0.alike (hU.kept hS.2.1)
  have hN' : vx_Zq Bundle.tN "SUPPRESSED_SENTINEL" Bundle.listD A s' s'.heap := by rw [hhp]; exact vx_Zq.moved hW0.alike (hN.kept hS.2.1)
  have h : ∀ w ∈ Bundle.ownAtoms own ic cls names, w.before args s' = true := vx_own hat' (vx_isRefq hU'.1) (vx_isRefq hN'.1) hU'.2.word hN'.2.word
  have hown' : s'.vm.findClass own = some m.cls := by rw [hvm]; exact hown
  have hins : (Cond.instantiable cls 6).before args s' = true := h _ (by simp [Bundle.ownAtoms])
  obtain ⟨vm₁, cX, kX, hfX, hkX, -, -, X₁, st1⟩ := Y.newCold hexec (own := own) (C := cls) (index := ik) (n := 6) hown' hk' hins hini'
    (g := F0 m pc ls rest) rfl (by rw [hb]; exact d0) (Nat.le_refl _) (Nat.le_refl _)
  generalize hT1 : (T.setVm vm₁).pushCell { cls := cX, slots := kX.instanceTypes.map defaultValue, vm := .none } = T1 at X₁ st1
  have hcat : (Value.ref T.heap.size).category = 1 := rfl
  have hcellA : T1.heap[T.heap.size]? = some (freshCell cX kX) := by rw [← hT1]; exact State.heap_pushCell_size _ _
  have d3' : decode c.code (pc + 3) = .ok (.dup, 1) := by rw [hb]; exact d3
  have d4' : decode c.code (pc + 4) = .ok (.ldc_w is, 3) := by rw [hb]; exact d4
  have hstr' : vk_R own is text sa s' := vk_R.warm hW0 hstr
  obtain ⟨U, hsteps, hrun, hend, hW, hsame, ce, hce, hO⟩ := X₁.ctorThrowS hexec htr (own := own) (cls := cls) (names := names) (ic := ic) hown' hcls hnames h (fun x hx => nomatch hx) hfX hkX hcellA (by rw [hhp, hT]; exact Nat.le_refl _) (msg := .ref sa) rfl
    (g := { method := m, pc := pc + 7, locals := ls, stack := .ref sa :: .ref T.heap.size :: .ref T.heap.size :: rest, locked := none }) rfl hsize rfl rfl (rest := rest) rfl
    (by rw [hb]; exact d7) (by rw [hb]; exact d10) hout hRframes (by simp only [List.map_cons, List.sum_cons, hcat]; omega) hlocks
  obtain ⟨f1, f2⟩ := vx_frame hsame
  rw [hhp] at f1 f2
  have f9 : U.heap.size = H.size + 1 := by
    have g1 : U.heap.size ≤ s'.heap.size + (0 + 1) := hsame.2.2.1
    have g2 : T.heap.size < U.heap.size := (Array.getElem?_eq_some_iff.mp hce).1
    rw [hhp] at g1
    rw [hT] at g2
    omega
  have hWs : s.WarmedH U.vm := State.WarmedH.trans hW0 hW
  have hcl : s.vm.findClass cls = some ce.cls := by
    have h9 := hO.cls
    rw [hvm] at h9
    exact h9
  have hall : s.sameButNew ({ U with vm := s.vm } : State) locs mc ms := by
    subst hA
    obtain ⟨e1, e2⟩ := hsame
    rw [State.setFrames_setFrames] at e1
    have h2 : (T.setVm s.vm).sameButNew ({ U with vm := s.vm } : State) [] (0 + 1) (0 + 6) := ⟨e1, e2⟩
    have h3 := X.same.trans h2
    rw [List.append_nil] at h3
    exact h3.mono hc hs
  refine ⟨U, ?_, .threw T.heap.size, hrun, hend, Or.inr ⟨T.heap.size, rfl, cls, ce, locs, hx U hWs.alike f9 (fun q hq => f2 q hq (fun z hz => nomatch hz)), hce, hO.vm, hcl, hWs, hall, hf⟩⟩
  refine st1 _ ?_
  show Steps p.tables e below (T1.setTop { method := m, pc := pc + 3, locals := ls, stack := .ref T.heap.size :: rest, locked := none }) _
  jvm_step X₁.here [X₁.here.top, hexec, d3', Value.category]
  exact X₁.ldcStringW hexec (own := own) (text := text) (index := is) (a := sa) hown' hstr'.1 hstr'.2
    (g := { method := m, pc := pc + 4, locals := ls, stack := .ref T.heap.size :: .ref T.heap.size :: rest, locked := none }) rfl d4' _ hsteps
end WT

theorem ins_plain {m pc len : Nat} {cc : ByteArray} {i : Instr} (hp : plainI i = true) (h : insOk m cc (pc, i, len) = true) : decode cc pc = .ok (i, plainL i) ∧ len = plainL i ∧ stIx i ≤ mMx m := by
  have h0 : (plainI i && decide ((dcI cc pc).1 = i) && (dcI cc pc).2 == plainL i && decide (stIx i ≤ mMx m) && (!plainI i || len == plainL i)) = true := by
    cases i <;> first | (exact absurd (show false = true from hp) Bool.false_ne_true) | exact h | (simp only [insOk, linOk] at h; exact h)
  simp only [Bool.and_eq_true, Bool.or_eq_true, Bool.not_eq_true', decide_eq_true_eq, beq_iff_eq] at h0
  obtain ⟨⟨⟨⟨h1, h2⟩, h3⟩, h4⟩, h5⟩ := h0
  have h6 := dc_ok h2 (by intro e; rw [e] at hp; cases hp)
  rw [h3] at h6
  exact ⟨h6, h5.resolve_left (by rw [h1]; decide), h4⟩

section DS
variable {G : AG} {mi : Nat} {p : Program} {l : Launch} {e : Env} {R : Room} {s : State} {m : MethodId} {args : Array Value} {below : List Frame} {meth : Method} {c : Code} {H : Heap} {locs : List Loc} {cells slots : Nat} {Q : State → Prop}
variable {lsC : Array Slot} {ls ls' : ALs} {st st' : List Value} {M M' : AMem} {pc pc' len n0 s0 : Nat}
set_option maxHeartbeats 4000000 in
/-- one step that goes on, whatever the instruction -/
theorem sn_all (F : FX G mi p l R s m meth c) {i : Instr} (hio : insOk mi (mC mi) (pc, i, len) = true) (hst : sStep mi i len pc ls st M = some (.inl (pc', ls', st', M'))) (hl : lv_has lsC (mMx mi) ls) (hH : HR G M H) (hS : va_S (gA G) s.heap H locs) (hc : cells + n0 = mN M) (hs : slots + s0 = mS M) (hb1 : mN M' ≤ n0 + R.cells) (hb2 : mS M' ≤ s0 + R.slots) (kk : Kon G mi p l e R s m args below meth c Q n0 s0 pc' ls' st' M') : W p l e R s m args below meth c H locs cells slots Q (F0 m pc lsC st) := by
  cases i
  case iconst n =>
    obtain ⟨hd, rfl, -⟩ := ins_plain rfl hio
    exact sn_iconst F hd hst hl hH hS hc hs hb1 hb2 kk
  case bipush n =>
    obtain ⟨hd, rfl, -⟩ := ins_plain rfl hio
    exact sn_bipush F hd hst hl hH hS hc hs hb1 hb2 kk
  case sipush n =>
    obtain ⟨hd, rfl, -⟩ := ins_plain rfl hio
    exact sn_sipush F hd hst hl hH hS hc hs hb1 hb2 kk
  case lconst n =>
    obtain ⟨hd, rfl, -⟩ := ins_plain rfl hio
    exact sn_lconst F hd hst hl hH hS hc hs hb1 hb2 kk
  case fconst n =>
    obtain ⟨hd, rfl, -⟩ := ins_plain rfl hio
    exact sn_fconst F hd hst hl hH hS hc hs hb1 hb2 kk
  case dconst n =>
    obtain ⟨hd, rfl, -⟩ := ins_plain rfl hio
    exact sn_dconst F hd hst hl hH hS hc hs hb1 hb2 kk
  case iload k =>
    obtain ⟨hd, rfl, -⟩ := ins_plain rfl hio
    exact sn_iload F hd hst hl hH hS hc hs hb1 hb2 kk
  case iload_n k =>
    obtain ⟨hd, rfl, -⟩ := ins_plain rfl hio
    exact sn_iload_n F hd hst hl hH hS hc hs hb1 hb2 kk
  case lload k =>
    obtain ⟨hd, rfl, -⟩ := ins_plain rfl hio
    exact sn_lload F hd hst hl hH hS hc hs hb1 hb2 kk
  case lload_n k =>
    obtain ⟨hd, rfl, -⟩ := ins_plain rfl hio
    exact sn_lload_n F hd hst hl hH hS hc hs hb1 hb2 kk
  case fload k =>
    obtain ⟨hd, rfl, -⟩ := ins_plain rfl hio
    exact sn_fload F hd hst hl hH hS hc hs hb1 hb2 kk
  case fload_n k =>
    obtain ⟨hd, rfl, -⟩ := ins_plain rfl hio
    exact sn_fload_n F hd hst hl hH hS hc hs hb1 hb2 kk
  case dload k =>
    obtain ⟨hd, rfl, -⟩ := ins_plain rfl hio
    exact sn_dload F hd hst hl hH hS hc hs hb1 hb2 kk
  case dload_n k =>
    obtain ⟨hd, rfl, -⟩ := ins_plain rfl hio
    exact sn_dload_n F hd hst hl hH hS hc hs hb1 hb2 kk
  case aload k =>
    obtain ⟨hd, rfl, -⟩ := ins_plain rfl hio
    exact sn_aload F hd hst hl hH hS hc hs hb1 hb2 kk
  case aload_n k =>
    obtain ⟨hd, rfl, -⟩ := ins_plain rfl hio
    exact sn_aload_n F hd hst hl hH hS hc hs hb1 hb2 kk
  case ixor =>
    obtain ⟨hd, rfl, -⟩ := ins_plain rfl hio
    exact sn_ixor F hd hst hl hH hS hc hs hb1 hb2 kk
  case iushr =>
    obtain ⟨hd, rfl, -⟩ := ins_plain rfl hio
    exact sn_iushr F hd hst hl hH hS hc hs hb1 hb2 kk
  case goto_w z =>
    simp only [insOk, linOk, Bool.and_eq_true] at hio
    obtain ⟨h1, -⟩ := hio
    split at h1
    · rename_i x hx9
      simp only [Bool.and_eq_true, beq_iff_eq] at h1
      have hd := dc_ok hx9 (fun h => by cases h)
      obtain ⟨q1, q2⟩ := h1
      rw [q2] at hd
      exact sn_goto_w F q1 hd hst hl hH hS hc hs hb1 hb2 kk
    · cases h1
  case multianewarray y d =>
    simp only [insOk, linOk, Bool.and_eq_true] at hio
    obtain ⟨h1, -⟩ := hio
    split at h1
    · rename_i x k hx9
      simp only [Bool.and_eq_true, beq_iff_eq, decide_eq_true_eq] at h1
      have hd := dc_ok hx9 (fun h => by cases h)
      obtain ⟨⟨⟨⟨q1, q2⟩, q3⟩, q4⟩, q5⟩ := h1
      rw [q3] at hd; subst q2; subst q4; subst q5
      exact sn_multi F q1 hd hst hl hH hS hc hs hb1 hb2 kk
    · cases h1
  case jsr_w z =>
    exact sn_chr F hio hst hl hH hS hc hs hb1 hb2 kk
  case iadd =>
    obtain ⟨hd, rfl, -⟩ := ins_plain rfl hio
    exact sn_iadd F hd hst hl hH hS hc hs hb1 hb2 kk
  case isub =>
    obtain ⟨hd, rfl, -⟩ := ins_plain rfl hio
    exact sn_isub F hd hst hl hH hS hc hs hb1 hb2 kk
  case imul =>
    obtain ⟨hd, rfl, -⟩ := ins_plain rfl hio
    exact sn_imul F hd hst hl hH hS hc hs hb1 hb2 kk
  case iand =>
    obtain ⟨hd, rfl, -⟩ := ins_plain rfl hio
    exact sn_iand F hd hst hl hH hS hc hs hb1 hb2 kk
  case ior =>
    obtain ⟨hd, rfl, -⟩ := ins_plain rfl hio
    exact sn_ior F hd hst hl hH hS hc hs hb1 hb2 kk
  case idiv =>
    obtain ⟨hd, rfl, -⟩ := ins_plain rfl hio
    exact sn_idiv F hd hst hl hH hS hc hs hb1 hb2 kk
  case irem =>
    obtain ⟨hd, rfl, -⟩ := ins_plain rfl hio
    exact sn_irem F hd hst hl hH hS hc hs hb1 hb2 kk
  case ineg =>
    obtain ⟨hd, rfl, -⟩ := ins_plain rfl hio
    exact sn_ineg F hd hst hl hH hS hc hs hb1 hb2 kk
  case ladd =>
    obtain ⟨hd, rfl, -⟩ := ins_plain rfl hio
    exact sn_ladd F hd hst hl hH hS hc hs hb1 hb2 kk
  case lsub =>
    obtain ⟨hd, rfl, -⟩ := ins_plain rfl hio
    exact sn_lsub F hd hst hl hH hS hc hs hb1 hb2 kk
  case lmul =>
    obtain ⟨hd, rfl, -⟩ := ins_plain rfl hio
    exact sn_lmul F hd hst hl hH hS hc hs hb1 hb2 kk
  case land =>
    obtain ⟨hd, rfl, -⟩ := ins_plain rfl hio
    exact sn_land F hd hst hl hH hS hc hs hb1 hb2 kk
  case lor =>
    obtain ⟨hd, rfl, -⟩ := ins_plain rfl hio
    exact sn_lor F hd hst hl hH hS hc hs hb1 hb2 kk
  case lxor =>
    obtain ⟨hd, rfl, -⟩ := ins_plain rfl hio
    exact sn_lxor F hd hst hl hH hS hc hs hb1 hb2 kk
  case lshl =>
    obtain ⟨hd, rfl, -⟩ := ins_plain rfl hio
    exact sn_lshl F hd hst hl hH hS hc hs hb1 hb2 kk
  case lushr =>
    obtain ⟨hd, rfl, -⟩ := ins_plain rfl hio
    exact sn_lushr F hd hst hl hH hS hc hs hb1 hb2 kk
  case lcmp =>
    obtain ⟨hd, rfl, -⟩ := ins_plain rfl hio
    exact sn_lcmp F hd hst hl hH hS hc hs hb1 hb2 kk
  case fcmp op =>
    obtain ⟨hd, rfl, -⟩ := ins_plain rfl hio
    exact sn_fcmp F hd hst hl hH hS hc hs hb1 hb2 kk
  case dcmp op =>
    obtain ⟨hd, rfl, -⟩ := ins_plain rfl hio
    exact sn_dcmp F hd hst hl hH hS hc hs hb1 hb2 kk
  case fdiv =>
    obtain ⟨hd, rfl, -⟩ := ins_plain rfl hio
    exact sn_fdiv F hd hst hl hH hS hc hs hb1 hb2 kk
  case ddiv =>
    obtain ⟨hd, rfl, -⟩ := ins_plain rfl hio
    exact sn_ddiv F hd hst hl hH hS hc hs hb1 hb2 kk
  case f2d =>
    obtain ⟨hd, rfl, -⟩ := ins_plain rfl hio
    exact sn_f2d F hd hst hl hH hS hc hs hb1 hb2 kk
  case i2l =>
    obtain ⟨hd, rfl, -⟩ := ins_plain rfl hio
    exact sn_i2l F hd hst hl hH hS hc hs hb1 hb2 kk
  case l2i =>
    obtain ⟨hd, rfl, -⟩ := ins_plain rfl hio
    exact sn_l2i F hd hst hl hH hS hc hs hb1 hb2 kk
  case i2c =>
    obtain ⟨hd, rfl, -⟩ := ins_plain rfl hio
    exact sn_i2c F hd hst hl hH hS hc hs hb1 hb2 kk
  case i2f =>
    obtain ⟨hd, rfl, -⟩ := ins_plain rfl hio
    exact sn_i2f F hd hst hl hH hS hc hs hb1 hb2 kk
  case i2d =>
    obtain ⟨hd, rfl, -⟩ := ins_plain rfl hio
    exact sn_i2d F hd hst hl hH hS hc hs hb1 hb2 kk
  case dup =>
    obtain ⟨hd, rfl, -⟩ := ins_plain rfl hio
    exact sn_dup F hd hst hl hH hS hc hs hb1 hb2 kk
  case dup2 =>
    obtain ⟨hd, rfl, -⟩ := ins_plain rfl hio
    exact sn_dup2 F hd hst hl hH hS hc hs hb1 hb2 kk
  case pop =>
    obtain ⟨hd, rfl, -⟩ := ins_plain rfl hio
    exact sn_pop F hd hst hl hH hS hc hs hb1 hb2 kk
  case iaload =>
    obtain ⟨hd, rfl, -⟩ := ins_plain rfl hio
    exact sn_iaload F hd hst hl hH hS hc hs hb1 hb2 kk
  case aaload =>
    obtain ⟨hd, rfl, -⟩ := ins_plain rfl hio
    exact sn_aaload F hd hst hl hH hS hc hs hb1 hb2 kk
  case iastore =>
    obtain ⟨hd, rfl, -⟩ := ins_plain rfl hio
    exact sn_iastore F hd hst hl hH hS hc hs hb1 hb2 kk
  case aastore =>
    obtain ⟨hd, rfl, -⟩ := ins_plain rfl hio
    exact sn_aastore F hd hst hl hH hS hc hs hb1 hb2 kk
  case arraylength =>
    obtain ⟨hd, rfl, -⟩ := ins_plain rfl hio
    exact sn_arraylength F hd hst hl hH hS hc hs hb1 hb2 kk
  case newarray t =>
    obtain ⟨hd, rfl, -⟩ := ins_plain rfl hio
    exact sn_newarray F hd hst hl hH hS hc hs hb1 hb2 kk
  case istore k =>
    obtain ⟨hd, rfl, hk⟩ := ins_plain rfl hio
    exact sn_istore F hk hd hst hl hH hS hc hs hb1 hb2 kk
  case istore_n k =>
    obtain ⟨hd, rfl, hk⟩ := ins_plain rfl hio
    exact sn_istore_n F hk hd hst hl hH hS hc hs hb1 hb2 kk
  case lstore k =>
    obtain ⟨hd, rfl, hk⟩ := ins_plain rfl hio
    exact sn_lstore F hk hd hst hl hH hS hc hs hb1 hb2 kk
  case lstore_n k =>
    obtain ⟨hd, rfl, hk⟩ := ins_plain rfl hio
    exact sn_lstore_n F hk hd hst hl hH hS hc hs hb1 hb2 kk
  case fstore k =>
    obtain ⟨hd, rfl, hk⟩ := ins_plain rfl hio
    exact sn_fstore F hk hd hst hl hH hS hc hs hb1 hb2 kk
  case dstore k =>
    obtain ⟨hd, rfl, hk⟩ := ins_plain rfl hio
    exact sn_dstore F hk hd hst hl hH hS hc hs hb1 hb2 kk
  case astore k =>
    obtain ⟨hd, rfl, hk⟩ := ins_plain rfl hio
    exact sn_astore F hk hd hst hl hH hS hc hs hb1 hb2 kk
  case astore_n k =>
    obtain ⟨hd, rfl, hk⟩ := ins_plain rfl hio
    exact sn_astore_n F hk hd hst hl hH hS hc hs hb1 hb2 kk
  case iinc k z =>
    obtain ⟨hd, rfl, hk⟩ := ins_plain rfl hio
    exact sn_iinc F hk hd hst hl hH hS hc hs hb1 hb2 kk
  case getfield y =>
    simp only [insOk, linOk, Bool.and_eq_true] at hio
    obtain ⟨h1, -⟩ := hio
    split at h1
    · rename_i x hx9
      simp only [Bool.and_eq_true, beq_iff_eq, decide_eq_true_eq] at h1
      have hd := dc_ok hx9 (fun h => by cases h)
      obtain ⟨q1, q2⟩ := h1
      rw [q2] at hd
      exact sn_getfield F q1 hd hst hl hH hS hc hs hb1 hb2 kk
    · cases h1
  case putfield y =>
    simp only [insOk, linOk, Bool.and_eq_true] at hio
    obtain ⟨h1, -⟩ := hio
    split at h1
    · rename_i x hx9
      simp only [Bool.and_eq_true, beq_iff_eq, decide_eq_true_eq] at h1
      have hd := dc_ok hx9 (fun h => by cases h)
      obtain ⟨q1, q2⟩ := h1
      rw [q2] at hd
      exact sn_putfield F q1 hd hst hl hH hS hc hs hb1 hb2 kk
    · cases h1
  case monitorenter =>
    simp only [insOk, linOk, Bool.and_eq_true] at hio
    obtain ⟨h1, -⟩ := hio
    split at h1
    · rename_i x hx9
      simp only [Bool.and_eq_true, beq_iff_eq, decide_eq_true_eq] at h1
      have hd := dc_ok hx9 (fun h => by cases h)
      obtain ⟨⟨⟨q1, q2⟩, q3⟩, q4⟩ := h1
      rw [q2] at hd
      exact sn_objInit F q1 q3 q4 hd hst hl hH hS hc hs hb1 hb2 kk
    · cases h1
  case lrem =>
    simp only [insOk, linOk, Bool.and_eq_true] at hio
    obtain ⟨h1, -⟩ := hio
    split at h1
    · rename_i x hx9
      simp only [Bool.and_eq_true, beq_iff_eq, decide_eq_true_eq] at h1
      have hd := dc_ok hx9 (fun h => by cases h)
      obtain ⟨⟨⟨q1, q2⟩, q3⟩, q4⟩ := h1
      rw [q2] at hd
      exact sn_lrem F q1 q3 q4 hd hst hl hH hS hc hs hb1 hb2 kk
    · cases h1
  case ldiv =>
    simp only [insOk, linOk, Bool.and_eq_true] at hio
    obtain ⟨h1, -⟩ := hio
    split at h1
    · rename_i x hx9
      simp only [Bool.and_eq_true, beq_iff_eq, decide_eq_true_eq] at h1
      have hd := dc_ok hx9 (fun h => by cases h)
      obtain ⟨⟨⟨q1, q2⟩, q3⟩, q4⟩ := h1
      rw [q2] at hd
      exact sn_ldiv F q1 q3 q4 hd hst hl hH hS hc hs hb1 hb2 kk
    · cases h1
  case lneg =>
    simp only [insOk, linOk, Bool.and_eq_true] at hio
    obtain ⟨h1, -⟩ := hio
    split at h1
    · rename_i x hx9
      simp only [Bool.and_eq_true, beq_iff_eq, decide_eq_true_eq] at h1
      have hd := dc_ok hx9 (fun h => by cases h)
      obtain ⟨⟨⟨q1, q2⟩, q3⟩, q4⟩ := h1
      rw [q2] at hd
      exact sn_lneg F q1 q3 q4 hd hst hl hH hS hc hs hb1 hb2 kk
    · cases h1
  case new y =>
    simp only [insOk, linOk, Bool.and_eq_true] at hio
    obtain ⟨h1, -⟩ := hio
    split at h1
    · rename_i x hx9
      simp only [Bool.and_eq_true, beq_iff_eq, decide_eq_true_eq] at h1
      have hd := dc_ok hx9 (fun h => by cases h)
      obtain ⟨⟨q1, q2⟩, q3⟩ := h1
      rw [q2] at hd
      exact sn_new F q1 hd hst hl hH hS hc hs hb1 hb2 kk
    · cases h1
  case anewarray y =>
    simp only [insOk, linOk, Bool.and_eq_true] at hio
    obtain ⟨h1, -⟩ := hio
    split at h1
    · rename_i x hx9
      simp only [Bool.and_eq_true, beq_iff_eq, decide_eq_true_eq] at h1
      have hd := dc_ok hx9 (fun h => by cases h)
      obtain ⟨q1, q2⟩ := h1
      rw [q2] at hd
      exact sn_anewarray F q1 hd hst hl hH hS hc hs hb1 hb2 kk
    · cases h1
  case ldc2_w y =>
    simp only [insOk, linOk, Bool.and_eq_true] at hio
    obtain ⟨h1, -⟩ := hio
    split at h1
    · rename_i x hx9
      simp only [Bool.and_eq_true, beq_iff_eq, decide_eq_true_eq] at h1
      have hd := dc_ok hx9 (fun h => by cases h)
      obtain ⟨q1, q2⟩ := h1
      rw [q2] at hd
      exact sn_ldc2_w F q1 hd hst hl hH hS hc hs hb1 hb2 kk
    · cases h1
  case goto t =>
    simp only [insOk, linOk, Bool.and_eq_true] at hio
    obtain ⟨h1, -⟩ := hio
    split at h1
    · rename_i f hx9
      simp only [Bool.and_eq_true, beq_iff_eq, decide_eq_true_eq] at h1
      have hd := dc_ok hx9 (fun h => by cases h)
      obtain ⟨q1, q2⟩ := h1
      rw [q2] at hd
      exact sn_goto F q1 hd hst hl hH hS hc hs hb1 hb2 kk
    · cases h1
  case ifnull t =>
    simp only [insOk, linOk, Bool.and_eq_true] at hio
    obtain ⟨h1, -⟩ := hio
    split at h1
    · rename_i f hx9
      simp only [Bool.and_eq_true, beq_iff_eq, decide_eq_true_eq] at h1
      have hd := dc_ok hx9 (fun h => by cases h)
      obtain ⟨q1, q2⟩ := h1
      rw [q2] at hd
      exact sn_ifnull F q1 hd hst hl hH hS hc hs hb1 hb2 kk
    · cases h1
  case ifnonnull t =>
    simp only [insOk, linOk, Bool.and_eq_true] at hio
    obtain ⟨h1, -⟩ := hio
    split at h1
    · rename_i f hx9
      simp only [Bool.and_eq_true, beq_iff_eq, decide_eq_true_eq] at h1
      have hd := dc_ok hx9 (fun h => by cases h)
      obtain ⟨q1, q2⟩ := h1
      rw [q2] at hd
      exact sn_ifnonnull F q1 hd hst hl hH hS hc hs hb1 hb2 kk
    · cases h1
  case ifCond cd t =>
    simp only [insOk, linOk, Bool.and_eq_true] at hio
    obtain ⟨h1, -⟩ := hio
    split at h1
    · rename_i cd0 f hx9
      simp only [Bool.and_eq_true, beq_iff_eq, decide_eq_true_eq] at h1
      have hd := dc_ok hx9 (fun h => by cases h)
      obtain ⟨⟨rfl, q1⟩, q2⟩ := h1
      rw [q2] at hd
      exact sn_ifCond F q1 hd hst hl hH hS hc hs hb1 hb2 kk
    · cases h1
  case if_icmp cd t =>
    simp only [insOk, linOk, Bool.and_eq_true] at hio
    obtain ⟨h1, -⟩ := hio
    split at h1
    · rename_i cd0 f hx9
      simp only [Bool.and_eq_true, beq_iff_eq, decide_eq_true_eq] at h1
      have hd := dc_ok hx9 (fun h => by cases h)
      obtain ⟨⟨rfl, q1⟩, q2⟩ := h1
      rw [q2] at hd
      exact sn_if_icmp F q1 hd hst hl hH hS hc hs hb1 hb2 kk
    · cases h1
  case tableswitch d lo hi ts =>
    simp only [insOk, linOk, Bool.and_eq_true] at hio
    obtain ⟨h1, -⟩ := hio
    split at h1
    · rename_i d0 lo0 hi0 fs hx9
      simp only [Bool.and_eq_true, beq_iff_eq, decide_eq_true_eq] at h1
      have hd := dc_ok hx9 (fun h => by cases h)
      obtain ⟨⟨⟨⟨q1, rfl⟩, rfl⟩, q2⟩, q3⟩ := h1
      exact sn_tableswitch F q1 q2 q3 hd hst hl hH hS hc hs hb1 hb2 kk
    · cases h1
  case invokestatic j =>
    simp only [sStep, amStep, a_call] at hst
    repeat' split at hst
    all_goals cases hst
  case invokevirtual j =>
    simp only [sStep, amStep, a_call] at hst
    repeat' split at hst
    all_goals cases hst
  case invokespecial j =>
    simp only [sStep, amStep, a_call] at hst
    repeat' split at hst
    all_goals cases hst
  case ireturn =>
    simp only [sStep, amStep] at hst
    repeat' split at hst
    all_goals cases hst
  case lreturn =>
    simp only [sStep, amStep] at hst
    repeat' split at hst
    all_goals cases hst
  case freturn =>
    simp only [sStep, amStep] at hst
    repeat' split at hst
    all_goals cases hst
  case dreturn =>
    simp only [sStep, amStep] at hst
    repeat' split at hst
    all_goals cases hst
  case areturn =>
    simp only [sStep, amStep] at hst
    repeat' split at hst
    all_goals cases hst
  case return_ =>
    simp only [sStep, amStep] at hst
    repeat' split at hst
    all_goals cases hst
  case jsr k =>
    simp only [sStep, amStep] at hst
    split at hst
    all_goals cases hst
  all_goals (simp only [sStep, amStep] at hst; cases hst)
end DS
theorem wrv_mono {M M' : AMem} {a k t : Nat} {v : Value} (h : wrv M a k t v = some M') : mN M' = mN M ∧ mS M' = mS M := by
  unfold wrv at h
  repeat' split at h
  all_goals first | (cases h; done) | (cases h; exact ⟨rfl, rfl⟩)
set_option maxHeartbeats 4000000 in
theorem sStep_mono {mi len pc pc' : Nat} {i : Instr} {ls ls' : ALs} {st st' : List Value} {M M' : AMem} (h : sStep mi i len pc ls st M = some (.inl (pc', ls', st', M'))) : mN M ≤ mN M' ∧ mS M ≤ mS M' := by
  cases i <;> simp only [sStep, amStep, a_nx, a_ii, a_jj, a_ji, a_ld, a_st, a_if, a_ald, a_call] at h <;> (repeat' split at h) <;> first
    | (cases h; done)
    | (cases h; exact ⟨Nat.le_refl _, Nat.le_refl _⟩)
    | (cases h; exact ⟨Nat.le_succ _, Nat.le_add_right _ _⟩)
    | (cases h; exact ⟨by rw [(stM_facts _ _ _ _).1]; omega, by rw [(stM_facts _ _ _ _).2.1, Nat.add_assoc]; exact Nat.le_add_right _ _⟩)
    | (rename_i hw; cases h; obtain ⟨e1, e2⟩ := wrv_mono hw; exact ⟨Nat.le_of_eq e1.symm, Nat.le_of_eq e2.symm⟩)
theorem exec_mono : ∀ (n mi pc : Nat) (ls : ALs) (st : List Value) (M : AMem) (res : AR), amExec n mi pc ls st M = some res → mN M ≤ mN res.1 ∧ mS M ≤ mS res.1 := by
  intro n
  induction n with
  | zero => intro mi pc ls st M res h; cases h
  | succ n ih =>
    intro mi pc ls st M res h
    unfold amExec at h
    split at h
    · cases h
    · split at h
      · cases h
      · rename_i hst
        obtain ⟨a, b⟩ := sStep_mono hst
        obtain ⟨c, d⟩ := ih _ _ _ _ _ _ h
        exact ⟨Nat.le_trans a c, Nat.le_trans b d⟩
      · split at h
        · cases h
        · rename_i hc
          obtain ⟨a, b⟩ := ih _ _ _ _ _ _ hc
          obtain ⟨c, d⟩ := ih _ _ _ _ _ _ h
          exact ⟨Nat.le_trans a c, Nat.le_trans b d⟩
        · rename_i hc
          obtain ⟨a, b⟩ := ih _ _ _ _ _ _ hc
          split at h
          · split at h
            · cases h
              exact ⟨a, b⟩
            · cases h
          · obtain ⟨c, d⟩ := ih _ _ _ _ _ _ h
            exact ⟨Nat.le_trans a c, Nat.le_trans b d⟩
      · cases h
        exact ⟨Nat.le_refl _, Nat.le_refl _⟩
      · cases h
        exact ⟨Nat.le_succ _, Nat.le_add_right _ _⟩
