/-! ===== new int[n][k]: one step (follows the library's own proofs, MA1 and MA2 of its shelf) ===== -/
def mqI (comp : ClassId) (k : Nat) : Cell := { cls := comp, slots := Array.replicate k (.int 0), vm := .none }
def mqO (c : ClassId) (n h0 : Nat) : Nat → Cell
  | 0 => { cls := c, slots := Array.replicate n .null, vm := .none }
  | i + 1 => (mqO c n h0 i).setSlot i (.ref (h0 + 1 + i))
def mqF (s : State) (c comp : ClassId) (n k : Nat) : Nat → State
  | 0 => s.pushCell (mqO c n s.heap.size 0)
  | i + 1 => ((mqF s c comp n k i).pushCell (mqI comp k)).setCell s.heap.size (mqO c n s.heap.size (i + 1))
theorem mqO_facts (c : ClassId) (n h0 : Nat) : ∀ i, (mqO c n h0 i).cls = c ∧ (mqO c n h0 i).vm = .none ∧ (mqO c n h0 i).slots.size = n
  | 0 => ⟨rfl, rfl, by simp [mqO]⟩
  | i + 1 => by
    obtain ⟨a, b, d⟩ := mqO_facts c n h0 i
    exact ⟨by simp [mqO, Cell.setSlot, a], by simp [mqO, Cell.setSlot, b], by simp [mqO, Cell.setSlot, d]⟩
theorem mqF_facts (s : State) (c comp : ClassId) (n k : Nat) : ∀ i, (mqF s c comp n k i).heap.size = s.heap.size + 1 + i ∧ (mqF s c comp n k i).heap[s.heap.size]? = some (mqO c n s.heap.size i) ∧
    (mqF s c comp n k i).vm = s.vm ∧ (mqF s c comp n k i).slotsUsed = s.slotsUsed + n + i * k
  | 0 => ⟨by simp [mqF], by simp [mqF], rfl, by simp [mqF, mqO]⟩
  | i + 1 => by
    obtain ⟨a, b, d, u⟩ := mqF_facts s c comp n k i
    have hlt : s.heap.size < (mqF s c comp n k i).heap.size := by omega
    have hb' : ((mqF s c comp n k i).pushCell (mqI comp k)).heap[s.heap.size]? = some (mqO c n s.heap.size i) := by rw [State.heap_pushCell_of_lt (h := hlt)]; exact b
    refine ⟨?_, State.heap_setCell_self hb', by simp [mqF, d], ?_⟩
    · simp [mqF, State.setCell, a]; omega
    · simp [mqF, u, mqI, Nat.succ_mul]; omega
theorem mqF_setTop (s : State) (f : JFrame) (c comp : ClassId) (n k : Nat) : ∀ i, mqF (s.setTop f) c comp n k i = (mqF s c comp n k i).setTop f
  | 0 => rfl
  | i + 1 => by simp only [mqF, mqF_setTop s f c comp n k i, State.heap_setTop, State.pushCell_setTop, State.setCell_setTop]
theorem mqF_old (s : State) (c comp : ClassId) (n k : Nat) {a : Addr} (ha : a < s.heap.size) : ∀ i, (mqF s c comp n k i).heap[a]? = s.heap[a]?
  | 0 => State.heap_pushCell_of_lt _ _ ha
  | i + 1 => by
    have f1 := (mqF_facts s c comp n k i).1
    have hlt : a < (mqF s c comp n k i).heap.size := Nat.lt_of_lt_of_le ha (by rw [f1]; omega)
    show (((mqF s c comp n k i).pushCell (mqI comp k)).setCell s.heap.size _).heap[a]? = _
    rw [State.heap_setCell_other (Nat.ne_of_gt ha), State.heap_pushCell_of_lt (h := hlt)]
    exact mqF_old s c comp n k ha i
section MQA
variable {E : CtlPost} {e : Env} {d : Bool} {acts : List Action} {s : State}
theorem mq_new {c comp : ClassId} {k : Class} {type : FieldType} {len : Nat} {init : Value} (hk : s.vm.classes[c]? = some k) (hkind : k.kind = .array comp type)
    (hlimit : ¬ len > e.platform.arrayLengthLimit) (hheap : ¬ len * componentBytes type > e.platform.maxHeapBytes) (hfit : fits type init = true) (hdef : init.isDefault = true) {Q : Addr → Pre}
    (h1 : s.heap.size < e.platform.maxCells) (h2 : s.slotsUsed + len ≤ e.platform.maxSlots)
    (hq : Q s.heap.size d acts (s.pushCell { cls := c, slots := Array.replicate len init, vm := .none })) :
    wp (Jvm.newArray c len init) Q E e d acts s := by
  have hfits : ∀ i v, (Array.replicate len init)[i]? = some v → s.fitsSlot c .none i v = true := by
    intro i v hv
    simp only [Array.getElem?_replicate] at hv
    split at hv
    · cases hv; simp [State.fitsSlot, State.slotType?, hk, hkind, hfit]
    · cases hv
  have hda : allocActs (Array.replicate len init) s.heap.size acts = acts := by
    have hall : ((Array.replicate len init).all (·.isDefault)) = true := by
      rw [Array.all_replicate]; split <;> simp [hdef]
    unfold allocActs; rw [if_pos hall]
  simp only [Jvm.newArray, Jvm.arrayFits, wp_bind', W.ask, W.ite, hlimit, if_false, wp_pure', W.theClass, hk, hkind, hheap, W.alloc, W.stop, Option.some.injEq, exists_eq_left', Array.size_replicate, hda]
  rw [if_neg (by omega)]
  exact ⟨h1, h2, hfits, hq⟩
theorem mq_ref {t : FieldType} (h : t.isReference = true) (v : Value) (hv : v = .null ∨ ∃ a, v = .ref a) : fits t v = true := by
  rcases hv with rfl | ⟨a, rfl⟩ <;> cases t <;> simp [FieldType.isReference] at h <;> rfl
theorem mq_make1 {comp cc : ClassId} {kc : Class} {m : Int32} (hkc : s.vm.classes[comp]? = some kc) (hkindc : kc.kind = .array cc .int) (hm : ¬ m < 0)
    (hl2 : ¬ m.toNatClampNeg > e.platform.arrayLengthLimit) (hh2 : ¬ m.toNatClampNeg * componentBytes .int > e.platform.maxHeapBytes)
    (h1 : s.heap.size < e.platform.maxCells) (h2 : s.slotsUsed + m.toNatClampNeg ≤ e.platform.maxSlots)
    {Q : Addr → Pre} (hq : Q s.heap.size d acts (s.pushCell (mqI comp m.toNatClampNeg))) :
    wp (multianewarray.make comp [m]) Q E e d acts s := by
  rw [multianewarray.make]
  simp only [wp_bind', W.ite, hm, if_false, wp_pure', W.theClass, hkc, hkindc, Option.some.injEq, exists_eq_left']
  exact mq_new hkc hkindc hl2 hh2 rfl rfl h1 h2 hq
theorem mq_make2 {c comp cc : ClassId} {k kc : Class} {n m : Int32} (hk : s.vm.classes[c]? = some k) (hkind : k.kind = .array comp (.array .int))
    (hkc : s.vm.classes[comp]? = some kc) (hkindc : kc.kind = .array cc .int) (hn : ¬ n < 0) (hm : ¬ m < 0)
    (hl1 : ¬ n.toNatClampNeg > e.platform.arrayLengthLimit) (hh1 : ¬ n.toNatClampNeg * componentBytes (.array .int) > e.platform.maxHeapBytes)
    (hl2 : ¬ m.toNatClampNeg > e.platform.arrayLengthLimit) (hh2 : ¬ m.toNatClampNeg * componentBytes .int > e.platform.maxHeapBytes)
    (hc : s.heap.size + 1 + n.toNatClampNeg ≤ e.platform.maxCells) (hs : s.slotsUsed + n.toNatClampNeg + n.toNatClampNeg * m.toNatClampNeg ≤ e.platform.maxSlots)
    {Q : Addr → Pre} (hq : ∀ d' acts', Q s.heap.size d' acts' (mqF s c comp n.toNatClampNeg m.toNatClampNeg n.toNatClampNeg)) :
    wp (multianewarray.make c [n, m]) Q E e d acts s := by
  have href : (FieldType.array .int).isReference = true := rfl
  have hfind : ([m].find? (· < 0)) = none := by simp [hm]
  rw [multianewarray.make]
  simp only [wp_bind', W.ite, hn, if_false, wp_pure', W.theClass, hk, hkind, Option.some.injEq, exists_eq_left']
  refine mq_new hk hkind hl1 hh1 (mq_ref href _ (Or.inl rfl)) rfl (by omega) (by have := Nat.zero_le (n.toNatClampNeg * m.toNatClampNeg); omega) ?_
  simp only [hfind]
  rw [ite_self, wp_bind', Std.Legacy.Range.forIn_eq_forIn_range']
  have hsz : ([:n.toNatClampNeg] : Std.Legacy.Range).size = n.toNatClampNeg := by simp [Std.Legacy.Range.size]
  rw [hsz]
  show wp (forIn (List.range' 0 n.toNatClampNeg 1) PUnit.unit _) _ E e d acts _
  refine wp_forIn_inv (fun rest s' => ∃ i, i ≤ n.toNatClampNeg ∧ rest = List.range' i (n.toNatClampNeg - i) ∧ s' = mqF s c comp n.toNatClampNeg m.toNatClampNeg i) _ _ ⟨0, Nat.zero_le _, rfl, rfl⟩ ?_ ?_
  · rintro x rest s' d' acts' Q' ⟨i, hi, hl, rfl⟩ hnext
    have hlt : i < n.toNatClampNeg := by
      rcases Nat.lt_or_ge i n.toNatClampNeg with h | h
      · exact h
      · rw [show n.toNatClampNeg - i = 0 from by omega] at hl; simp at hl
    obtain ⟨rfl, hrest⟩ : x = i ∧ rest = List.range' (i + 1) (n.toNatClampNeg - (i + 1)) := by
      rw [show n.toNatClampNeg - i = (n.toNatClampNeg - (i + 1)) + 1 from by omega, List.range'_succ] at hl
      exact ⟨(List.cons.inj hl).1, (List.cons.inj hl).2⟩
    obtain ⟨f1, f2, f3, f4⟩ := mqF_facts s c comp n.toNatClampNeg m.toNatClampNeg x
    obtain ⟨o1, o2, o3⟩ := mqO_facts c n.toNatClampNeg s.heap.size x
    have hmul : x * m.toNatClampNeg + m.toNatClampNeg ≤ n.toNatClampNeg * m.toNatClampNeg := by
      have := Nat.mul_le_mul_right m.toNatClampNeg (show x + 1 ≤ n.toNatClampNeg from hlt)
      rw [Nat.succ_mul] at this; exact this
    simp only [wp_bind']
    refine mq_make1 (by rw [f3]; exact hkc) hkindc hm hl2 hh2 (by rw [f1]; omega) (by rw [f4]; omega) ?_
    have hlt0 : s.heap.size < (mqF s c comp n.toNatClampNeg m.toNatClampNeg x).heap.size := by rw [f1]; omega
    simp only [wp_bind', W.writeLoc, wp_pure']
    refine ⟨mqO c n.toNatClampNeg s.heap.size x, by rw [State.heap_pushCell_of_lt (h := hlt0)]; exact f2, by rw [o2]; simp, by rw [o3]; exact hlt, ?_, hnext _ _ _ ⟨x + 1, hlt, hrest, ?_⟩⟩
    · rw [o1, o2]
      simp [State.fitsSlot, State.slotType?, f3, hk, hkind, mq_ref href _ (Or.inr ⟨_, rfl⟩)]
    · rw [f1]; rfl
  · rintro s' d' acts' ⟨i, hi, hl, rfl⟩
    have hiN : i = n.toNatClampNeg := by
      rcases Nat.lt_or_ge i n.toNatClampNeg with h | h
      · rw [show n.toNatClampNeg - i = (n.toNatClampNeg - (i + 1)) + 1 from by omega, List.range'_succ] at hl; cases hl
      · omega
    subst hiN
    simp only [wp_pure']
    exact hq _ _
end MQA
section MQB
variable {p : Program} {l : Launch} {e : Env} {R : Room} {s : State} {m : MethodId} {args : Array Value} {below : List Frame} {meth : Method} {c : Code} {T : State} {locs : List Loc} {cells slots : Nat}
theorem mq_filled (X : Stand p l e R s m args below meth c T locs cells slots) (cA comp : ClassId) (n k : Nat) :
    ∀ i, Stand p l e R s m args below meth c (mqF T cA comp n k i) (locs ++ (List.range i).map fun j => ⟨T.heap.size, j⟩) (cells + 1 + i) (slots + n + i * k)
  | 0 => by
    have h := X.pushed (mqO cA n T.heap.size 0)
    rw [(mqO_facts cA n T.heap.size 0).2.2] at h
    simpa [mqF] using h
  | i + 1 => by
    have Xi := mq_filled X cA comp n k i
    obtain ⟨f1, f2, f3, f4⟩ := mqF_facts T cA comp n k i
    have hlt0 : T.heap.size < (mqF T cA comp n k i).heap.size := by rw [f1]; omega
    have hcell : ((mqF T cA comp n k i).pushCell (mqI comp k)).heap[T.heap.size]? = some (mqO cA n T.heap.size i) := by rw [State.heap_pushCell_of_lt (h := hlt0)]; exact f2
    have h := (Xi.pushed (mqI comp k)).stored hcell i (.ref (T.heap.size + 1 + i))
    have e1 : (mqI comp k).slots.size = k := by simp [mqI]
    rw [e1] at h
    have e2 : (locs ++ (List.range (i + 1)).map fun j => (⟨T.heap.size, j⟩ : Loc)) = (locs ++ (List.range i).map fun j => (⟨T.heap.size, j⟩ : Loc)) ++ [⟨T.heap.size, i⟩] := by simp [List.range_succ, List.append_assoc]
    have e3 : slots + n + (i + 1) * k = slots + n + i * k + k := by rw [Nat.succ_mul]; omega
    rw [e2, e3]
    exact h
theorem mq_step (X : Stand p l e R s m args below meth c T locs cells slots) (hexec : p.tables.exec = Jvm.exec) {own : String} {index : Nat}
    (hown : s.vm.findClass own = some m.cls) (hclink : (Cond.classLink own index "[[I").before args s = true)
    {cA comp cc : ClassId} {kA kC : Class} (hnameA : s.vm.findClass "[[I" = some cA) (hkA : s.vm.classes[cA]? = some kA) (hkindA : kA.kind = .array comp (.array .int)) (hkC : s.vm.classes[comp]? = some kC) (hkindC : kC.kind = .array cc .int)
    {g : JFrame} (hg : g.method = m) (hdg : decode c.code g.pc = .ok (.multianewarray index 2, 4)) {n k : Int32} {rest : List Value} (hstack : g.stack = .int k :: .int n :: rest)
    (hn : ¬ n < 0) (hk : ¬ k < 0) (hb1 : n.toNatClampNeg * 4 ≤ 536870912) (hb2 : k.toNatClampNeg * 4 ≤ 536870912)
    (hcells : cells + (1 + n.toNatClampNeg) ≤ R.cells) (hslots : slots + (n.toNatClampNeg + n.toNatClampNeg * k.toNatClampNeg) ≤ R.slots) :
    ∃ (vm₁ : Vm), s.WarmedH vm₁ ∧
      Stand p l e R s m args below meth c (mqF (T.setVm vm₁) cA comp n.toNatClampNeg k.toNatClampNeg n.toNatClampNeg) locs (cells + 1 + n.toNatClampNeg) (slots + n.toNatClampNeg + n.toNatClampNeg * k.toNatClampNeg) ∧
      ∀ target, Steps p.tables e below ((mqF (T.setVm vm₁) cA comp n.toNatClampNeg k.toNatClampNeg n.toNatClampNeg).setTop { g with pc := g.pc + 4, stack := .ref T.heap.size :: rest }) target →
        Steps p.tables e below (T.setTop g) target := by
  subst hg
  have hpl : e.platform.magicAccessors = ({} : Platform).magicAccessors := by rw [X.admits.platform]
  obtain ⟨c0, hfc0, hcl⟩ := Cond.classLink_spec hown hclink e.platform hpl
  cases hnameA.symm.trans hfc0
  obtain ⟨hg₁, hwarm₁, hready₁⟩ := State.classEntry (e := e) X.warmed hcl
  generalize T.vm.noted g.method.cls index (.cls cA) = vm₁ at hg₁ hwarm₁ hready₁
  have hal : s.vm.Alike vm₁ := hwarm₁.alike
  obtain ⟨kA₁, hkA₁, heA⟩ := hal.2.2 _ _ hkA
  obtain ⟨kC₁, hkC₁, heC⟩ := hal.2.2 _ _ hkC
  have hkindA₁ : kA₁.kind = .array comp (.array .int) := by rw [heA]; exact hkindA
  have hkindC₁ : kC₁.kind = .array cc .int := by rw [heC]; exact hkindC
  have X₁ := X.noted hwarm₁
  obtain ⟨hr1, hr2⟩ := X.roomAbove hcells hslots
  refine ⟨vm₁, hwarm₁, (mq_filled X₁ cA comp _ _ _).dropFresh (fun x hx => ?_), fun target hrest => ?_⟩
  · obtain ⟨j, -, rfl⟩ := List.mem_map.mp hx
    exact X.heapGrown
  have hl1 : ¬ n.toNatClampNeg > e.platform.arrayLengthLimit := by rw [Launch.admits_arrayLengthLimit X.admits]; omega
  have hh1 : ¬ n.toNatClampNeg * componentBytes (.array .int) > e.platform.maxHeapBytes := by
    rw [Launch.admits_maxHeapBytes X.admits]; show ¬ n.toNatClampNeg * 4 > 536870912; omega
  have hl2 : ¬ k.toNatClampNeg > e.platform.arrayLengthLimit := by rw [Launch.admits_arrayLengthLimit X.admits]; omega
  have hh2 : ¬ k.toNatClampNeg * componentBytes .int > e.platform.maxHeapBytes := by rw [Launch.admits_maxHeapBytes X.admits]; show ¬ k.toNatClampNeg * 4 > 536870912; omega
  jvm_step X.here [hexec, hdg]
  simp only [multianewarray.sem, wp_bind', W.resolveClassAt_links (State.method?_setTop g X.here.top) hg₁]
  rw [W.popN, if_neg (by decide)]
  refine ⟨g, State.topJava?_setTop' (s := T.setVm vm₁) g X.here.top, [.int n, .int k], rest, rfl, hstack, ?_⟩
  simp only [List.mapM_cons, List.mapM_nil, wp_bind', wp_pure']
  refine mq_make2 (k := kA₁) (kc := kC₁) (comp := comp) (cc := cc) hkA₁ hkindA₁ hkC₁ hkindC₁ hn hk hl1 hh1 hl2 hh2 (by show T.heap.size + 1 + _ ≤ _; omega) (by show T.slotsUsed + _ + _ ≤ _; omega) (fun d' acts' => ?_)
  have XF := mq_filled X₁ cA comp n.toNatClampNeg k.toNatClampNeg n.toNatClampNeg
  have eS : ((T.setTop g).setVm vm₁).setTop { g with stack := rest } = (T.setVm vm₁).setTop { g with stack := rest } := by
    show ((T.setVm vm₁).setTop g).setTop _ = _
    rw [State.setTop_setTop]
  rw [eS, mqF_setTop]
  simp only [wp_bind', W.mark, W.pushRef, State.topJava?_setTop' _ XF.here.top, Option.some.injEq, exists_eq_left', State.setTop_setTop, State.heap_setTop]
  intro acts
  simp [jvm, XF.here.top]
  exact hrest
end MQB
theorem stM_facts (M : AMem) (n k : Nat) : ∀ i, mN (stM M n k i) = mN M + 1 + i ∧ mS (stM M n k i) = mS M + n + i * k ∧ mT (stM M n k i) (mN M) = (108, n)
  | 0 => ⟨rfl, by show mS M + n = _; omega, va_up_self _ _ _⟩
  | i + 1 => by
    obtain ⟨a, b, d⟩ := stM_facts M n k i
    refine ⟨?_, ?_, ?_⟩
    · show mN (stM M n k i) + 1 = _
      omega
    · show mS (stM M n k i) + k = _
      rw [b, Nat.succ_mul]; omega
    · show va_up (mT (stM M n k i)) (mN (stM M n k i)) (100, k) (mN M) = _
      rw [va_up_ne _ _ (by omega)]
      exact d
theorem arr_q (M : AMem) (a : Nat) : arrOf M a 8 = ((mT M a).2, .inr (.inr (.inr (.inr (mR M a))))) := rfl
theorem mq_HR {G : AG} {M : AMem} {T : State} (hH : HR G M T.heap) (n k : Nat) : ∀ i, i ≤ n → HR G (stM M n k i) (mqF T (G.2.2.2.2.2 8) (G.2.2.2.2.2 0) n k i).heap
  | 0, _ => by
    have hN : T.heap.size = mN M := hH.1
    obtain ⟨f1, f2, -, -⟩ := mqF_facts T (G.2.2.2.2.2 8) (G.2.2.2.2.2 0) n k 0
    have hT9 : mT (stN M 108 n n) (mN M) = (108, n) := va_up_self _ _ _
    refine HR.push hH (by rw [f1, hN]) (fun q hq => mqF_old T _ _ n k (by rw [hN]; exact hq) 0) (hrA_arr (t := 8) (by rw [hT9]) (by decide) hH.2.1 ?_)
    rw [← hN, f2]
    have h9 := new_arr (G.2.2.2.2.2 8) (M := M) (t := 8) (n := n) (sl := n) (Or.inr ⟨by decide, by decide⟩)
    rw [hN]
    refine congrArg some (Eq.trans ?_ h9.symm)
    exact arrV_new _ _ _
  | i + 1, hi => by
    have hN : T.heap.size = mN M := hH.1
    have ih := mq_HR hH n k i (by omega)
    obtain ⟨f1, f2, -, -⟩ := mqF_facts T (G.2.2.2.2.2 8) (G.2.2.2.2.2 0) n k i
    obtain ⟨g1, g2, g3⟩ := stM_facts M n k i
    generalize hX : stM M n k i = X at ih g1 g2 g3
    generalize hF : mqF T (G.2.2.2.2.2 8) (G.2.2.2.2.2 0) n k i = F at ih f1 f2
    have hFN : F.heap.size = mN X := ih.1
    have hlt : mN M < mN X := by omega
    have hT9 : mT (stN X 100 k k) (mN X) = (100, k) := va_up_self _ _ _
    have hp : HR G (stN X 100 k k) (F.pushCell (mqI (G.2.2.2.2.2 0) k)).heap := by
      refine HR.push ih (by rw [← hFN]; exact Array.size_push _) (fun q hq => State.heap_pushCell_of_lt _ _ (by rw [hFN]; exact hq)) (hrA_arr (t := 0) (by rw [hT9]) (by decide) ih.2.1 ?_)
      rw [← hFN, State.heap_pushCell_size]
      rw [hFN]
      refine congrArg some (Eq.trans ?_ (new_arr (G.2.2.2.2.2 0) (M := X) (t := 0) (n := k) (sl := k) (Or.inl rfl)).symm)
      exact arrV_new _ _ _
    have hc8 : mT (stN X 100 k k) (mN M) = (108, n) := by
      show va_up (mT X) (mN X) (100, k) (mN M) = _
      rw [va_up_ne _ _ (by omega)]; exact g3
    obtain ⟨hba, hcl⟩ := hr_arr (t := 8) hp (by rw [hc8]) (by decide)
    have hcell : (F.pushCell (mqI (G.2.2.2.2.2 0) k)).heap[T.heap.size]? = some (mqO (G.2.2.2.2.2 8) n T.heap.size i) := by
      rw [State.heap_pushCell_of_lt (h := show T.heap.size < F.heap.size by rw [hFN, hN]; exact hlt)]; exact f2
    have he : vp_cell (G.2.2.2.2.2 8) (arrOf (stN X 100 k k) (mN M) 8) = mqO (G.2.2.2.2.2 8) n T.heap.size i := by
      rw [← hN, hcell] at hcl
      rw [← hN]
      exact (Option.some.inj hcl).symm
    have hmR : mR (stN X 100 k k) (mN M) = mR X (mN M) := by
      show va_up (mR X) (mN X) (fun _ => none) (mN M) = _
      rw [va_up_ne _ _ (by omega)]
    show HR G (stM M n k (i + 1)) (mqF T (G.2.2.2.2.2 8) (G.2.2.2.2.2 0) n k (i + 1)).heap
    unfold stM mqF
    rw [hX, hF]
    have hset : ((F.pushCell (mqI (G.2.2.2.2.2 0) k)).setCell T.heap.size (mqO (G.2.2.2.2.2 8) n T.heap.size (i + 1))).heap[T.heap.size]? = some (mqO (G.2.2.2.2.2 8) n T.heap.size (i + 1)) := State.heap_setCell_self hcell
    refine HR.put (a := mN M) hp ?_ (fun q hq => State.heap_setCell_other (by rw [hN]; exact Ne.symm hq)) rfl (fun q => rfl) (fun q hq => ⟨rfl, rfl, rfl, va_up_ne _ _ hq⟩) (hrA_arr (t := 8) ?_ (by decide) hba ?_)
    · simp [State.setCell]
    · show (mT (stN X 100 k k) (mN M)).1 = 100 + 8
      rw [hc8]
    · rw [← hN, hset, hN]
      refine congrArg some ?_
      rw [arr_q]
      show _ = vp_cell _ ((mT (stN X 100 k k) (mN M)).2, .inr (.inr (.inr (.inr (va_up (mR (stN X 100 k k)) (mN M) (va_up (mR X (mN M)) i (some (mN X))) (mN M))))))
      rw [va_up_self, ← hmR, ← vp_set_q, ← arr_q, he]
      have e5 : T.heap.size + 1 + i = mN X := by omega
      rw [← e5, hN]
      rfl
section MQC
variable {G : AG} {mi : Nat} {p : Program} {l : Launch} {e : Env} {R : Room} {s : State} {m : MethodId} {args : Array Value} {below : List Frame} {meth : Method} {c : Code} {H : Heap} {locs : List Loc} {cells slots : Nat} {Q : State → Prop}
variable {lsC : Array Slot} {ls ls' : ALs} {st st' : List Value} {M M' : AMem} {pc pc' len n0 s0 : Nat}
theorem sn_multi (F : FX G mi p l R s m meth c) {x : Nat} (hlk2 : lkC.any (fun e => e.1 == mOw mi && e.2.1 == x && decide (e.2.2.1 = "[[I")) = true) (hdg : decode (mC mi) pc = .ok (.multianewarray x 2, 4)) (hst : sStep mi (.multianewarray 8 2) len pc ls st M = some (.inl (pc', ls', st', M'))) (hl : lv_has lsC (mMx mi) ls) (hH : HR G M H) (hS : va_S (gA G) s.heap H locs) (hc : cells + n0 = mN M) (hs : slots + s0 = mS M) (hb1 : mN M' ≤ n0 + R.cells) (hb2 : mS M' ≤ s0 + R.slots) (kk : Kon G mi p l e R s m args below meth c Q n0 s0 pc' ls' st' M') : W p l e R s m args below meth c H locs cells slots Q (F0 m pc lsC st) := by
  obtain ⟨hx, hb, hml, hown, hin, hfr, hlo, hK, hKH, hsz, hlk, htr, htb, hrt, hmi⟩ := F
  simp only [sStep, amStep, a_nx] at hst
  split at hst
  · rename_i k n r
    split at hst
    · rename_i h0
      cases hst
      obtain ⟨hn, hk⟩ := h0
      obtain ⟨⟨o1, x1, C1, ps⟩, he, hf, hg⟩ := lk_any hlk2 lkC_ok
      simp only [Bool.and_eq_true, beq_iff_eq, decide_eq_true_eq] at hf hg
      obtain ⟨⟨z1, z2⟩, z3⟩ := hf
      subst z1; subst z2; subst z3
      have hN : H.size = mN M := hH.1
      obtain ⟨f1, f2, -⟩ := stM_facts M n.toNatClampNeg k.toNatClampNeg n.toNatClampNeg
      have hn1 := inb_lt hn
      have hk1 := inb_lt hk
      obtain ⟨kA, hkA, hkindA⟩ := hK.2.2.2.2.2.1
      obtain ⟨-, kC, hkC, cc, hkindC⟩ := (arr_of hK (t := 0) (by decide)).1 0 (fun _ => .null)
      have hnm : s.vm.findClass "[[I" = some (G.2.2.2.2.2 8) := ra_find (arr_of hK (t := 8) (by decide)).2
      intro T hT X
      obtain ⟨vm₁, hW, X', step⟩ := mq_step X hx hown (hK.w (lw_of hg) okw_cl args) hnm hkA hkindA hkC hkindC (g := F0 m pc lsC (.int k :: .int n :: r)) rfl (by rw [hb]; exact hdg) rfl (fun q => inb_in hn (Or.inl q)) (fun q => inb_in hk (Or.inl q)) (by omega) (by omega) (by omega) (by omega)
      have hH' : HR G M (T.setVm vm₁).heap := by rw [show (T.setVm vm₁).heap = H from hT]; exact hH
      have hHR := mq_HR hH' n.toNatClampNeg k.toNatClampNeg n.toNatClampNeg (Nat.le_refl _)
      obtain ⟨g1, -, -, -⟩ := mqF_facts (T.setVm vm₁) (G.2.2.2.2.2 8) (G.2.2.2.2.2 0) n.toNatClampNeg k.toNatClampNeg n.toNatClampNeg
      have hTs : (T.setVm vm₁).heap.size = H.size := by rw [show (T.setVm vm₁).heap = H from hT]
      have hS' : va_S (gA G) s.heap (mqF (T.setVm vm₁) (G.2.2.2.2.2 8) (G.2.2.2.2.2 0) n.toNatClampNeg k.toNatClampNeg n.toNatClampNeg).heap locs := ⟨by rw [g1, hTs]; have := hS.1; omega, fun q h1 h2 => by
        rw [mqF_old (T.setVm vm₁) _ _ _ _ (by rw [hTs]; exact Nat.lt_of_lt_of_le h1 hS.1), show (T.setVm vm₁).heap = H from hT]
        exact hS.2.1 q h1 h2, hS.2.2⟩
      obtain ⟨t, a1, b1⟩ := kk _ _ _ (cells + 1 + n.toNatClampNeg) (slots + n.toNatClampNeg + n.toNatClampNeg * k.toNatClampNeg) hl hHR hS' (by rw [f1]; omega) (by rw [f2]; omega) _ rfl X'
      refine ⟨t, step t ?_, b1⟩
      have e : T.heap.size = mN M := by rw [hT]; exact hN
      rw [e]
      exact a1
    · cases hst
  · cases hst
end MQC
