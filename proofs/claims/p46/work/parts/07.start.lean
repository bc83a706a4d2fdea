/-! THE CLAIM OUT OF ONE WALK OF THE LAW'S BODY. Your part is whole_start (and what it stands on); all else here is the same for every law, but numbers. -/
def R_law : String := "DeckmillLaw"
def lw_P (b : Addr) (xs : List Int32) (args : Array Value) (s : State) : Prop := args = #[.ref b] ∧ s.IntsAt b xs ∧ xs.length ≤ 260 ∧ (Jvm.Cond.and given_1 narrow_1).before args s = true
/-- what a walk over the start with the record d0 says of its end, said of the start itself -/
theorem lw_closed {s t : State} {o : Outcome} {d0 : Drawn} {L : List Loc} {k n : Nat} (hd0 : s.drawn.sameBut d0 lw_cs) (hv : ∃ v, o = .returned v) (hW : (s.setDrawn d0).WarmedH t.vm) (hs : (s.setDrawn d0).sameButNew ({ t with vm := s.vm } : State) L k n) : State.butDraws s t lw_cs (fun t1 => Framed s o t1 L k n) := by
  have h2 : t.drawn = d0 := congrArg State.drawn hs.1
  refine ⟨⟨hv, hW, State.sameButNew.setDrawn hs s.drawn⟩, ?_, by decide⟩
  rw [h2]
  exact hd0
def lw_Q (_ : Array Value) (s : State) (o : Outcome) (t : State) : Prop := o = .returned (some (.int 1)) ∧ State.butDraws s t lw_cs (fun t1 => Framed s o t1 [] 600104 7301314)
def lw_Z (below : List Frame) (a : Array Value) (s : State) : State → Prop := fun t => ∃ o, t.status = .running ∧ Ended t below o ∧ lw_Q a s o t
/-- the law's own end, with 1 on the stack, nothing written that was there before, its room as the claim has it; d0: the record of draws at this point (at the entry s.drawn: begin with 'refine W.base ?_' and 'have hd0 := Drawn.sameBut.refl s.drawn lw_cs') -/
theorem lw_ret {p : Program} {l : Launch} {e : Env} {s : State} {m : MethodId} {below : List Frame} {meth : Method} {c : Code} {b : Nat} {d0 : Drawn} (hd0 : s.drawn.sameBut d0 lw_cs) (hx : p.tables.exec = Jvm.exec) (hb : c.code = code) (hr : meth.sig.returnType = ret) (hlocks : meth.locks = false) {pc : Nat} {H : Heap} {ls : Array Slot} (hdg : decode code pc = .ok (.ireturn, 1)) : W p l e room_1 (s.setDrawn d0) m #[Value.ref b] below meth c H [] 600104 7301314 (lw_Z below #[Value.ref b] s) (F0 m pc ls [.int 1]) := by
  intro T hT X
  obtain ⟨fs, hret, hrun, hended, hW, hframe⟩ := X.leave (v := some (.int 1)) (hlocks := hlocks) (fun h => by rw [hr] at h; cases h)
  have hmeth' : T.vm.method? m = some meth := X.method'
  refine ⟨T.setFrames fs, ?_, .returned (some (.int 1)), hrun, hended, rfl, lw_closed hd0 ⟨_, rfl⟩ hW hframe⟩
  jvm_step X.here [X.here.top, hx, hb, hdg, hmeth', hr, ret, narrow_b1]
  (try refine ⟨rfl, ?_⟩); (try refine ⟨rfl, ?_⟩)
  first | (intro acts; rw [hret _ acts rfl rfl rfl]) | rw [hret _ _ rfl rfl rfl]
  exact Steps.refl _
/-- what holds at the law's entry: the machine, the code, the tables' words (any of lw_tbl by 'hts w (by decide +kernel)'), the script of L ints xs at the cell b, what the Statement gives of the start (any of its parts by flat_of_before) -/
def lw_At (p : Program) (s : State) (m : MethodId) (meth : Method) (c : Code) (b L : Nat) (xs : Nat → Int32) : Prop :=
  p.tables.exec = Jvm.exec ∧ c.code = code ∧ meth.sig.returnType = ret ∧ c.maxLocals = 24 ∧ s.vm.findClass R_law = some m.cls ∧ (∀ w ∈ lw_tbl, w.before #[Value.ref b] s = true) ∧ va_X b L xs s s.heap ∧ b < s.heap.size ∧ meth.locks = false ∧ (Jvm.Cond.and given_1 narrow_1).before #[Value.ref b] s = true
/-! ===== the claim, out of a run of the abstract machine ===== -/
theorem narS : lkS.all (fun e => decide (Cond.exactly (.string (cnm e.1) e.2.1) "java/lang/String" ∈ flatC (Jvm.Cond.and given_1 narrow_1))) = true := by decide +kernel
theorem narC : (List.range 5).all (fun i => (List.range 5).all (fun j => i == j || decide (Cond.not (.castable (enm i) (enm j)) ∈ flatC (Jvm.Cond.and given_1 narrow_1)))) = true := by decide +kernel
theorem narR : decide (Cond.isRef (.static Bundle.tN "UNASSIGNED_STACK" Bundle.steD) ∈ flatC (Jvm.Cond.and given_1 narrow_1)) && decide (Cond.isRef (.static Bundle.tN "SUPPRESSED_SENTINEL" Bundle.listD) ∈ flatC (Jvm.Cond.and given_1 narrow_1))
  && decide (Cond.laysStatic Bundle.tN "UNASSIGNED_STACK" Bundle.steD ∈ lw_tbl) && decide (Cond.laysStatic Bundle.tN "SUPPRESSED_SENTINEL" Bundle.listD ∈ lw_tbl) && decide (Cond.initialized Bundle.tN ∈ lw_tbl) = true := by decide +kernel
theorem lawC : mC lawM = code ∧ mMx lawM = 24 ∧ mRt lawM = ret ∧ cnm (mOw lawM) = R_law ∧ mKd lawM = 0 ∧ mTh lawM = mTh lawM ∧ (mHn lawM).isEmpty = true ∧ mLv lawM ≤ 11 ∧ mLo lawM ≤ 392 := ⟨rfl, rfl, rfl, rfl, rfl, rfl, rfl, by decide, by decide⟩
theorem okw_any {w : Cond} (hw : okw w = true) {s : State} {A0 : Array Value} (h : w.before A0 s = true) : ∀ A, w.before A s = true := by
  intro A
  simp only [okw, Bool.or_eq_true] at hw
  rcases hw with hw | hw
  · exact word_at (State.WarmedH.refl s) (good_of_word hw) h
  · cases w <;> first | (cases hw; done) | skip
    all_goals exact va_tabs rfl rfl h
/-- the memory at the law's entry: the script alone -/
def M00 (base b L : Nat) (xs : Nat → Int32) : AMem := (fun a => if a = b then (200, L) else (0, 0), fun a => if a = b then xs else fun _ => 0, fun _ _ => 0, fun _ _ => 0, fun _ _ => none, base, 0)
theorem aArr {s : State} (hA : ∀ w ∈ lw_tbl, okw w = true → ∀ A, w.before A s = true) : ∃ cA, ∀ t, t ≤ 4 → ArrOfT s cA (aTy t) ∧ va_RA s cA (aTy t) := by
  have h0 := arrW
  simp only [Bool.and_eq_true, decide_eq_true_eq] at h0
  obtain ⟨⟨⟨⟨h1, -⟩, -⟩, -⟩, -⟩ := h0
  obtain ⟨c, k, comp, g1, g2, g3⟩ := Cond.arrayClass_spec (args := #[]) (first := s) (o := none) (s := s) (idx := []) (hA _ h1 okw_ac #[])
  refine ⟨c, fun t ht => ?_⟩
  have e : aTy t = .int := if_pos ht
  rw [e]
  exact ⟨fun n z => ⟨fun k h => (by cases h), k, g2, comp, g3⟩, g1⟩
/-- the class of int[][] -/
theorem aArr8 {s : State} {A0 : Array Value} (h : (Cond.arrayOver (.array .int)).before A0 s = true) : ∃ comp c k, s.vm.findClass "[I" = some comp ∧ s.vm.classes[c]? = some k ∧ k.kind = .array comp (.array .int) ∧ s.vm.findClass "[[I" = some c := by
  have h : (Cond.arrayOver (.array .int)).holds A0 s none s [] = true := h
  simp only [Cond.holds, Cond.value, beq_iff_eq] at h
  cases hc : s.vm.findClass (FieldType.array .int).toString with
  | none => simp [hc] at h
  | some comp =>
    simp only [hc, Option.bind_some, Option.bind_eq_some_iff, Option.map_eq_some_iff] at h
    obtain ⟨c, hi, k, hk, hb⟩ := h
    obtain ⟨hlt, hp, -⟩ := Array.findIdx?_eq_some_iff_getElem.mp hi
    have hkk : s.vm.classes[c] = k := (Array.getElem?_eq_some_iff.mp hk).2
    rw [hkk] at hp
    cases hkind : k.kind with
    | array component ty =>
      rw [hkind] at hb hp
      simp at hb hp
      exact ⟨comp, c, k, hc, hk, by rw [hkind, hp, hb.1], hb.2⟩
    | _ => rw [hkind] at hb; simp at hb
theorem aArr2 {s : State} {t : Nat} (ht : 5 ≤ t) (ht2 : t ≤ 7) (h : va_AO (aElm t) s) : ∃ cA, ArrOfT s cA (aTy t) ∧ va_RA s cA (aTy t) := by
  obtain ⟨comp, c, k, g1, g2, g3, g4, g5⟩ := Cond.arrayOver_spec (va_AO.use (A := #[]) h)
  have e : aTy t = .object (aElm t) := by
    have h : t = 5 ∨ t = 6 ∨ t = 7 := by omega
    rcases h with rfl | rfl | rfl <;> rfl
  rw [e]
  exact ⟨c, fun n z => ⟨fun k h => (by cases h), k, g3, comp, g4⟩, k, comp, g3, g4, g1, g5⟩
def narL : List Cond := [.exactly (.string "DeckmillLaw" 135) "java/lang/String", .eq (.field (.string "DeckmillLaw" 135) "java/lang/String" "coder" "B") (.int 0), .arrayOf (.field (.string "DeckmillLaw" 135) "java/lang/String" "value" "[B") .byte, .eq (.length (.field (.string "DeckmillLaw" 135) "java/lang/String" "value" "[B")) (.int (Int32.ofNat 3)),
    .eq (.elem (.field (.string "DeckmillLaw" 135) "java/lang/String" "value" "[B") (.int (Int32.ofNat 0))) (.int 102), .eq (.elem (.field (.string "DeckmillLaw" 135) "java/lang/String" "value" "[B") (.int (Int32.ofNat 1))) (.int 106), .eq (.elem (.field (.string "DeckmillLaw" 135) "java/lang/String" "value" "[B") (.int (Int32.ofNat 2))) (.int 115),
    .eq (.static "java/lang/String" "COMPACT_STRINGS" "Z") (.int 1), .isRef (.static "jdk/internal/util/Preconditions" "SIOOBE_FORMATTER" "Ljava/util/function/BiFunction;")]
theorem narK0 : narL.all (fun w => decide (w ∈ flatC (Jvm.Cond.and given_1 narrow_1))) = true := by decide +kernel
theorem narK : ∀ w ∈ narL, w ∈ flatC (Jvm.Cond.and given_1 narrow_1) := fun w hw => of_decide_eq_true (List.all_eq_true.mp narK0 w hw)
theorem narT : decide (Cond.laysStatic "java/lang/String" "COMPACT_STRINGS" "Z" ∈ lw_tbl) && decide (Cond.initialized "java/lang/String" ∈ lw_tbl) && decide (Cond.laysStatic "jdk/internal/util/Preconditions" "SIOOBE_FORMATTER" "Ljava/util/function/BiFunction;" ∈ lw_tbl) && decide (Cond.initialized "jdk/internal/util/Preconditions" ∈ lw_tbl) && decide (Cond.stringRef "DeckmillLaw" 135 "fjs" ∈ lw_tbl) = true := by decide +kernel
theorem hstr {s : State} {b : Nat} (hnar : ∀ w ∈ flatC (Jvm.Cond.and given_1 narrow_1), w.before #[Value.ref b] s = true) (hts : ∀ w ∈ lw_tbl, w.before #[Value.ref b] s = true) : ∃ sK sV : Nat, (∀ A : Nat → Prop, (∀ a : Nat, a < s.heap.size → ¬ A a) → vk_S 1 [3] [[102, 106, 115]] (fun _ => sK) (fun _ => sV) A s s.heap) ∧ vk_R "DeckmillLaw" 135 "fjs" sK s
    ∧ (∀ A : Nat → Prop, (∀ a : Nat, a < s.heap.size → ¬ A a) → va_Z "java/lang/String" "COMPACT_STRINGS" "Z" (.int 1) A s s.heap) ∧ (∀ A : Nat → Prop, (∀ a : Nat, a < s.heap.size → ¬ A a) → va_Zq "jdk/internal/util/Preconditions" "SIOOBE_FORMATTER" "Ljava/util/function/BiFunction;" A s s.heap) := by
  have h0 := narT
  simp only [Bool.and_eq_true, decide_eq_true_eq] at h0
  obtain ⟨⟨⟨⟨t1, t2⟩, t3⟩, t4⟩, t5⟩ := h0
  have hn : ∀ w : Cond, w ∈ narL → w.before #[Value.ref b] s = true := fun w hw => hnar w (narK w hw)
  obtain ⟨adK, adV, hS, hE⟩ := vk_Sof (args := #[Value.ref b]) (s := s) (N := 1) (tm := fun _ => .string "DeckmillLaw" 135) (len := [3]) (byt := [[102, 106, 115]]) (A := fun q => s.heap.size ≤ q)
    (fun i hi => by have : i = 0 := by omega
                    subst this; decide)
    (fun i hi => hn _ (by simp [narL])) (fun i hi => hn _ (by simp [narL])) (fun i hi => hn _ (by simp [narL]))
    (fun i hi => by have : i = 0 := by omega
                    subst this; exact hn _ (by simp [narL]))
    (fun i hi j hj => by
      have : i = 0 := by omega
      subst this
      have hj : j < 3 := hj
      have : j = 0 ∨ j = 1 ∨ j = 2 := by omega
      rcases this with rfl | rfl | rfl
      · exact hn _ (by simp [narL])
      · exact hn _ (by simp [narL])
      · exact hn _ (by simp [narL]))
    (fun i j hi hj hij => by omega) (fun a ha => by omega)
  refine ⟨adK 0, adV 0, fun A hA => ⟨fun i hi => ?_, fun i j hi hj _ => by omega⟩, vk_R.of (hts _ t5) (hE 0 (by decide)), fun A hA => va_Zof (hts _ t1) (hts _ t2) (va_eqi (hn _ (by simp [narL]))) hA, fun A hA => va_Zqof (hts _ t3) (hts _ t4) (hn _ (by simp [narL])) hA⟩
  have : i = 0 := by omega
  subst this
  obtain ⟨⟨c1, a1, a2, a3, -⟩, ⟨x1, x2, x3, x4, x5, x6, x7, x8, x9, x10, -⟩, ⟨y1, y2, y3, y4, y5, y6, y7, y8, y9, y10, -⟩, ⟨z1, z2, z3, z4, z5, z6, z7, -⟩⟩ := hS.1 0 hi
  exact ⟨⟨c1, a1, a2, a3, hA _ (Array.getElem?_eq_some_iff.mp a1).1⟩, ⟨x1, x2, x3, x4, x5, x6, x7, x8, x9, x10, hA _ (Array.getElem?_eq_some_iff.mp x8).1⟩, ⟨y1, y2, y3, y4, y5, y6, y7, y8, y9, y10, hA _ (Array.getElem?_eq_some_iff.mp y8).1⟩, ⟨z1, z2, z3, z4, z5, z6, z7, hA _ (Array.getElem?_eq_some_iff.mp z2).1⟩⟩
set_option maxHeartbeats 4000000 in
/-- what the abstract machine answers at the law is what the law does -/
theorem start_of {p : Program} {e : Env} {s : State} {m : MethodId} {below : List Frame} {meth : Method} {c : Code} (l : Launch) (hflags : l.flags = flags0) {b L : Nat} {xs : Nat → Int32} (hL : L ≤ 260) (C0 : lw_At p s m meth c b L xs)
    (hemp : c.exceptionTable.toList = []) (hrun : ∃ n Mf, amExec n lawM 0 [(0, .ref b)] [] (M00 s.heap.size b L xs) = some (Mf, .inl (some (.int 1))) ∧ mN Mf ≤ s.heap.size + 600104 ∧ mS Mf ≤ 7301314) : W p l e room_1 s m #[Value.ref b] below meth c s.heap [] 0 0 (lw_Z below #[Value.ref b] s) (entryFrame m ([Value.ref b] : List Value).toArray 24) := by
  obtain ⟨hx, hb, hr, hml, hown, hts, hX, hbl, hlocks, hgv⟩ := id C0
  obtain ⟨n, Mf, hex, hN, hSl⟩ := hrun
  have hnar := flat_of_before _ hgv
  obtain ⟨l1, l2, l3, l4, l5, l6, l7, l8, l9⟩ := lawC
  have hW1 : ∀ w ∈ lw_tbl, okw w = true → ∀ A, w.before A s = true := fun w hw ho => okw_any ho (hts w hw)
  have hcl : ∀ k : Nat, ∃ z : ClassId × (Nat → Nat), k ≤ 8 → u_Kn s (cnm k) (clT k) (clN k) z.1 z.2 := by
    intro k
    by_cases hk : k ≤ 8
    · have h9 := all_lt cls_ini (show k < 9 by omega)
      simp only [Bool.and_eq_true, decide_eq_true_eq] at h9
      obtain ⟨c9, i9, h⟩ := u_known (ws := u_ws (cnm k) (clT k) (clN k)) (C := cnm k) (T := clT k) (N := clN k) (n := clN k) (args := #[Value.ref b]) (s := s) (fun w hw => by
        have h1 := List.all_eq_true.mp (all_lt cls_ws (show k < 9 by omega)) w hw
        simp only [Bool.and_eq_true, decide_eq_true_eq] at h1
        exact hts w h1.1) (fun w hw => hw) (hts _ h9.1.1)
      exact ⟨(c9, i9), fun _ => h⟩
    · exact ⟨(0, fun _ => 0), fun h => absurd h hk⟩
  obtain ⟨z, hz⟩ := Classical.axiomOfChoice hcl
  have h0 := arrW
  simp only [Bool.and_eq_true, decide_eq_true_eq] at h0
  obtain ⟨⟨⟨⟨w1, w8⟩, w5⟩, w6⟩, w7⟩ := h0
  have hAO : ∀ t, 5 ≤ t → t ≤ 7 → va_AO (aElm t) s := by
    intro t h5 h7
    have h : t = 5 ∨ t = 6 ∨ t = 7 := by omega
    rcases h with rfl | rfl | rfl
    · exact va_AO.of (hts _ w5)
    · exact va_AO.of (hts _ w6)
    · exact va_AO.of (hts _ w7)
  obtain ⟨cI, hcI⟩ := aArr hW1
  obtain ⟨comp8, c8, k8, i1, i2, i3, i4⟩ := aArr8 (hts _ w8)
  have ecI : comp8 = cI := Option.some.inj (i1.symm.trans (ra_find (hcI 0 (by decide)).2))
  subst ecI
  have harN := hstr hnar hts
  obtain ⟨sK, sV, hkS, hkR, hkC, hkF⟩ := harN
  have har : ∀ t : Nat, ∃ cA : ClassId, (t ≤ 8 → ArrOfT s cA (aTy t) ∧ va_RA s cA (aTy t)) ∧ (t ≤ 4 → cA = comp8) ∧ (t = 8 → cA = c8) ∧ (t = 20 → cA = sK) ∧ (t = 21 → cA = sV) := by
    intro t
    by_cases h4 : t ≤ 4
    · exact ⟨comp8, fun _ => hcI t h4, fun _ => rfl, fun h => by omega, fun h => by omega, fun h => by omega⟩
    · by_cases h7 : t ≤ 7
      · obtain ⟨cA, h⟩ := aArr2 (by omega) h7 (hAO t (by omega) h7)
        exact ⟨cA, fun _ => h, fun h => by omega, fun h => by omega, fun h => by omega, fun h => by omega⟩
      · by_cases h8 : t = 8
        · subst h8
          exact ⟨c8, fun _ => ⟨fun n z => ⟨fun k h => (by cases h), k8, i2, comp8, i3⟩, i4⟩, fun h => by omega, fun _ => rfl, fun h => by omega, fun h => by omega⟩
        · exact ⟨if t = 20 then sK else sV, fun h => by omega, fun h => by omega, fun h => by omega, fun h => if_pos h, fun h => if_neg (by omega)⟩
  obtain ⟨cT, hcT0⟩ := Classical.axiomOfChoice har
  have hcT := fun t => (hcT0 t).1
  have hc0 := (hcT0 0).2.1 (by decide)
  have hc8 := (hcT0 8).2.2.1 rfl
  have hc20 := (hcT0 20).2.2.2.1 rfl
  have hc21 := (hcT0 21).2.2.2.2 rfl
  generalize hG : ((s.heap.size, b, L, xs, (fun k => (z k).1, fun k => (z k).2), cT) : AG) = G
  have g1 : G.1 = s.heap.size := by rw [← hG]
  have hA : ∀ a : Nat, a < s.heap.size → ¬ gA G a := fun a ha => by unfold gA; rw [g1]; omega
  have hR := narR
  simp only [Bool.and_eq_true, decide_eq_true_eq] at hR
  have hKK : KK G s := by
    refine ⟨hW1, fun e9 he => ?_, fun i j hi hj hn => ?_, ⟨fun k q hq => ?_, fun k q hq => ?_⟩, hAO, ?_, ?_⟩
    · have h1 := of_decide_eq_true (List.all_eq_true.mp narS e9 he)
      obtain ⟨a, c9, cA, kA, q1, -⟩ := Cond.exactly_spec (args := #[Value.ref b]) (first := s) (o := none) (s := s) (idx := []) (hnar _ h1)
      have h2 := of_decide_eq_true (List.all_eq_true.mp lkS_ok e9 he)
      exact ⟨a, vk_R.of (hts _ (lw_of h2)) q1⟩
    · have h1 := all_lt (all_lt narC hi) hj
      simp only [Bool.or_eq_true, beq_iff_eq, decide_eq_true_eq] at h1
      exact va_Nc.of (hnar _ (h1.resolve_left hn))
    · have hk : k ≤ 8 := by
        have hlt := (List.getElem?_eq_some_iff.mp hq).1
        have e9 : awCl.length = 9 := rfl
        omega
      rw [vw_at hk] at hq
      cases hq
      rw [← hG]
      exact hz k hk
    · have hk : k ≤ 8 := by
        have hlt := (List.getElem?_eq_some_iff.mp hq).1
        unfold tysA at hlt
        rw [List.length_map, List.length_range] at hlt
        omega
      rw [tys_at hk] at hq
      cases hq
      rw [← hG]
      exact hcT k hk
    · rw [← hG]
      refine ⟨k8, ?_, ?_⟩
      · show s.vm.classes[cT 8]? = some k8
        rw [hc8]; exact i2
      · show k8.kind = Kind.array (cT 0) (FieldType.array .int)
        rw [hc0]; exact i3
    · rw [← hG]
      show vk_R _ _ _ (cT 20) s
      rw [hc20]
      exact hkR
  have hKH : KH G s s.heap := by
    refine ⟨by rw [← hG]; exact hX, by rw [← hG]; exact hbl, by rw [← hG]; show L < 2 ^ 31; omega, ?_, ?_, ?_⟩
    · exact vx_Zqof (hts _ hR.1.1.2) (hts _ hR.2) (hnar _ hR.1.1.1.1) hA
    · exact vx_Zqof (hts _ hR.1.2) (hts _ hR.2) (hnar _ hR.1.1.1.2) hA
    · have e : G.2.2.2.2.2 = cT := by rw [← hG]
      rw [e]
      refine ⟨?_, hkC (gA G) hA, hkF (gA G) hA⟩
      rw [hc20, hc21]
      exact hkS (gA G) hA
  have hHR : HR G (M00 s.heap.size b L xs) s.heap := by
    refine ⟨rfl, by rw [g1]; exact Nat.le_refl _, fun a => ?_⟩
    rw [← hG]
    by_cases ha : a = b
    · refine Or.inr (Or.inr (Or.inr ⟨?_, ha, ?_, ?_⟩)) <;> simp [M00, mT, mI, ha]
    · exact Or.inl (by simp [M00, mT, ha])
  have hWr : s.WarmedH (s.setDrawn s.drawn).vm := State.WarmedH.refl s
  have htr : l.stackTraces = false := by
    have : l.stackTraces = !(l.flags.contains noTraceFlag) := rfl
    rw [this, hflags]
    decide
  have k1 : mKd lawM = 2 → meth.name = "<init>" := fun h => absurd (l5.symm.trans h) (by decide)
  have k2 : (mTh lawM = true ∨ (mHn lawM).isEmpty = false) → c.exceptionTable.toList = tableOf ((mHn lawM).map (fun h => (h.1, h.2.1, h.2.2.1, h.2.2.2.1))) := by
    intro _
    rw [hemp, List.isEmpty_iff.mp l7]
    rfl
  have F : FX G lawM p l room_1 (s.setDrawn s.drawn) m meth c := ⟨hx, by rw [hb, l1], by rw [hml, l2], by rw [l4]; exact hown, k1, l8, l9, hKK.warm hWr, hKH.kept hWr.alike (Nat.le_of_eq g1) (fun _ _ _ => rfl), Nat.le_of_eq g1, hlocks, htr, k2, by rw [hr, l3], Nat.le_refl _⟩
  have hd0 := Drawn.sameBut.refl s.drawn lw_cs
  refine W.base ?_
  have hl := lv_entry ([.ref b]) (n := 24) (Nat.le_of_ble_eq_true rfl)
  rw [lg_entry_eq]
  generalize (lg_sl ([.ref b]) ++ List.replicate (24 - (lg_sl ([.ref b])).length) Slot.unset).toArray = lsC at hl ⊢
  refine exec_all htr n lawM 0 _ [] _ _ hex p e room_1 (s.setDrawn s.drawn) m #[Value.ref b] below meth c s.heap [] 0 0 _ lsC s.heap.size 0 F (by rw [l2]; exact hl) hHR va_S.rf (Nat.zero_add _) rfl hN (by show mS Mf ≤ 0 + 7301314; omega) ?_ ?_
  · intro v hv pc9 len9 i9 ls9 lsC9 H9 locs9 cells9 slots9 hio hst hH9 hS9 hc9 hs9
    cases hv
    have hi : i9 = .ireturn := by
      cases i9 <;> first | rfl | skip
      all_goals (simp only [sStep, amStep, a_nx, a_ii, a_jj, a_ji, a_ld, a_st, a_if, a_ald, a_call] at hst; (repeat' split at hst); all_goals first | (cases hst; done) | (rename_i h; cases h; done))
    subst hi
    obtain ⟨hd, -, -⟩ := ins_plain rfl hio
    rw [l1] at hd
    refine va_forget (fun q hq => ?_) ?_
    · have := hS9.2.2 q hq
      unfold gA at this
      rw [g1] at this
      exact this
    · dsimp only at hN hSl hc9 hs9
      refine W.widen (k := 600104) (n := 7301314) (by omega) (by omega) ?_
      exact lw_ret hd0 hx hb hr hlocks hd
  · intro k hk
    cases hk
