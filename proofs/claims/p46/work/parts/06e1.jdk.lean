/-! ===== "fjs".charAt: the JDK's own methods, by contracts; an int constant; new int[n][k] ===== -/
theorem dJ0_charAt_5068e_0 : decode cJ0_charAt_5068e 0 = .ok (.aload_n 0, 1) := by decide +kernel
theorem dJ0_charAt_5068e_1 : decode cJ0_charAt_5068e 1 = .ok (.invokevirtual 492, 3) := by decide +kernel
theorem dJ0_charAt_5068e_4 : decode cJ0_charAt_5068e 4 = .ok (.ifCond .eq 12, 3) := by decide +kernel
theorem dJ0_charAt_5068e_7 : decode cJ0_charAt_5068e 7 = .ok (.aload_n 0, 1) := by decide +kernel
theorem dJ0_charAt_5068e_8 : decode cJ0_charAt_5068e 8 = .ok (.getfield 9, 3) := by decide +kernel
theorem dJ0_charAt_5068e_11 : decode cJ0_charAt_5068e 11 = .ok (.iload_n 1, 1) := by decide +kernel
theorem dJ0_charAt_5068e_12 : decode cJ0_charAt_5068e 12 = .ok (.invokestatic 495, 3) := by decide +kernel
theorem dJ0_charAt_5068e_15 : decode cJ0_charAt_5068e 15 = .ok (.ireturn, 1) := by decide +kernel
theorem dJ0_charAt_5068e_16 : decode cJ0_charAt_5068e 16 = .ok (.aload_n 0, 1) := by decide +kernel
theorem dJ0_charAt_5068e_17 : decode cJ0_charAt_5068e 17 = .ok (.getfield 9, 3) := by decide +kernel
theorem dJ0_charAt_5068e_20 : decode cJ0_charAt_5068e 20 = .ok (.iload_n 1, 1) := by decide +kernel
theorem dJ0_charAt_5068e_21 : decode cJ0_charAt_5068e 21 = .ok (.invokestatic 498, 3) := by decide +kernel
theorem dJ0_charAt_5068e_24 : decode cJ0_charAt_5068e 24 = .ok (.ireturn, 1) := by decide +kernel
theorem dJ0_isLatin1_aae02_0 : decode cJ0_isLatin1_aae02 0 = .ok (.getstatic 38, 3) := by decide +kernel
theorem dJ0_isLatin1_aae02_3 : decode cJ0_isLatin1_aae02 3 = .ok (.ifCond .eq 14, 3) := by decide +kernel
theorem dJ0_isLatin1_aae02_6 : decode cJ0_isLatin1_aae02 6 = .ok (.aload_n 0, 1) := by decide +kernel
theorem dJ0_isLatin1_aae02_7 : decode cJ0_isLatin1_aae02 7 = .ok (.getfield 15, 3) := by decide +kernel
theorem dJ0_isLatin1_aae02_10 : decode cJ0_isLatin1_aae02 10 = .ok (.ifCond .ne 7, 3) := by decide +kernel
theorem dJ0_isLatin1_aae02_13 : decode cJ0_isLatin1_aae02 13 = .ok (.iconst 1, 1) := by decide +kernel
theorem dJ0_isLatin1_aae02_14 : decode cJ0_isLatin1_aae02 14 = .ok (.goto 4, 3) := by decide +kernel
theorem dJ0_isLatin1_aae02_17 : decode cJ0_isLatin1_aae02 17 = .ok (.iconst 0, 1) := by decide +kernel
theorem dJ0_isLatin1_aae02_18 : decode cJ0_isLatin1_aae02 18 = .ok (.ireturn, 1) := by decide +kernel
theorem dJ0_checkIndex_df160_0 : decode cJ0_checkIndex_df160 0 = .ok (.iload_n 0, 1) := by decide +kernel
theorem dJ0_checkIndex_df160_1 : decode cJ0_checkIndex_df160 1 = .ok (.iload_n 1, 1) := by decide +kernel
theorem dJ0_checkIndex_df160_2 : decode cJ0_checkIndex_df160 2 = .ok (.getstatic 1053, 3) := by decide +kernel
theorem dJ0_checkIndex_df160_5 : decode cJ0_checkIndex_df160 5 = .ok (.invokestatic 1059, 3) := by decide +kernel
theorem dJ0_checkIndex_df160_8 : decode cJ0_checkIndex_df160 8 = .ok (.pop, 1) := by decide +kernel
theorem dJ0_checkIndex_df160_9 : decode cJ0_checkIndex_df160 9 = .ok (.return_, 1) := by decide +kernel
theorem dJ1_charAt_3b067_0 : decode cJ1_charAt_3b067 0 = .ok (.iload_n 1, 1) := by decide +kernel
theorem dJ1_charAt_3b067_1 : decode cJ1_charAt_3b067 1 = .ok (.aload_n 0, 1) := by decide +kernel
theorem dJ1_charAt_3b067_2 : decode cJ1_charAt_3b067 2 = .ok (.arraylength, 1) := by decide +kernel
theorem dJ1_charAt_3b067_3 : decode cJ1_charAt_3b067 3 = .ok (.invokestatic 9, 3) := by decide +kernel
theorem dJ1_charAt_3b067_6 : decode cJ1_charAt_3b067 6 = .ok (.aload_n 0, 1) := by decide +kernel
theorem dJ1_charAt_3b067_7 : decode cJ1_charAt_3b067 7 = .ok (.iload_n 1, 1) := by decide +kernel
theorem dJ1_charAt_3b067_8 : decode cJ1_charAt_3b067 8 = .ok (.baload, 1) := by decide +kernel
theorem dJ1_charAt_3b067_9 : decode cJ1_charAt_3b067 9 = .ok (.sipush 255, 3) := by decide +kernel
theorem dJ1_charAt_3b067_12 : decode cJ1_charAt_3b067 12 = .ok (.iand, 1) := by decide +kernel
theorem dJ1_charAt_3b067_13 : decode cJ1_charAt_3b067 13 = .ok (.i2c, 1) := by decide +kernel
theorem dJ1_charAt_3b067_14 : decode cJ1_charAt_3b067 14 = .ok (.ireturn, 1) := by decide +kernel
theorem dJ3_checkIndex_8e157_0 : decode cJ3_checkIndex_8e157 0 = .ok (.iload_n 0, 1) := by decide +kernel
theorem dJ3_checkIndex_8e157_1 : decode cJ3_checkIndex_8e157 1 = .ok (.ifCond .lt 8, 3) := by decide +kernel
theorem dJ3_checkIndex_8e157_4 : decode cJ3_checkIndex_8e157 4 = .ok (.iload_n 0, 1) := by decide +kernel
theorem dJ3_checkIndex_8e157_5 : decode cJ3_checkIndex_8e157 5 = .ok (.iload_n 1, 1) := by decide +kernel
theorem dJ3_checkIndex_8e157_6 : decode cJ3_checkIndex_8e157 6 = .ok (.if_icmp .lt 10, 3) := by decide +kernel
theorem dJ3_checkIndex_8e157_9 : decode cJ3_checkIndex_8e157 9 = .ok (.aload_n 2, 1) := by decide +kernel
theorem dJ3_checkIndex_8e157_10 : decode cJ3_checkIndex_8e157 10 = .ok (.iload_n 0, 1) := by decide +kernel
theorem dJ3_checkIndex_8e157_11 : decode cJ3_checkIndex_8e157 11 = .ok (.iload_n 1, 1) := by decide +kernel
theorem dJ3_checkIndex_8e157_12 : decode cJ3_checkIndex_8e157 12 = .ok (.invokestatic 95, 3) := by decide +kernel
theorem dJ3_checkIndex_8e157_15 : decode cJ3_checkIndex_8e157 15 = .ok (.athrow, 1) := by decide +kernel
theorem dJ3_checkIndex_8e157_16 : decode cJ3_checkIndex_8e157 16 = .ok (.iload_n 0, 1) := by decide +kernel
theorem dJ3_checkIndex_8e157_17 : decode cJ3_checkIndex_8e157 17 = .ok (.ireturn, 1) := by decide +kernel
theorem okw_kc {a : String} {i : Nat} {v : Int32} : okw (.constant a i v) = true := rfl
theorem jW : decide (Cond.code yJ0_charAt_5068e cJ0_charAt_5068e 2 (some .char) ∈ lw_tbl) && decide (Cond.code yJ0_isLatin1_aae02 cJ0_isLatin1_aae02 1 (some .boolean) ∈ lw_tbl) && decide (Cond.code yJ1_charAt_3b067 cJ1_charAt_3b067 2 (some .char) ∈ lw_tbl) && decide (Cond.code yJ0_checkIndex_df160 cJ0_checkIndex_df160 2 none ∈ lw_tbl) && decide (Cond.code yJ3_checkIndex_8e157 cJ3_checkIndex_8e157 3 (some .int) ∈ lw_tbl)
  && decide (Cond.instanceMethod yJ0_charAt_5068e ∈ lw_tbl) && decide (Cond.instanceMethod yJ0_isLatin1_aae02 ∈ lw_tbl) && decide (Cond.static yJ1_charAt_3b067 ∈ lw_tbl) && decide (Cond.static yJ0_checkIndex_df160 ∈ lw_tbl) && decide (Cond.static yJ3_checkIndex_8e157 ∈ lw_tbl)
  && decide (Cond.selects "java/lang/String" yJ0_charAt_5068e yJ0_charAt_5068e ∈ lw_tbl) && decide (Cond.selects "java/lang/String" yJ0_isLatin1_aae02 yJ0_isLatin1_aae02 ∈ lw_tbl)
  && decide (Cond.initialized "java/lang/String" ∈ lw_tbl) && decide (Cond.initialized "java/lang/StringLatin1" ∈ lw_tbl) && decide (Cond.initialized "jdk/internal/util/Preconditions" ∈ lw_tbl)
  && decide (Cond.methodLink "java/lang/String" 492 yJ0_isLatin1_aae02 ∈ lw_tbl) && decide (Cond.methodLink "java/lang/String" 495 yJ1_charAt_3b067 ∈ lw_tbl) && decide (Cond.methodLink "java/lang/StringLatin1" 9 yJ0_checkIndex_df160 ∈ lw_tbl) && decide (Cond.methodLink "java/lang/String" 1059 yJ3_checkIndex_8e157 ∈ lw_tbl)
  && decide (Cond.fieldLink "java/lang/String" 9 "java/lang/String" "value" "[B" ∈ lw_tbl) && decide (Cond.fieldLink "java/lang/String" 15 "java/lang/String" "coder" "B" ∈ lw_tbl) && decide (Cond.fieldLink "java/lang/String" 38 "java/lang/String" "COMPACT_STRINGS" "Z" ∈ lw_tbl) && decide (Cond.fieldLink "java/lang/String" 1053 "jdk/internal/util/Preconditions" "SIOOBE_FORMATTER" "Ljava/util/function/BiFunction;" ∈ lw_tbl) = true := by decide +kernel
def Pj (G : AG) (as : List Value) : Array Value → State → Prop := fun v U => v = as.toArray ∧ KK G U ∧ KH G U U.heap ∧ G.1 ≤ U.heap.size
def Qj (r : Option Value) : Array Value → State → Outcome → State → Prop := fun _ st o t => o = .returned r ∧ t.heap = st.heap
theorem Pj_blind {G : AG} {as : List Value} : FrameBlind (Pj G as) := by
  intro a U g mk ⟨h1, h3, h4, h5⟩
  have hW : U.WarmedH (U.calling g mk a).vm := State.WarmedH.refl U
  exact ⟨h1, h3.warm hW, h4.kept hW.alike h5 (fun _ _ _ => rfl), h5⟩
section JD
variable {G : AG} {p : Program} {l : Launch} {e : Env} {R : Room} {s : State} {m : MethodId} {args : Array Value} {below : List Frame} {meth : Method} {c : Code} {H : Heap} {locs : List Loc} {cells slots : Nat} {Q : State → Prop}
variable {ls : Array Slot} {st rest : List Value} {pc : Nat}
theorem j_preS (hK : KK G s) (hKH : KH G s s.heap) (hsz : G.1 ≤ s.heap.size) (hS : va_S (gA G) s.heap H locs) (as : List Value) : PreS s H (Pj G as) as := by
  refine ⟨Pj_blind, fun U hU hW => ⟨rfl, hK.warm hW, ?_, by rw [hU]; exact Nat.le_trans hsz hS.1⟩⟩
  rw [hU]
  exact hKH.kept hW.alike hsz hS.2.1
theorem j_go {r : Option Value} {a : Array Value} (hr : va_Run p l e R s m args below meth c H locs cells slots 0 0 (F0 m pc ls st) rest (Qj r a) (fun _ => False)) (kk : W p l e R s m args below meth c H locs cells slots Q (F0 m (pc + 3) ls (r.toList ++ rest))) : W p l e R s m args below meth c H locs cells slots Q (F0 m pc ls st) := by
  intro T hT X
  obtain ⟨v9, st₀, t, T', L, h0, X', hL, e1, e2, ⟨ho, hh⟩, stp⟩ := hr T hT X
  cases ho
  have hLn : L = [] := List.eq_nil_iff_forall_not_mem.mpr (fun q hq => hL q hq)
  subst hLn
  rw [List.append_nil] at X'
  obtain ⟨t2, a1, b1⟩ := kk T' (by rw [e1, hh, h0]) X'
  exact ⟨t2, stp t2 a1, b1⟩
theorem j_runS {cc bytes : ByteArray} {own : String} {index : Nat} {y : MethodName} {maxL nL n : Nat} {ret : Option FieldType} {rm : Room} {as : List Value} {r : Option Value} (hK : KK G s) (hKH : KH G s s.heap) (hsz : G.1 ≤ s.heap.size) (hS : va_S (gA G) s.heap H locs) (hx : p.tables.exec = Jvm.exec) (hb : c.code = cc) (hml : c.maxLocals = nL) (hown : s.vm.findClass own = some m.cls)
    (hM : Met l y [.code y bytes maxL ret] rm (Pj G as) (Qj r) 0 0 (fun _ => False)) (hrc : rm.cells = 0) (hrs : rm.slots = 0) (hfr : rm.frames + 1 ≤ R.frames) (hlo : 8 + (maxL + 11) + rm.locals ≤ R.locals) (w1 : Cond.code y bytes maxL ret ∈ lw_tbl) (w2 : Cond.initialized y.cls ∈ lw_tbl) (w3 : Cond.methodLink own index y ∈ lw_tbl) (w4 : Cond.static y ∈ lw_tbl)
    (hne : y.cls ≠ "java/lang/invoke/MethodHandle" ∧ y.cls ≠ "java/lang/invoke/VarHandle") (hlen : (parseMethodDescriptor y.desc).map (fun d => d.parameters.length) = some n) (ha : as.length = n) (hls : ls.size = nL) (hst : st = as.reverse ++ rest) (hr8 : csum rest ≤ 8) (hdg : decode cc pc = .ok (.invokestatic index, 3)) (hc : cells ≤ R.cells) (hs : slots ≤ R.slots)
    (kk : W p l e R s m args below meth c H locs cells slots Q (F0 m (pc + 3) ls (r.toList ++ rest))) : W p l e R s m args below meth c H locs cells slots Q (F0 m pc ls st) := by
  have S : CallFix p m c cc nL s args [] own := ⟨hx, hb, hml, hown, fun w h => (List.not_mem_nil h).elim⟩
  refine j_go (va_runS S hM ⟨⟨hrc, hrs, hfr, hlo, fun w hw a' U hW => ?_, List.mem_cons_self, hK.w w1 okw_co args, hK.w w2 okw_in args, hne, fun sig h => ?_, hK.w w3 okw_ml args⟩, hK.w w4 okw_st args⟩ (j_preS hK hKH hsz hS as) rfl ha hls hst (lv_room hr8) hdg ⟨hc, hs⟩) kk
  · rw [List.mem_singleton.mp hw]
    exact okw_warm okw_co hW (fun A => hK.w w1 okw_co A) a'
  · rw [h] at hlen
    exact (Option.some.inj hlen).symm
theorem j_runV {cc bytes : ByteArray} {own C : String} {index b : Nat} {y : MethodName} {maxL nL n : Nat} {ret : Option FieldType} {rm : Room} {as : List Value} {r : Option Value} (hK : KK G s) (hKH : KH G s s.heap) (hsz : G.1 ≤ s.heap.size) (hS : va_S (gA G) s.heap H locs) (hx : p.tables.exec = Jvm.exec) (hb : c.code = cc) (hml : c.maxLocals = nL) (hown : s.vm.findClass own = some m.cls)
    (hrv : ∃ cell : Cell, H[b]? = some cell ∧ cell.vm.isStatics = false ∧ s.vm.findClass C = some cell.cls)
    (hM : Met l y [.code y bytes maxL ret] rm (Pj G (.ref b :: as)) (Qj r) 0 0 (fun _ => False)) (hrc : rm.cells = 0) (hrs : rm.slots = 0) (hfr : rm.frames + 1 ≤ R.frames) (hlo : 8 + (maxL + 11) + rm.locals ≤ R.locals) (w1 : Cond.code y bytes maxL ret ∈ lw_tbl) (w2 : Cond.initialized y.cls ∈ lw_tbl) (w3 : Cond.methodLink own index y ∈ lw_tbl) (w4 : Cond.instanceMethod y ∈ lw_tbl) (w5 : Cond.selects C y y ∈ lw_tbl)
    (hne : y.cls ≠ "java/lang/invoke/MethodHandle" ∧ y.cls ≠ "java/lang/invoke/VarHandle") (hlen : (parseMethodDescriptor y.desc).map (fun d => d.parameters.length) = some n) (ha : as.length = n) (hls : ls.size = nL) (hst : st = as.reverse ++ .ref b :: rest) (hr8 : csum rest ≤ 8) (hdg : decode cc pc = .ok (.invokevirtual index, 3)) (hc : cells ≤ R.cells) (hs : slots ≤ R.slots)
    (kk : W p l e R s m args below meth c H locs cells slots Q (F0 m (pc + 3) ls (r.toList ++ rest))) : W p l e R s m args below meth c H locs cells slots Q (F0 m pc ls st) := by
  have S : CallFix p m c cc nL s args [] own := ⟨hx, hb, hml, hown, fun w h => (List.not_mem_nil h).elim⟩
  have hp := j_preS hK hKH hsz hS (.ref b :: as)
  have hp2 : PreV s H C b (Pj G (.ref b :: as)) as := ⟨hp.1, hrv, hp.2⟩
  refine j_go (va_runV S hM ⟨⟨hrc, hrs, hfr, hlo, fun w hw a' U hW => ?_, List.mem_cons_self, hK.w w1 okw_co args, hK.w w2 okw_in args, hne, fun sig h => ?_, hK.w w3 okw_ml args⟩, hK.w w4 okw_im args, hK.w w5 rfl args⟩ hp2 rfl ha hls hst (lv_room hr8) hdg ⟨hc, hs⟩) kk
  · rw [List.mem_singleton.mp hw]
    exact okw_warm okw_co hW (fun A => hK.w w1 okw_co A) a'
  · rw [h] at hlen
    exact (Option.some.inj hlen).symm
end JD
def jRm (f lo : Nat) : Room := { frames := f, cells := 0, slots := 0, locals := lo }
theorem j_pre {l : Launch} {G : AG} {x n : Int32} {f : Value} (hf : f = .null ∨ ∃ t, f = .ref t) (h0 : ¬ x < 0) (h1 : x < n) : Met l yJ3_checkIndex_8e157 [.code yJ3_checkIndex_8e157 cJ3_checkIndex_8e157 3 (some .int)] (jRm 0 0) (Pj G [.int x, .int n, f]) (Qj (some (.int x))) 0 0 (fun _ => False) := by
  refine Met.ofW (cc := cJ3_checkIndex_8e157) (maxL := 3) (ret := some .int) (by decide) rfl ?_
  intro p e s m args below meth c s₁ B hml hv
  obtain ⟨rfl, hK, hKH, hsz⟩ := hv
  have hx := B.exec
  have hb := B.bytes
  have hl := lv_entry [.int x, .int n, f] (n := 3) (by rcases hf with rfl | ⟨t, rfl⟩ <;> exact Nat.le_of_ble_eq_true rfl)
  rw [lg_entry_eq]
  generalize (lg_sl [Value.int x, .int n, f] ++ List.replicate (3 - (lg_sl [Value.int x, .int n, f]).length) Slot.unset).toArray = ls at hl ⊢
  refine lv_iload_n hx hb dJ3_checkIndex_8e157_0 rfl (lv_at hl 0 rfl) ?_
  refine lv_if_lt (tgt := 9) hx hb dJ3_checkIndex_8e157_1 (by decide) (fun h => absurd h h0) (fun _ => ?_)
  refine lv_iload_n hx hb dJ3_checkIndex_8e157_4 rfl (lv_at hl 0 rfl) ?_
  refine lv_iload_n hx hb dJ3_checkIndex_8e157_5 rfl (lv_at hl 1 rfl) ?_
  refine lv_icmp_lt (tgt := 16) hx hb dJ3_checkIndex_8e157_6 (by decide) (fun _ => ?_) (fun h => absurd h1 h)
  refine lv_iload_n hx hb dJ3_checkIndex_8e157_16 rfl (lv_at hl 0 rfl) ?_
  exact W.iret hx hb B.returns (fun t ht hW => ⟨rfl, ht⟩) (fun q h => by cases h) dJ3_checkIndex_8e157_17 B.notSynchronized
theorem j_chk {l : Launch} {G : AG} {x n : Int32} (h0 : ¬ x < 0) (h1 : x < n) : Met l yJ0_checkIndex_df160 [.code yJ0_checkIndex_df160 cJ0_checkIndex_df160 2 none] (jRm 1 22) (Pj G [.int x, .int n]) (Qj none) 0 0 (fun _ => False) := by
  have h9 := jW
  simp only [Bool.and_eq_true, decide_eq_true_eq] at h9
  obtain ⟨⟨⟨⟨⟨⟨⟨⟨⟨⟨⟨⟨⟨⟨⟨⟨⟨⟨⟨⟨⟨⟨c1, c2⟩, c3⟩, c4⟩, c5⟩, i1⟩, i2⟩, i3⟩, i4⟩, i5⟩, s1⟩, s2⟩, n1⟩, n2⟩, n3⟩, l1⟩, l2⟩, l3⟩, l4⟩, f1⟩, f2⟩, f3⟩, f4⟩ := h9
  refine Met.ofW (cc := cJ0_checkIndex_df160) (maxL := 2) (ret := none) (by decide) rfl ?_
  intro p e s m args below meth c s₁ B hml hv
  obtain ⟨rfl, hK, hKH, hsz⟩ := hv
  have hx := B.exec
  have hb := B.bytes
  have hown : s.vm.findClass "java/lang/String" = some m.cls := findClass_of_methodNamed B.named
  have hl := lv_entry [.int x, .int n] (n := 2) (Nat.le_of_ble_eq_true rfl)
  rw [lg_entry_eq]
  generalize (lg_sl [Value.int x, .int n] ++ List.replicate (2 - (lg_sl [Value.int x, .int n]).length) Slot.unset).toArray = ls at hl ⊢
  refine lv_iload_n hx hb dJ0_checkIndex_df160_0 rfl (lv_at hl 0 rfl) ?_
  refine lv_iload_n hx hb dJ0_checkIndex_df160_1 rfl (lv_at hl 1 rfl) ?_
  have hkF := hKH.2.2.2.2.2.2.2
  have hgo : ∀ f : Value, (f = .null ∨ ∃ t, f = .ref t) → W p l e (jRm 1 22) s m [Value.int x, .int n].toArray below meth c s.heap [] 0 0 (MQ below (Qj none) [Value.int x, .int n].toArray s 0 0 (fun _ => False)) (F0 m (2 + 3) ls (f :: .int n :: [.int x])) := by
    intro f hf
    refine j_runS (y := yJ3_checkIndex_8e157) (n := 3) (rest := []) hK hKH hsz va_S.rf hx hb hml hown (j_pre hf h0 h1) rfl rfl (by decide) (by decide) c5 n3 l4 i5 (by decide +kernel) (by decide +kernel) rfl hl.1 rfl (by decide) dJ0_checkIndex_df160_5 (Nat.zero_le _) (Nat.zero_le _) ?_
    refine lv_pop hx hb dJ0_checkIndex_df160_8 rfl ?_
    exact W.vret hx hb B.returns (fun t ht hW => ⟨rfl, ht⟩) (fun q h => by cases h) dJ0_checkIndex_df160_9 B.notSynchronized
  rcases hkF with hz | ⟨t, hz⟩
  · exact va_gets hx hb hz va_S.rf hown (hK.w f4 okw_fl _) (fun _ h => h) dJ0_checkIndex_df160_2 (hgo .null (Or.inl rfl))
  · exact va_gets hx hb hz va_S.rf hown (hK.w f4 okw_fl _) (fun _ h => h) dJ0_checkIndex_df160_2 (hgo (.ref t) (Or.inr ⟨t, rfl⟩))
theorem chA_byte {x : Int32} (hx : inb x 3 = true) : (Int32.toUInt32 (([102, 106, 115] : List Int32).getD x.toNatClampNeg 0 &&& 255) % 65536).toInt32 = chA x ∧ (chA x = 102 ∨ chA x = 106 ∨ chA x = 115) := by
  have hlt := inb_lt hx
  have h0 : x.toNatClampNeg = 0 ∨ x.toNatClampNeg = 1 ∨ x.toNatClampNeg = 2 := by omega
  have hn : x = Int32.ofNat x.toNatClampNeg := by
    simp only [inb, Bool.and_eq_true, decide_eq_true_eq] at hx
    apply Int32.toInt_inj.mp
    have e1 : x.toInt = (x.toNatClampNeg : Int) := by
      show x.toInt = ((x.toInt.toNat : Nat) : Int)
      omega
    rw [e1]
    exact (nI_toInt (show x.toNatClampNeg < 2 ^ 31 by omega)).symm
  rcases h0 with h | h | h <;> rw [h] at hn ⊢ <;> subst hn <;> decide
theorem j_lat {l : Launch} {G : AG} : Met l yJ0_isLatin1_aae02 [.code yJ0_isLatin1_aae02 cJ0_isLatin1_aae02 1 (some .boolean)] (jRm 0 0) (Pj G [.ref (G.2.2.2.2.2 20)]) (Qj (some (.int 1))) 0 0 (fun _ => False) := by
  have h9 := jW
  simp only [Bool.and_eq_true, decide_eq_true_eq] at h9
  obtain ⟨⟨⟨⟨⟨⟨⟨⟨⟨⟨⟨⟨⟨⟨⟨⟨⟨⟨⟨⟨⟨⟨c1, c2⟩, c3⟩, c4⟩, c5⟩, i1⟩, i2⟩, i3⟩, i4⟩, i5⟩, s1⟩, s2⟩, n1⟩, n2⟩, n3⟩, l1⟩, l2⟩, l3⟩, l4⟩, f1⟩, f2⟩, f3⟩, f4⟩ := h9
  refine Met.ofW (cc := cJ0_isLatin1_aae02) (maxL := 1) (ret := some .boolean) (by decide) rfl ?_
  intro p e s m args below meth c s₁ B hml hv
  obtain ⟨rfl, hK, hKH, hsz⟩ := hv
  have hx := B.exec
  have hb := B.bytes
  have hown : s.vm.findClass "java/lang/String" = some m.cls := findClass_of_methodNamed B.named
  have hl := lv_entry [.ref (G.2.2.2.2.2 20)] (n := 1) (Nat.le_of_ble_eq_true rfl)
  rw [lg_entry_eq]
  generalize (lg_sl [Value.ref (G.2.2.2.2.2 20)] ++ List.replicate (1 - (lg_sl [Value.ref (G.2.2.2.2.2 20)]).length) Slot.unset).toArray = ls at hl ⊢
  obtain ⟨hkS, hkC, hkF⟩ := hKH.2.2.2.2.2
  refine va_gets hx hb hkC va_S.rf hown (hK.w f3 okw_fl _) (fun _ h => h) dJ0_isLatin1_aae02_0 ?_
  refine lv_if_eq (tgt := 17) hx hb dJ0_isLatin1_aae02_3 (by decide) (fun h => absurd h (by decide)) (fun _ => ?_)
  refine lv_aload_n hx hb dJ0_isLatin1_aae02_6 rfl (lv_at hl 0 rfl) ?_
  refine vk_getf hx hb (hkS.1 0 (by decide)).2.1 va_S.rf hown (hK.w f2 okw_fl _) (fun _ h => h) dJ0_isLatin1_aae02_7 ?_
  refine lv_if_ne (tgt := 17) hx hb dJ0_isLatin1_aae02_10 (by decide) (fun h => absurd rfl h) (fun _ => ?_)
  refine lv_iconst hx hb dJ0_isLatin1_aae02_13 rfl ?_
  refine lv_goto (tgt := 18) hx hb dJ0_isLatin1_aae02_14 (by decide) ?_
  exact W.zret hx hb B.returns (by decide) (fun t ht hW => ⟨rfl, ht⟩) (fun q h => by cases h) dJ0_isLatin1_aae02_18 B.notSynchronized
theorem j_sl1 {l : Launch} {G : AG} {x : Int32} (hx3 : inb x 3 = true) : Met l yJ1_charAt_3b067 [.code yJ1_charAt_3b067 cJ1_charAt_3b067 2 (some .char)] (jRm 2 43) (Pj G [.ref (G.2.2.2.2.2 21), .int x]) (Qj (some (.int (chA x)))) 0 0 (fun _ => False) := by
  have h9 := jW
  simp only [Bool.and_eq_true, decide_eq_true_eq] at h9
  obtain ⟨⟨⟨⟨⟨⟨⟨⟨⟨⟨⟨⟨⟨⟨⟨⟨⟨⟨⟨⟨⟨⟨c1, c2⟩, c3⟩, c4⟩, c5⟩, i1⟩, i2⟩, i3⟩, i4⟩, i5⟩, s1⟩, s2⟩, n1⟩, n2⟩, n3⟩, l1⟩, l2⟩, l3⟩, l4⟩, f1⟩, f2⟩, f3⟩, f4⟩ := h9
  obtain ⟨e9, e8⟩ := chA_byte hx3
  have hx0 : ¬ x < 0 := fun h => inb_in hx3 (Or.inl h)
  have hx1 : x < 3 := by
    have h7 := hx3
    simp only [inb, Bool.and_eq_true, decide_eq_true_eq] at h7
    exact Int32.lt_iff_toInt_lt.mpr (by rw [show (3 : Int32).toInt = 3 by decide]; exact h7.2)
  refine Met.ofW (cc := cJ1_charAt_3b067) (maxL := 2) (ret := some .char) (by decide) rfl ?_
  intro p e s m args below meth c s₁ B hml hv
  obtain ⟨rfl, hK, hKH, hsz⟩ := hv
  have hx := B.exec
  have hb := B.bytes
  have hown : s.vm.findClass "java/lang/StringLatin1" = some m.cls := findClass_of_methodNamed B.named
  have hl := lv_entry [.ref (G.2.2.2.2.2 21), .int x] (n := 2) (Nat.le_of_ble_eq_true rfl)
  rw [lg_entry_eq]
  generalize (lg_sl [Value.ref (G.2.2.2.2.2 21), .int x] ++ List.replicate (2 - (lg_sl [Value.ref (G.2.2.2.2.2 21), .int x]).length) Slot.unset).toArray = ls at hl ⊢
  obtain ⟨hkS, hkC, hkF⟩ := hKH.2.2.2.2.2
  have hkT := (hkS.1 0 (by decide)).2.2.2
  refine lv_iload_n hx hb dJ1_charAt_3b067_0 rfl (lv_at hl 1 rfl) ?_
  refine lv_aload_n hx hb dJ1_charAt_3b067_1 rfl (lv_at hl 0 rfl) ?_
  refine va_tlen (v := 3) hx hb hkT va_S.rf (by decide) dJ1_charAt_3b067_2 ?_
  refine j_runS (y := yJ0_checkIndex_df160) (n := 2) (as := [.int x, .int 3]) (rest := []) hK hKH hsz va_S.rf hx hb hml hown (j_chk hx0 hx1) rfl rfl (by decide) (by decide) c4 n1 l3 i4 (by decide +kernel) (by decide +kernel) rfl hl.1 rfl (by decide) dJ1_charAt_3b067_3 (Nat.zero_le _) (Nat.zero_le _) ?_
  refine lv_aload_n hx hb dJ1_charAt_3b067_6 rfl (lv_at hl 0 rfl) ?_
  refine lv_iload_n hx hb dJ1_charAt_3b067_7 rfl (lv_at hl 1 rfl) ?_
  refine va_tb (v := .int (([102, 106, 115] : List Int32).getD x.toNatClampNeg 0)) hx hb hkT va_S.rf (inb_in hx3) rfl dJ1_charAt_3b067_8 ?_
  refine lv_sipush (v := 255) hx hb dJ1_charAt_3b067_9 (by decide) ?_
  refine lv_iand hx hb dJ1_charAt_3b067_12 ?_
  refine lv_i2c (v := chA x) hx hb dJ1_charAt_3b067_13 e9 ?_
  exact W.zret hx hb B.returns (by rcases e8 with h | h | h <;> rw [h] <;> decide) (fun t ht hW => ⟨rfl, ht⟩) (fun q h => by cases h) dJ1_charAt_3b067_14 B.notSynchronized
theorem j_chr {l : Launch} {G : AG} {x : Int32} (hx3 : inb x 3 = true) : Met l yJ0_charAt_5068e [.code yJ0_charAt_5068e cJ0_charAt_5068e 2 (some .char)] (jRm 3 64) (Pj G [.ref (G.2.2.2.2.2 20), .int x]) (Qj (some (.int (chA x)))) 0 0 (fun _ => False) := by
  have h9 := jW
  simp only [Bool.and_eq_true, decide_eq_true_eq] at h9
  obtain ⟨⟨⟨⟨⟨⟨⟨⟨⟨⟨⟨⟨⟨⟨⟨⟨⟨⟨⟨⟨⟨⟨c1, c2⟩, c3⟩, c4⟩, c5⟩, i1⟩, i2⟩, i3⟩, i4⟩, i5⟩, s1⟩, s2⟩, n1⟩, n2⟩, n3⟩, l1⟩, l2⟩, l3⟩, l4⟩, f1⟩, f2⟩, f3⟩, f4⟩ := h9
  obtain ⟨e9, e8⟩ := chA_byte hx3
  refine Met.ofW (cc := cJ0_charAt_5068e) (maxL := 2) (ret := some .char) (by decide) rfl ?_
  intro p e s m args below meth c s₁ B hml hv
  obtain ⟨rfl, hK, hKH, hsz⟩ := hv
  have hx := B.exec
  have hb := B.bytes
  have hown : s.vm.findClass "java/lang/String" = some m.cls := findClass_of_methodNamed B.named
  have hl := lv_entry [.ref (G.2.2.2.2.2 20), .int x] (n := 2) (Nat.le_of_ble_eq_true rfl)
  rw [lg_entry_eq]
  generalize (lg_sl [Value.ref (G.2.2.2.2.2 20), .int x] ++ List.replicate (2 - (lg_sl [Value.ref (G.2.2.2.2.2 20), .int x]).length) Slot.unset).toArray = ls at hl ⊢
  obtain ⟨hkS, hkC, hkF⟩ := hKH.2.2.2.2.2
  have hrv := vk_recv (i := 0) hkS (by decide) va_S.rf
  refine lv_aload_n hx hb dJ0_charAt_5068e_0 rfl (lv_at hl 0 rfl) ?_
  refine j_runV (y := yJ0_isLatin1_aae02) (n := 0) (as := []) (rest := []) (C := "java/lang/String") hK hKH hsz va_S.rf hx hb hml hown hrv j_lat rfl rfl (by decide) (by decide) c2 n1 l1 i2 s2 (by decide +kernel) (by decide +kernel) rfl hl.1 rfl (by decide) dJ0_charAt_5068e_1 (Nat.zero_le _) (Nat.zero_le _) ?_
  refine lv_if_eq (tgt := 16) hx hb dJ0_charAt_5068e_4 (by decide) (fun h => absurd h (by decide)) (fun _ => ?_)
  refine lv_aload_n hx hb dJ0_charAt_5068e_7 rfl (lv_at hl 0 rfl) ?_
  refine vk_getf hx hb (hkS.1 0 (by decide)).2.2.1 va_S.rf hown (hK.w f1 okw_fl _) (fun _ h => h) dJ0_charAt_5068e_8 ?_
  refine lv_iload_n hx hb dJ0_charAt_5068e_11 rfl (lv_at hl 1 rfl) ?_
  refine j_runS (y := yJ1_charAt_3b067) (n := 2) (as := [.ref (G.2.2.2.2.2 21), .int x]) (rest := []) hK hKH hsz va_S.rf hx hb hml hown (j_sl1 hx3) rfl rfl (by decide) (by decide) c3 n2 l2 i3 (by decide +kernel) (by decide +kernel) rfl hl.1 rfl (by decide) dJ0_charAt_5068e_12 (Nat.zero_le _) (Nat.zero_le _) ?_
  exact W.zret hx hb B.returns (by rcases e8 with h | h | h <;> rw [h] <;> decide) (fun t ht hW => ⟨rfl, ht⟩) (fun q h => by cases h) dJ0_charAt_5068e_15 B.notSynchronized
theorem dc_ok {cc : ByteArray} {pc : Nat} {i : Instr} (h : (dcI cc pc).1 = i) (hn : i ≠ .nop) : decode cc pc = .ok (i, (dcI cc pc).2) := by
  unfold dcI at h ⊢
  cases hd : decode cc pc with
  | ok q =>
    rw [hd] at h
    simp only at h ⊢
    rw [← h]
  | error z =>
    rw [hd] at h
    exact absurd h.symm hn
theorem dc_ok2 {cc : ByteArray} {pc n : Nat} {i : Instr} (h : dcI cc pc = (i, n)) (hn : i ≠ .nop) : decode cc pc = .ok (i, n) := by
  have h1 := dc_ok (cc := cc) (pc := pc) (i := i) (by rw [h]) hn
  rw [h] at h1
  exact h1
section ST5
variable {G : AG} {mi : Nat} {p : Program} {l : Launch} {e : Env} {R : Room} {s : State} {m : MethodId} {args : Array Value} {below : List Frame} {meth : Method} {c : Code} {H : Heap} {locs : List Loc} {cells slots : Nat} {Q : State → Prop}
variable {lsC : Array Slot} {ls ls' : ALs} {st st' : List Value} {M M' : AMem} {pc pc' len n0 s0 : Nat}
theorem sn_goto_w (F : FX G mi p l R s m meth c) {x : Nat} {n : Int} (hlk2 : lkI.any (fun e => e.1 == mOw mi && e.2.1 == x && decide (e.2.2.1 = Int32.ofInt n)) = true) (hdg : decode (mC mi) pc = .ok (.ldc x, 2)) (hst : sStep mi (.goto_w n) len pc ls st M = some (.inl (pc', ls', st', M'))) (hl : lv_has lsC (mMx mi) ls) (hH : HR G M H) (hS : va_S (gA G) s.heap H locs) (hc : cells + n0 = mN M) (hs : slots + s0 = mS M) (hb1 : mN M' ≤ n0 + R.cells) (hb2 : mS M' ≤ s0 + R.slots) (kk : Kon G mi p l e R s m args below meth c Q n0 s0 pc' ls' st' M') : W p l e R s m args below meth c H locs cells slots Q (F0 m pc lsC st) := by
  obtain ⟨hx, hb, hml, hown, hin, hfr, hlo, hK, hKH, hsz, hlk, htr, htb, hrt, hmi⟩ := F
  simp only [sStep, amStep, a_nx] at hst
  cases hst
  obtain ⟨⟨o1, x1, k1, ps⟩, he, hf, hg⟩ := lk_any hlk2 lkI_ok
  simp only [Bool.and_eq_true, beq_iff_eq, decide_eq_true_eq] at hf hg
  obtain ⟨⟨z1, z2⟩, z3⟩ := hf
  subst z1; subst z2; subst z3
  exact lv_ldc hx hb hown (hK.w (lw_of hg) okw_kc args) hdg (kk _ _ _ _ _ hl hH hS hc hs)
theorem sn_chr (F : FX G mi p l R s m meth c) {k : Int} (hio : insOk mi (mC mi) (pc, .jsr_w k, len) = true) (hst : sStep mi (.jsr_w k) len pc ls st M = some (.inl (pc', ls', st', M'))) (hl : lv_has lsC (mMx mi) ls) (hH : HR G M H) (hS : va_S (gA G) s.heap H locs) (hc : cells + n0 = mN M) (hs : slots + s0 = mS M) (hb1 : mN M' ≤ n0 + R.cells) (hb2 : mS M' ≤ s0 + R.slots) (kk : Kon G mi p l e R s m args below meth c Q n0 s0 pc' ls' st' M') : W p l e R s m args below meth c H locs cells slots Q (F0 m pc lsC st) := by
  obtain ⟨hx, hb, hml, hown, hin, hfr, hlo, hK, hKH, hsz, hlk, htr, htb, hrt, hmi⟩ := F
  have h9 := jW
  simp only [Bool.and_eq_true, decide_eq_true_eq] at h9
  obtain ⟨⟨⟨⟨⟨⟨⟨⟨⟨⟨⟨⟨⟨⟨⟨⟨⟨⟨⟨⟨⟨⟨c1, c2⟩, c3⟩, c4⟩, c5⟩, i1⟩, i2⟩, i3⟩, i4⟩, i5⟩, s1⟩, s2⟩, n1⟩, n2⟩, n3⟩, l1⟩, l2⟩, l3⟩, l4⟩, f1⟩, f2⟩, f3⟩, f4⟩ := h9
  simp only [insOk] at hio
  split at hio
  · rename_i is j ix a1 a2 a3
    simp only [Bool.and_eq_true, beq_iff_eq, decide_eq_true_eq] at hio
    obtain ⟨⟨⟨⟨⟨⟨q1, q2⟩, q3⟩, q4⟩, q5⟩, q6⟩, q7⟩ := hio
    have d0 := dc_ok2 a1 (fun h => by cases h)
    have d2 := dc_ok2 a2 (fun h => by cases h)
    have d4 := dc_ok2 a3 (fun h => by cases h)
    subst q1; subst q4
    simp only [sStep, amStep, a_nx] at hst
    split at hst
    · rename_i x hlk3
      split at hst
      · rename_i h0
        cases hst
        obtain ⟨hx3, hcs⟩ := h0
        obtain ⟨⟨o1, x1, ps⟩, he, hf, hg⟩ := lk_any q5 lkH_ok
        simp only [Bool.and_eq_true, beq_iff_eq, decide_eq_true_eq] at hf hg
        obtain ⟨z1, z2⟩ := hf
        subst z2
        rw [z1] at hg
        have hcn : cnm (mOw mi) = "DeckmillLaw" := by rw [q3]; rfl
        rw [hcn] at hg hown
        obtain ⟨hkS, hkC, hkF⟩ := hKH.2.2.2.2.2
        have hrv := vk_recv (i := 0) hkS (by decide) hS
        refine va_ldcS hx hb hown hK.2.2.2.2.2.2 d0 ?_
        refine lv_iload hx hb d2 (lkp_at hl hlk3) ?_
        refine j_runV (y := yJ0_charAt_5068e) (n := 1) (as := [.int x]) (rest := st) (C := "java/lang/String") hK hKH hsz hS hx hb hml hown hrv (j_chr hx3) rfl rfl (by show 3 + 1 ≤ R.frames; omega) (by show 8 + (2 + 11) + 64 ≤ R.locals; omega) c1 n1 (lw_of hg) i1 s1 (by decide +kernel) (by decide +kernel) rfl hl.1 rfl hcs d4 (by omega) (by omega) ?_
        exact kk _ _ _ _ _ hl hH hS hc hs
      · cases hst
    · cases hst
  · cases hio
end ST5
