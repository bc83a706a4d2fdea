/-! ===== steps: new cells, stores of references, the library's own ===== -/
theorem el_kind {k : Nat} (h1 : 105 ≤ k) (h2 : k ≤ 106) : ∃ t ci, k = 100 + t ∧ 5 ≤ t ∧ t ≤ 7 ∧ elK k = 1 + ci ∧ ci ≤ 8 ∧ cnm ci = aElm t := by
  have h : k = 105 ∨ k = 106 := by omega
  rcases h with rfl | rfl
  · exact ⟨5, elK 105 - 1, rfl, by decide, by decide, by decide, by decide, by decide⟩
  · exact ⟨6, elK 106 - 1, rfl, by decide, by decide, by decide, by decide, by decide⟩
theorem arr_words {t : ArrayType} (h : atc t = 0) : Cond.arrayClass (newarray.typeOf t) ∈ lw_tbl ∧ newarray.typeOf t = aTy (atc t) := by
  have h0 := arrW
  simp only [Bool.and_eq_true, decide_eq_true_eq] at h0
  obtain ⟨⟨⟨⟨h1, -⟩, -⟩, -⟩, -⟩ := h0
  cases t <;> first | (exact ⟨h1, rfl⟩) | (exact absurd h (by decide))
theorem new_arr (cA : ClassId) {M : AMem} {t n sl : Nat} (ht : t = 0 ∨ 5 ≤ t ∧ t ≤ 8) : vp_cell cA (arrOf (stN M (100 + t) n sl) (mN M) t) = arrV cA n (fun _ => defaultValue (aTy t)) := by
  have e1 : mT (stN M (100 + t) n sl) (mN M) = (100 + t, n) := va_up_self _ _ _
  have e2 : mI (stN M (100 + t) n sl) (mN M) = fun _ => 0 := va_up_self _ _ _
  have e3 : mL (stN M (100 + t) n sl) (mN M) = fun _ => 0 := va_up_self _ _ _
  have e4 : mD (stN M (100 + t) n sl) (mN M) = fun _ => 0 := va_up_self _ _ _
  have e5 : mR (stN M (100 + t) n sl) (mN M) = fun _ => none := va_up_self _ _ _
  unfold arrOf
  rw [e1, e2, e3, e4, e5]
  have h : t = 0 ∨ t = 5 ∨ t = 6 ∨ t = 7 ∨ t = 8 := by omega
  rcases h with rfl | rfl | rfl | rfl | rfl <;> rfl
theorem ra_find {s : State} {cA : ClassId} {ty : FieldType} (h : va_RA s cA ty) : s.vm.findClass ("[" ++ ty.toString) = some cA := by
  cases ty with
  | object C =>
    obtain ⟨kA, comp, h1, h2, h3, h4⟩ := h
    exact h4
  | _ => exact h
section ST4
variable {G : AG} {mi : Nat} {p : Program} {l : Launch} {e : Env} {R : Room} {s : State} {m : MethodId} {args : Array Value} {below : List Frame} {meth : Method} {c : Code} {H : Heap} {locs : List Loc} {cells slots : Nat} {Q : State → Prop}
variable {lsC : Array Slot} {ls ls' : ALs} {st st' : List Value} {M M' : AMem} {pc pc' len n0 s0 : Nat}
theorem jdkW : decide (Cond.initialized "java/lang/Math" ∈ lw_tbl) && decide (Cond.static Jvm.Lib.Math.max.name ∈ lw_tbl) && decide (Cond.static Jvm.Lib.Math.min.name ∈ lw_tbl) && decide (Cond.static Jvm.Lib.Math.abs.name ∈ lw_tbl)
  && decide (Cond.code Jvm.Lib.Math.max.name Jvm.Lib.Math.max.code 2 (some .int) ∈ lw_tbl) && decide (Cond.code Jvm.Lib.Math.min.name Jvm.Lib.Math.min.code 2 (some .int) ∈ lw_tbl) && decide (Cond.code Jvm.Lib.Math.abs.name Jvm.Lib.Math.abs.code 1 (some .int) ∈ lw_tbl) = true := by decide +kernel
theorem objW : decide (Cond.instanceMethod Jvm.Lib.objectInit ∈ lw_tbl) && decide (Cond.code Jvm.Lib.objectInit ⟨#[0xb1]⟩ 1 none ∈ lw_tbl) = true := by decide +kernel
theorem sn_ldc2_w (F : FX G mi p l R s m meth c) {x k : Nat} (hlk2 : lkL.any (fun e => e.1 == mOw mi && e.2.1 == x && e.2.2.1 == k) = true) (hdg : decode (mC mi) pc = .ok (.ldc2_w x, 3)) (hst : sStep mi (.ldc2_w k) len pc ls st M = some (.inl (pc', ls', st', M'))) (hl : lv_has lsC (mMx mi) ls) (hH : HR G M H) (hS : va_S (gA G) s.heap H locs) (hc : cells + n0 = mN M) (hs : slots + s0 = mS M) (hb1 : mN M' ≤ n0 + R.cells) (hb2 : mS M' ≤ s0 + R.slots) (kk : Kon G mi p l e R s m args below meth c Q n0 s0 pc' ls' st' M') : W p l e R s m args below meth c H locs cells slots Q (F0 m pc lsC st) := by
  obtain ⟨hx, hb, hml, hown, hin, hfr, hlo, hK, hKH, hsz, hlk, htr, htb, hrt, hmi⟩ := F
  simp only [sStep, amStep, a_nx] at hst
  cases hst
  obtain ⟨⟨o1, x1, k1, ps⟩, he, hf, hg⟩ := lk_any hlk2 lkL_ok
  simp only [Bool.and_eq_true, beq_iff_eq, decide_eq_true_eq] at hf hg
  obtain ⟨⟨z1, z2⟩, z3⟩ := hf
  subst z1; subst z2; subst z3
  exact lv_ldc2 hx hb hown (hK.w (lw_of hg) okw_kl args) hdg (kk _ _ _ _ _ hl hH hS hc hs)
theorem sn_lrem (F : FX G mi p l R s m meth c) {x : Nat} (hlk2 : lkX.any (fun e => e.1 == mOw mi && e.2.1 == x && e.2.2.1 == 0) = true) (hv1 : 1 ≤ mLv mi) (hv2 : 21 ≤ mLo mi) (hdg : decode (mC mi) pc = .ok (.invokestatic x, 3)) (hst : sStep mi (.lrem) len pc ls st M = some (.inl (pc', ls', st', M'))) (hl : lv_has lsC (mMx mi) ls) (hH : HR G M H) (hS : va_S (gA G) s.heap H locs) (hc : cells + n0 = mN M) (hs : slots + s0 = mS M) (hb1 : mN M' ≤ n0 + R.cells) (hb2 : mS M' ≤ s0 + R.slots) (kk : Kon G mi p l e R s m args below meth c Q n0 s0 pc' ls' st' M') : W p l e R s m args below meth c H locs cells slots Q (F0 m pc lsC st) := by
  obtain ⟨hx, hb, hml, hown, hin, hfr, hlo, hK, hKH, hsz, hlk, htr, htb, hrt, hmi⟩ := F
  simp only [sStep, amStep, a_nx] at hst
  split at hst
  · split at hst
    · rename_i h0
      cases hst
      obtain ⟨⟨o1, x1, k1, ps⟩, he, hf, hg⟩ := lk_any hlk2 lkX_ok
      simp only [Bool.and_eq_true, beq_iff_eq, decide_eq_true_eq] at hf hg
      obtain ⟨⟨z1, z2⟩, z3⟩ := hf
      subst z1; subst z2; subst z3
      have h9 := jdkW
      simp only [Bool.and_eq_true, decide_eq_true_eq] at h9
      obtain ⟨⟨⟨⟨⟨⟨j1, j2⟩, j3⟩, j4⟩, j5⟩, j6⟩, j7⟩ := h9
      refine va_mmax hx hb (by rw [hml]; exact hl.1.symm) hown (hK.w (lw_of hg) okw_ml args) (hK.w j2 okw_st args) (hK.w j1 okw_in args) (hK.w j5 okw_co args) (by omega) (by unfold csum at h0; omega) (by omega) (by omega) hdg (kk _ _ _ _ _ hl hH hS hc hs)
    · cases hst
  · cases hst
theorem sn_ldiv (F : FX G mi p l R s m meth c) {x : Nat} (hlk2 : lkX.any (fun e => e.1 == mOw mi && e.2.1 == x && e.2.2.1 == 1) = true) (hv1 : 1 ≤ mLv mi) (hv2 : 21 ≤ mLo mi) (hdg : decode (mC mi) pc = .ok (.invokestatic x, 3)) (hst : sStep mi (.ldiv) len pc ls st M = some (.inl (pc', ls', st', M'))) (hl : lv_has lsC (mMx mi) ls) (hH : HR G M H) (hS : va_S (gA G) s.heap H locs) (hc : cells + n0 = mN M) (hs : slots + s0 = mS M) (hb1 : mN M' ≤ n0 + R.cells) (hb2 : mS M' ≤ s0 + R.slots) (kk : Kon G mi p l e R s m args below meth c Q n0 s0 pc' ls' st' M') : W p l e R s m args below meth c H locs cells slots Q (F0 m pc lsC st) := by
  obtain ⟨hx, hb, hml, hown, hin, hfr, hlo, hK, hKH, hsz, hlk, htr, htb, hrt, hmi⟩ := F
  simp only [sStep, amStep, a_nx] at hst
  split at hst
  · split at hst
    · rename_i h0
      cases hst
      obtain ⟨⟨o1, x1, k1, ps⟩, he, hf, hg⟩ := lk_any hlk2 lkX_ok
      simp only [Bool.and_eq_true, beq_iff_eq, decide_eq_true_eq] at hf hg
      obtain ⟨⟨z1, z2⟩, z3⟩ := hf
      subst z1; subst z2; subst z3
      have h9 := jdkW
      simp only [Bool.and_eq_true, decide_eq_true_eq] at h9
      obtain ⟨⟨⟨⟨⟨⟨j1, j2⟩, j3⟩, j4⟩, j5⟩, j6⟩, j7⟩ := h9
      refine va_mmin hx hb (by rw [hml]; exact hl.1.symm) hown (hK.w (lw_of hg) okw_ml args) (hK.w j3 okw_st args) (hK.w j1 okw_in args) (hK.w j6 okw_co args) (by omega) (by unfold csum at h0; omega) (by omega) (by omega) hdg (kk _ _ _ _ _ hl hH hS hc hs)
    · cases hst
  · cases hst
theorem sn_lneg (F : FX G mi p l R s m meth c) {x : Nat} (hlk2 : lkX.any (fun e => e.1 == mOw mi && e.2.1 == x && e.2.2.1 == 2) = true) (hv1 : 1 ≤ mLv mi) (hv2 : 21 ≤ mLo mi) (hdg : decode (mC mi) pc = .ok (.invokestatic x, 3)) (hst : sStep mi (.lneg) len pc ls st M = some (.inl (pc', ls', st', M'))) (hl : lv_has lsC (mMx mi) ls) (hH : HR G M H) (hS : va_S (gA G) s.heap H locs) (hc : cells + n0 = mN M) (hs : slots + s0 = mS M) (hb1 : mN M' ≤ n0 + R.cells) (hb2 : mS M' ≤ s0 + R.slots) (kk : Kon G mi p l e R s m args below meth c Q n0 s0 pc' ls' st' M') : W p l e R s m args below meth c H locs cells slots Q (F0 m pc lsC st) := by
  obtain ⟨hx, hb, hml, hown, hin, hfr, hlo, hK, hKH, hsz, hlk, htr, htb, hrt, hmi⟩ := F
  simp only [sStep, amStep, a_nx] at hst
  split at hst
  · split at hst
    · rename_i h0
      cases hst
      obtain ⟨⟨o1, x1, k1, ps⟩, he, hf, hg⟩ := lk_any hlk2 lkX_ok
      simp only [Bool.and_eq_true, beq_iff_eq, decide_eq_true_eq] at hf hg
      obtain ⟨⟨z1, z2⟩, z3⟩ := hf
      subst z1; subst z2; subst z3
      have h9 := jdkW
      simp only [Bool.and_eq_true, decide_eq_true_eq] at h9
      obtain ⟨⟨⟨⟨⟨⟨j1, j2⟩, j3⟩, j4⟩, j5⟩, j6⟩, j7⟩ := h9
      refine va_mabs hx hb (by rw [hml]; exact hl.1.symm) hown (hK.w (lw_of hg) okw_ml args) (hK.w j4 okw_st args) (hK.w j1 okw_in args) (hK.w j7 okw_co args) (by omega) (by unfold csum at h0; omega) (by omega) (by omega) hdg (kk _ _ _ _ _ hl hH hS hc hs)
    · cases hst
  · cases hst
theorem sn_objInit (F : FX G mi p l R s m meth c) {x : Nat} (hlk2 : lkO.any (fun e => e.1 == mOw mi && e.2.1 == x) = true) (hv1 : 1 ≤ mLv mi) (hv2 : 20 ≤ mLo mi) (hdg : decode (mC mi) pc = .ok (.invokespecial x, 3)) (hst : sStep mi (.monitorenter) len pc ls st M = some (.inl (pc', ls', st', M'))) (hl : lv_has lsC (mMx mi) ls) (hH : HR G M H) (hS : va_S (gA G) s.heap H locs) (hc : cells + n0 = mN M) (hs : slots + s0 = mS M) (hb1 : mN M' ≤ n0 + R.cells) (hb2 : mS M' ≤ s0 + R.slots) (kk : Kon G mi p l e R s m args below meth c Q n0 s0 pc' ls' st' M') : W p l e R s m args below meth c H locs cells slots Q (F0 m pc lsC st) := by
  obtain ⟨hx, hb, hml, hown, hin, hfr, hlo, hK, hKH, hsz, hlk, htr, htb, hrt, hmi⟩ := F
  simp only [sStep, amStep, a_nx] at hst
  split at hst
  · split at hst
    · rename_i h0
      cases hst
      obtain ⟨⟨o1, x1, ps⟩, he, hf, hg⟩ := lk_any hlk2 lkO_ok
      simp only [Bool.and_eq_true, beq_iff_eq, decide_eq_true_eq] at hf hg
      obtain ⟨z1, z2⟩ := hf
      subst z1; subst z2
      have h9 := objW
      simp only [Bool.and_eq_true, decide_eq_true_eq] at h9
      exact W.objInit hx hb hown (hK.w (lw_of hg) okw_ml args) (hK.w h9.1 okw_im args) (hK.w h9.2 okw_co args) rfl (by rw [hml]; exact hl.1) rfl hdg (by omega) (by show 2 * 0 + _ + 12 ≤ _; unfold csum at h0; omega) (kk _ _ _ _ _ hl hH hS hc hs)
    · cases hst
  · cases hst
theorem sn_new (F : FX G mi p l R s m meth c) {x ci : Nat} (hlk2 : lkC.any (fun e => e.1 == mOw mi && e.2.1 == x && decide (e.2.2.1 = cnm ci)) = true) (hdg : decode (mC mi) pc = .ok (.new x, 3)) (hst : sStep mi (.new ci) len pc ls st M = some (.inl (pc', ls', st', M'))) (hl : lv_has lsC (mMx mi) ls) (hH : HR G M H) (hS : va_S (gA G) s.heap H locs) (hc : cells + n0 = mN M) (hs : slots + s0 = mS M) (hb1 : mN M' ≤ n0 + R.cells) (hb2 : mS M' ≤ s0 + R.slots) (kk : Kon G mi p l e R s m args below meth c Q n0 s0 pc' ls' st' M') : W p l e R s m args below meth c H locs cells slots Q (F0 m pc lsC st) := by
  obtain ⟨hx, hb, hml, hown, hin, hfr, hlo, hK, hKH, hsz, hlk, htr, htb, hrt, hmi⟩ := F
  simp only [sStep, amStep, a_nx] at hst
  split at hst
  · rename_i hci
    cases hst
    obtain ⟨⟨o1, x1, C1, ps⟩, he, hf, hg⟩ := lk_any hlk2 lkC_ok
    simp only [Bool.and_eq_true, beq_iff_eq, decide_eq_true_eq] at hf hg
    obtain ⟨⟨z1, z2⟩, z3⟩ := hf
    subst z1; subst z2; subst z3
    have h9 := all_lt cls_ini (show ci < 9 by omega)
    simp only [Bool.and_eq_true, decide_eq_true_eq] at h9
    obtain ⟨⟨i1, i2⟩, i3⟩ := h9
    have hN : H.size = mN M := hH.1
    have f1 : mN (stN M (1 + ci) 0 (fNs ci)) = mN M + 1 := rfl
    have f2 : mS (stN M (1 + ci) 0 (fNs ci)) = mS M + fNs ci := rfl
    obtain ⟨h1, h2⟩ := cls_in hK hci args
    have hKn := hK.2.2.2.1.1 ci _ (vw_at hci)
    refine W.newcK hx hb hown (hK.w (lw_of hg) okw_cl args) (hK.w i1 okw_is args) (hK.w i2 okw_in args) rfl hdg (by omega) (by omega) hKn.2.1 hN fun H1 kC hkC e1 z1 q1 => ?_
    have hob := u_born (fun k => (parseFieldDescriptor (clT ci k).2.2.1).getD .int) h2 h1 hKn hkC e1 (fun k hk => by
      have h3 := all_lt (all_lt cls_ty (show ci < 9 by omega)) hk
      cases hp : parseFieldDescriptor (clT ci k).2.2.1 with
      | some t => rfl
      | none => simp [tyOk, hp] at h3)
    have hT9 : mT (stN M (1 + ci) 0 (fNs ci)) (mN M) = (1 + ci, 0) := va_up_self _ _ _
    refine kk _ _ _ _ _ hl (HR.push hH z1 (fun q hq => q1 q hq) (hrA_obj (ci := ci) (by rw [hT9]) hci hH.2.1 (hob.to fun k hk => ?_))) ⟨by rw [z1, ← hN]; exact Nat.le_trans hS.1 (Nat.le_succ _), fun q g1 g2 => ?_, hS.2.2⟩ (by rw [f1]; omega) (by rw [f2]; omega)
    · have e2 : mI (stN M (1 + ci) 0 (fNs ci)) (mN M) = fun _ => 0 := va_up_self _ _ _
      have e3 : mL (stN M (1 + ci) 0 (fNs ci)) (mN M) = fun _ => 0 := va_up_self _ _ _
      have e5 : mR (stN M (1 + ci) 0 (fNs ci)) (mN M) = fun _ => none := va_up_self _ _ _
      have h3 := all_lt (all_lt cls_ty (show ci < 9 by omega)) hk
      simp only [tyOk, Bool.or_eq_true, Bool.and_eq_true, beq_iff_eq, decide_eq_true_eq] at h3
      unfold fval
      rw [e2, e3, e5]
      rcases h3 with (((⟨g1, g2⟩ | ⟨g1, g2⟩) | ⟨g1, g2⟩) | ⟨g1, g2⟩) | ⟨g1, g2⟩
      · rw [g1, g2]; rfl
      · rw [g1, g2]; rfl
      · rw [g1, g2]; rfl
      · rw [g1, g2]; rfl
      · rw [g1]
        cases hp : parseFieldDescriptor (clT ci k).2.2.1 with
        | none => rw [hp] at g2; cases g2
        | some t =>
          rw [hp] at g2
          cases t <;> first | rfl | cases g2
    · have hl1 : q < H.size := Nat.lt_of_lt_of_le g1 hS.1
      rw [q1 q (by rw [← hN]; exact hl1)]
      exact hS.2.1 q g1 g2
  · cases hst
theorem sn_newarray (F : FX G mi p l R s m meth c) {t : ArrayType} (hdg : decode (mC mi) pc = .ok (.newarray t, 2)) (hst : sStep mi (.newarray t) len pc ls st M = some (.inl (pc', ls', st', M'))) (hl : lv_has lsC (mMx mi) ls) (hH : HR G M H) (hS : va_S (gA G) s.heap H locs) (hc : cells + n0 = mN M) (hs : slots + s0 = mS M) (hb1 : mN M' ≤ n0 + R.cells) (hb2 : mS M' ≤ s0 + R.slots) (kk : Kon G mi p l e R s m args below meth c Q n0 s0 pc' ls' st' M') : W p l e R s m args below meth c H locs cells slots Q (F0 m pc lsC st) := by
  obtain ⟨hx, hb, hml, hown, hin, hfr, hlo, hK, hKH, hsz, hlk, htr, htb, hrt, hmi⟩ := F
  simp only [sStep, amStep, a_nx] at hst
  split at hst
  · rename_i n r
    split at hst
    · rename_i h0
      cases hst
      obtain ⟨hj, ht⟩ := h0
      obtain ⟨w1, w2⟩ := arr_words ht
      have hN : H.size = mN M := hH.1
      have f1 : mN (stN M (100 + atc t) n.toNatClampNeg n.toNatClampNeg) = mN M + 1 := rfl
      have f2 : mS (stN M (100 + atc t) n.toNatClampNeg n.toNatClampNeg) = mS M + n.toNatClampNeg := rfl
      have hlt := inb_lt hj
      have hb8 : componentBytes (newarray.typeOf t) ≤ 8 := by cases t <;> decide
      have hby : n.toNatClampNeg * componentBytes (newarray.typeOf t) ≤ 536870912 := Nat.le_trans (Nat.mul_le_mul (Nat.le_of_lt hlt) hb8) (by decide)
      have hT9 : mT (stN M (100 + atc t) n.toNatClampNeg n.toNatClampNeg) (mN M) = (100 + atc t, n.toNatClampNeg) := va_up_self _ _ _
      refine va_newaK hx hb (hK.w w1 okw_ac args) rfl hdg rfl (fun q => inb_in hj (Or.inl q)) rfl hby (by omega) (by omega) hN fun H1 cA e1 z1 q1 hAr hNm => ?_
      rw [w2] at e1 hNm
      have hcA : cA = G.2.2.2.2.2 (atc t) := Option.some.inj (hNm.symm.trans (ra_find (arr_of hK (t := atc t) (by omega)).2))
      refine kk _ _ _ _ _ hl (HR.push hH z1 (fun q hq => q1 q hq) (hrA_arr (t := atc t) (by rw [hT9]) (by omega) hH.2.1 ?_)) ⟨by rw [z1, ← hN]; exact Nat.le_trans hS.1 (Nat.le_succ _), fun q g1 g2 => ?_, hS.2.2⟩ (by rw [f1]; omega) (by rw [f2]; omega)
      · rw [new_arr _ (by omega)]
        rw [← hcA]; exact e1
      · have hl1 : q < H.size := Nat.lt_of_lt_of_le g1 hS.1
        rw [q1 q (by rw [← hN]; exact hl1)]
        exact hS.2.1 q g1 g2
    · cases hst
  · cases hst
theorem sn_anewarray (F : FX G mi p l R s m meth c) {x t : Nat} (hlk2 : lkC.any (fun e => e.1 == mOw mi && e.2.1 == x && decide (e.2.2.1 = aElm t)) = true) (hdg : decode (mC mi) pc = .ok (.anewarray x, 3)) (hst : sStep mi (.anewarray t) len pc ls st M = some (.inl (pc', ls', st', M'))) (hl : lv_has lsC (mMx mi) ls) (hH : HR G M H) (hS : va_S (gA G) s.heap H locs) (hc : cells + n0 = mN M) (hs : slots + s0 = mS M) (hb1 : mN M' ≤ n0 + R.cells) (hb2 : mS M' ≤ s0 + R.slots) (kk : Kon G mi p l e R s m args below meth c Q n0 s0 pc' ls' st' M') : W p l e R s m args below meth c H locs cells slots Q (F0 m pc lsC st) := by
  obtain ⟨hx, hb, hml, hown, hin, hfr, hlo, hK, hKH, hsz, hlk, htr, htb, hrt, hmi⟩ := F
  simp only [sStep, amStep, a_nx] at hst
  split at hst
  · rename_i n r
    split at hst
    · rename_i h0
      cases hst
      obtain ⟨hj, ht1, ht2⟩ := h0
      obtain ⟨⟨o1, x1, C1, ps⟩, he, hf, hg⟩ := lk_any hlk2 lkC_ok
      simp only [Bool.and_eq_true, beq_iff_eq, decide_eq_true_eq] at hf hg
      obtain ⟨⟨z1, z2⟩, z3⟩ := hf
      subst z1; subst z2; subst z3
      have hN : H.size = mN M := hH.1
      have f1 : mN (stN M (100 + t) n.toNatClampNeg n.toNatClampNeg) = mN M + 1 := rfl
      have f2 : mS (stN M (100 + t) n.toNatClampNeg n.toNatClampNeg) = mS M + n.toNatClampNeg := rfl
      have hlt := inb_lt hj
      have hT9 : mT (stN M (100 + t) n.toNatClampNeg n.toNatClampNeg) (mN M) = (100 + t, n.toNatClampNeg) := va_up_self _ _ _
      have hty : aTy t = .object (aElm t) := by
        have h : t = 5 ∨ t = 6 ∨ t = 7 := by omega
        rcases h with rfl | rfl | rfl <;> rfl
      refine W.anew hx hb hown (hK.w (lw_of hg) okw_cl args) (va_AO.use (hK.2.2.2.2.1 t ht1 ht2)) rfl hdg rfl (fun q => inb_in hj (Or.inl q)) (by omega) (by omega) (by omega) fun cA kA comp k1 k2 k3 k4 => ?_
      generalize hH1 : H.push ({ cls := cA, slots := Array.replicate n.toNatClampNeg .null, vm := .none } : Cell) = H1
      have z1 : H1.size = mN M + 1 := by rw [← hH1, Array.size_push, hN]
      have e1 : H1[mN M]? = some (arrV cA n.toNatClampNeg (fun _ => .null)) := by rw [← hH1, ← hN, Array.getElem?_push_size, ← arrV_new]
      have q1 : ∀ q : Nat, q < mN M → H1[q]? = H[q]? := fun q hq => by rw [← hH1, Array.getElem?_push, if_neg (by rw [hN]; exact Nat.ne_of_lt hq)]
      have hra := ra_find (arr_of hK (t := t) (by omega)).2
      rw [hty] at hra
      have hcA : cA = G.2.2.2.2.2 t := Option.some.inj (k1.symm.trans hra)
      rw [hN]
      refine kk _ _ _ _ _ hl (HR.push hH z1 (fun q hq => q1 q hq) (hrA_arr (t := t) (by rw [hT9]) (by omega) hH.2.1 ?_)) ⟨by rw [z1, ← hN]; exact Nat.le_trans hS.1 (Nat.le_succ _), fun q g1 g2 => ?_, hS.2.2⟩ (by rw [f1]; omega) (by rw [f2]; omega)
      · rw [new_arr _ (by omega)]
        rw [← hcA, hty]; exact e1
      · have hl1 : q < H.size := Nat.lt_of_lt_of_le g1 hS.1
        rw [q1 q (by rw [← hN]; exact hl1)]
        exact hS.2.1 q g1 g2
    · cases hst
  · cases hst
theorem sn_aastore (F : FX G mi p l R s m meth c) (hdg : decode (mC mi) pc = .ok (.aastore, 1)) (hst : sStep mi (.aastore) len pc ls st M = some (.inl (pc', ls', st', M'))) (hl : lv_has lsC (mMx mi) ls) (hH : HR G M H) (hS : va_S (gA G) s.heap H locs) (hc : cells + n0 = mN M) (hs : slots + s0 = mS M) (hb1 : mN M' ≤ n0 + R.cells) (hb2 : mS M' ≤ s0 + R.slots) (kk : Kon G mi p l e R s m args below meth c Q n0 s0 pc' ls' st' M') : W p l e R s m args below meth c H locs cells slots Q (F0 m pc lsC st) := by
  obtain ⟨hx, hb, hml, hown, hin, hfr, hlo, hK, hKH, hsz, hlk, htr, htb, hrt, hmi⟩ := F
  simp only [sStep, amStep, a_nx] at hst
  split at hst
  · rename_i v j a r
    split at hst
    · rename_i h0
      cases hst
      obtain ⟨hk1, hk2, hk3, hj⟩ := h0
      obtain ⟨t, ci, hk, ht1, ht2, hel, hci, hnm⟩ := el_kind hk1 hk2
      obtain ⟨hba, hcl⟩ := hr_arr hH hk (by omega)
      obtain ⟨hbv, cellV, v1, v2, v3, v4⟩ := hr_obj hH (hk3.trans hel) hci
      have hty : aTy t = .object (aElm t) := by
        have h : t = 5 ∨ t = 6 ∨ t = 7 := by omega
        rcases h with rfl | rfl | rfl <;> rfl
      have hq : ∀ M, arrOf M a t = ((mT M a).2, .inr (.inr (.inr (.inr (mR M a))))) := fun M => by
        have h : t = 5 ∨ t = 6 ∨ t = 7 := by omega
        rcases h with rfl | rfl | rfl <;> rfl
      rw [hq] at hcl
      have hcls := (hK.2.2.2.1.1 ci _ (vw_at hci)).2
      have hra := (arr_of hK (t := t) (by omega)).2
      rw [hty] at hra
      obtain ⟨kA, comp, k1, k2, k3, -⟩ := hra
      have hcomp : comp = G.2.2.2.2.1.1 ci := Option.some.inj (k3.symm.trans (by rw [← hnm]; exact hcls.1))
      subst hcomp
      obtain ⟨kC, hkC, -⟩ := hcls.2
      refine W.aast hx hb hcl (fun q h => by cases h) (fun h => by cases h) k1 k2 rfl hkC ⟨fun q => inb_in hj (Or.inl q), by rw [vp_size]; exact inb_lt hj⟩ v1 (fun q h => by rw [v3] at h; cases h) (by rw [v2]; exact hkC) (by rw [v2]; exact va_assign hcls) rfl rfl hdg fun H1 e1 z oq => ?_
      refine kk _ _ _ _ _ hl (HR.put hH z oq rfl (fun q => rfl) (fun q hq => ⟨rfl, rfl, rfl, va_up_ne _ _ hq⟩) (hrA_arr (t := t) hk (by omega) hba (e1.trans ?_))) (hS.put z oq hba) hc hs
      rw [vp_set_q, hq]
      show some (vp_cell _ ((mT M a).2, _)) = some (vp_cell _ ((mT M a).2, .inr (.inr (.inr (.inr (va_up (mR M) a _ a))))))
      rw [va_up_self]
    · cases hst
  · cases hst
end ST4
