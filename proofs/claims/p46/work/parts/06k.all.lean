/-! ===== calls, and the induction ===== -/
theorem lin_inv {mi pc len mj : Nat} {i : Instr} (hio : insOk mi (mC mi) (pc, i, len) = true) (hi : i = .invokestatic mj ∨ i = .invokevirtual mj ∨ i = .invokespecial mj) :
    ∃ x k, linM mi (mOw mi) x mj k = true ∧ ((k = 0 ∧ decode (mC mi) pc = .ok (.invokestatic x, 3)) ∨ (k = 1 ∧ decode (mC mi) pc = .ok (.invokevirtual x, 3)) ∨ (k = 2 ∧ decode (mC mi) pc = .ok (.invokespecial x, 3))) := by
  rcases hi with rfl | rfl | rfl
  · simp only [insOk, linOk, Bool.and_eq_true] at hio
    obtain ⟨h1, -⟩ := hio
    split at h1
    · rename_i x hx9
      simp only [Bool.and_eq_true, beq_iff_eq] at h1
      have hd := dc_ok hx9 (fun h => by cases h)
      rw [h1.2] at hd
      exact ⟨x, 0, h1.1, Or.inl ⟨rfl, hd⟩⟩
    · cases h1
  · simp only [insOk, linOk, Bool.and_eq_true] at hio
    obtain ⟨h1, -⟩ := hio
    split at h1
    · rename_i x hx9
      simp only [Bool.and_eq_true, beq_iff_eq] at h1
      have hd := dc_ok hx9 (fun h => by cases h)
      rw [h1.2] at hd
      exact ⟨x, 1, h1.1, Or.inr (Or.inl ⟨rfl, hd⟩)⟩
    · cases h1
  · simp only [insOk, linOk, Bool.and_eq_true] at hio
    obtain ⟨h1, -⟩ := hio
    split at h1
    · rename_i x hx9
      simp only [Bool.and_eq_true, beq_iff_eq] at h1
      have hd := dc_ok hx9 (fun h => by cases h)
      rw [h1.2] at hd
      exact ⟨x, 2, h1.1, Or.inr (Or.inr ⟨rfl, hd⟩)⟩
    · cases h1
theorem linM_spec {G : AG} {s : State} (hK : KK G s) {m o x j k : Nat} (h : linM m o x j k = true) : mKd j = k ∧ j < lawM ∧ mLv j + 1 ≤ mLv m ∧ 8 + (mMx j + 11) + mLo j ≤ mLo m ∧
    ∃ n, (∃ ps, (o, x, j, n, ps) ∈ lkM) ∧ ((n = 0 ∧ ∀ A, (Cond.methodLink (cnm o) x (mY j)).before A s = true) ∨ (n ≠ 0 ∧ ∀ A, (Cond.methodLinkNest (cnm o) x (mY j) nestHost).before A s = true)) := by
  simp only [linM, Bool.and_eq_true, beq_iff_eq, decide_eq_true_eq] at h
  obtain ⟨⟨⟨⟨h1, h2⟩, h3⟩, h4⟩, h5⟩ := h
  obtain ⟨⟨o1, x1, j1, n, ps⟩, he, hf, hg⟩ := lk_any h1 lkM_ok
  simp only [Bool.and_eq_true, beq_iff_eq, decide_eq_true_eq] at hf hg
  obtain ⟨⟨z1, z2⟩, z3⟩ := hf
  rw [z1, z2, z3] at he hg
  refine ⟨h2, h3, h4, h5, n, ⟨ps, he⟩, ?_⟩
  have hw := lw_of hg
  simp only [wM] at hw
  by_cases hn : n = 0
  · rw [if_pos hn] at hw
    exact Or.inl ⟨hn, fun A => hK.w hw okw_ml A⟩
  · rw [if_neg hn] at hw
    exact Or.inr ⟨hn, fun A => hK.w hw okw_mn A⟩
section CL
variable {G : AG} {mi : Nat} {p : Program} {l : Launch} {e : Env} {R : Room} {s : State} {m : MethodId} {args : Array Value} {below : List Frame} {meth : Method} {c : Code} {H : Heap} {locs : List Loc} {cells slots : Nat} {Q : State → Prop}
variable {lsC : Array Slot} {ls ls' : ALs} {st st' : List Value} {M M' : AMem} {pc pc' len n0 s0 : Nat}
theorem pre_S (F : FX G mi p l R s m meth c) (hH : HR G M H) (hS : va_S (gA G) s.heap H locs) (as : List Value) : PreS s H (Pm G M as) as := by
  obtain ⟨hx, hb, hml, hown, hin, hfr, hlo, hK, hKH, hsz, hlk, htr, htb, hrt, hmi⟩ := F
  refine ⟨Pm_blind, fun U hU hW => ⟨rfl, by rw [hU]; exact hH, hK.warm hW, ?_, by rw [hU, hH.1]; exact hH.2.1⟩⟩
  rw [hU]
  exact hKH.kept hW.alike hsz hS.2.1
/-- how a call's arguments lie -/
theorem ac_static {mj : Nat} {as r : List Value} (hk : mKd mj = 0) (h : a_call mPr mOw mKd mMx mj st M = some (.inr (.inl (mj, as, r)))) : as.length = mPr mj ∧ st = as.reverse ++ r ∧ csum r ≤ 8 ∧ csum as ≤ mMx mj := by
  unfold a_call at h
  rw [if_pos hk] at h
  split at h
  · rename_i h0
    cases h
    obtain ⟨h1, h2, h3⟩ := h0
    refine ⟨by rw [List.length_reverse, List.length_take]; omega, by rw [List.reverse_reverse, List.take_append_drop], h2, by rw [csum_rev]; exact h3⟩
  · cases h
theorem ac_inst {mj : Nat} {as r : List Value} (hk : mKd mj ≠ 0) (h : a_call mPr mOw mKd mMx mj st M = some (.inr (.inl (mj, as, r)))) : ∃ b t, as = .ref b :: t ∧ t.length = mPr mj ∧ st = t.reverse ++ .ref b :: r ∧ csum r ≤ 8 ∧ csum as ≤ mMx mj ∧ (mT M b).1 = 1 + mOw mj := by
  unfold a_call at h
  rw [if_neg hk] at h
  split at h
  · rename_i b r9 hd
    split at h
    · rename_i h0
      cases h
      obtain ⟨h1, h2, h3, h4⟩ := h0
      refine ⟨b, _, rfl, by rw [List.length_reverse, List.length_take]; omega, ?_, h3, ?_, h2⟩
      · rw [List.reverse_reverse, ← hd, List.take_append_drop]
      · have e : csum (Value.ref b :: (st.take (mPr mj)).reverse) = 1 + csum (st.take (mPr mj)).reverse := rfl
        rw [e, csum_rev]
        exact h4
    · cases h
  · cases h
theorem recv_cls (F : FX G mi p l R s m meth c) (hH : HR G M H) {mj b : Nat} (hj : mj < lawM) (hk : (mT M b).1 = 1 + mOw mj) : ∃ cellB : Cell, H[b]? = some cellB ∧ cellB.vm.isStatics = false ∧ s.vm.findClass (mY mj).cls = some cellB.cls := by
  obtain ⟨hx, hb, hml, hown, hin, hfr, hlo, hK, hKH, hsz, hlk, htr, htb, hrt, hmi⟩ := F
  have hsm := all_lt mw_small hj
  simp only [Bool.and_eq_true, decide_eq_true_eq] at hsm
  obtain ⟨-, -, -, hcl, -⟩ := okM_at hj
  have hci : mOw mj ≤ 8 := by
    obtain ⟨base, b9, L, xs, D, cT⟩ := G
    rcases hH.2.2 b with h | ⟨h, -⟩ | ⟨h, -⟩ | ⟨h, -⟩ <;> omega
  obtain ⟨-, cell, q1, q2, q3, -⟩ := hr_obj hH hk hci
  refine ⟨cell, q1, by rw [q3]; rfl, ?_⟩
  rw [hcl, q2]
  exact (hK.2.2.2.1.1 _ _ (vw_at hci)).2.1
theorem call_run (F : FX G mi p l R s m meth c) {mj : Nat} {i : Instr} {as r : List Value} {rm : Room} {Qc : Array Value → State → Outcome → State → Prop} {mc ms : Nat} (hio : insOk mi (mC mi) (pc, i, len) = true) (hi : i = .invokestatic mj ∨ i = .invokevirtual mj ∨ i = .invokespecial mj) (hac : a_call mPr mOw mKd mMx mj st M = some (.inr (.inl (mj, as, r))))
    (hM : Met l (mY mj) [mW mj] rm (Pm G M as) Qc mc ms (gA G)) (hrc : rm.cells = mc) (hrs : rm.slots = ms) (hrf : rm.frames = mLv mj) (hrl : rm.locals = mLo mj) (hl : lv_has lsC (mMx mi) ls) (hH : HR G M H) (hS : va_S (gA G) s.heap H locs) (hf : cells + mc ≤ R.cells ∧ slots + ms ≤ R.slots) :
    va_Run p l e R s m args below meth c H locs cells slots mc ms (F0 m pc lsC st) r (Qc as.toArray) (gA G) := by
  have hpS := pre_S F hH hS as
  have F9 := F
  obtain ⟨hx, hb, hml, hown, hin, hfr, hlo, hK, hKH, hsz, hlk, htr, htb, hrt, hmi⟩ := F
  obtain ⟨x, k, hlm, hd⟩ := lin_inv hio hi
  obtain ⟨hkd, hj, hv, ho, n, ⟨ps, hmem⟩, hlink⟩ := linM_spec hK hlm
  obtain ⟨w1, w2, w3, hcl, hne, hlen, hpl, hini⟩ := okM_at hj
  have hsm := all_lt mw_small hj
  simp only [Bool.and_eq_true, Bool.or_eq_true, decide_eq_true_eq, beq_iff_eq] at hsm
  obtain ⟨-, hsm⟩ := hsm
  have h0 : (Cond.initialized (mY mj).cls).before args s = true := hK.w (lw_of w3) okw_in args
  have hws : ∀ w ∈ [mW mj], ∀ (a' : Array Value) (U : State), s.WarmedH U.vm → w.before a' U = true := by
    intro w hw a' U hW
    rw [List.mem_singleton.mp hw]
    exact okw_warm mW_okw hW (fun A => hK.w (mW_in hj) mW_okw A) a'
  have hcb : (mW mj).before args s = true := hK.w (mW_in hj) mW_okw args
  have S : CallFix p m c (mC mi) (mMx mi) s args [] (cnm (mOw mi)) := ⟨hx, hb, hml, hown, fun w h => (List.not_mem_nil h).elim⟩
  have hfr2 : rm.frames + 1 ≤ R.frames := by omega
  have hlo2 : 8 + (mMx mj + 11) + rm.locals ≤ R.locals := by omega
  by_cases hh : (mHn mj).isEmpty = true
  · rw [mW_code hh] at hM hws hcb
    rcases hd with ⟨rfl, hd⟩ | ⟨rfl, hd⟩ | ⟨rfl, hd⟩
    · obtain ⟨a1, a2, a3, a4⟩ := ac_static hkd hac
      rw [if_pos hkd] at w1
      have hst : (Cond.static (mY mj)).before args s = true := hK.w (lw_of w1) okw_st args
      rcases hlink with ⟨-, hlink⟩ | ⟨-, hlink⟩
      · exact va_runS S hM ⟨⟨hrc, hrs, hfr2, hlo2, hws, List.mem_cons_self, hcb, h0, hne, hlen, hlink args⟩, hst⟩ hpS rfl a1 hl.1 a2 (lv_room a3) hd hf
      · exact va_runSN S hM ⟨⟨⟨hrc, hrs, hfr2, hlo2, hws, List.mem_cons_self⟩, hcb, h0, hne, hlen, hlink args⟩, hst, trivial⟩ hpS rfl a1 hl.1 a2 (lv_room a3) hd hf
    · obtain ⟨b, t, rfl, a1, a2, a3, a4, a5⟩ := ac_inst (by omega) hac
      rw [if_neg (by omega)] at w1
      have hst : (Cond.instanceMethod (mY mj)).before args s = true := hK.w (lw_of w1) okw_im args
      have hse : (Cond.selects (mY mj).cls (mY mj) (mY mj)).before args s = true := hK.w (lw_of (w2 hkd)) rfl args
      have hpV : PreV s H (mY mj).cls b (Pm G M (.ref b :: t)) t := ⟨hpS.1, recv_cls F9 hH hj a5, hpS.2⟩
      rcases hlink with ⟨-, hlink⟩ | ⟨-, hlink⟩
      · exact va_runV S hM ⟨⟨hrc, hrs, hfr2, hlo2, hws, List.mem_cons_self, hcb, h0, hne, hlen, hlink args⟩, hst, hse⟩ hpV rfl a1 hl.1 a2 (lv_room a3) hd hf
      · exact va_runVN S hM ⟨⟨⟨hrc, hrs, hfr2, hlo2, hws, List.mem_cons_self⟩, hcb, h0, hne, hlen, hlink args⟩, hst, hse⟩ hpV rfl a1 hl.1 a2 (lv_room a3) hd hf
    · obtain ⟨b, t, rfl, a1, a2, a3, a4, a5⟩ := ac_inst (by omega) hac
      rw [if_neg (by omega)] at w1
      have hst : (Cond.instanceMethod (mY mj)).before args s = true := hK.w (lw_of w1) okw_im args
      obtain ⟨hi1, hi2⟩ := hini hkd
      rw [hi2] at hM hws hcb
      rcases hlink with ⟨-, hlink⟩ | ⟨-, hlink⟩
      · exact va_runI S hM ⟨⟨hrc, hrs, hfr2, hlo2, hws, List.mem_cons_self, hcb, h0, hne, hlen, hlink args⟩, hi1, hst⟩ hpS rfl a1 hl.1 a2 (lv_room a3) hd hf
      · exact va_runIN S hM ⟨⟨⟨hrc, hrs, hfr2, hlo2, hws, List.mem_cons_self⟩, hcb, h0, hne, hlen, hlink args⟩, hi1, hst⟩ hpS rfl a1 hl.1 a2 (lv_room a3) hd hf
  · have hsm := hsm.resolve_left hh
    rw [mW_with hh] at hM hws hcb
    rcases hd with ⟨rfl, hd⟩ | ⟨rfl, hd⟩ | ⟨rfl, hd⟩
    · obtain ⟨a1, a2, a3, a4⟩ := ac_static hkd hac
      rw [if_pos hkd] at w1
      have hst : (Cond.static (mY mj)).before args s = true := hK.w (lw_of w1) okw_st args
      rcases hlink with ⟨-, hlink⟩ | ⟨hn, hlink⟩
      · exact vx_runSW S hM ⟨⟨hrc, hrs, hfr2, hlo2, hws, List.mem_cons_self⟩, hcb, h0, hne, hlen, hlink args, hst⟩ hpS rfl a1 hl.1 a2 (lv_room a3) hd hf
      · have h9 := List.all_eq_true.mp hsm.2 _ hmem
        simp [hn] at h9
    · omega
    · omega
theorem call_thr (F : FX G mi p l R s m meth c) {mj k : Nat} {i : Instr} {as r : List Value} {rm : Room} {Qc : Array Value → State → Outcome → State → Prop} {XC : String → State → State → Prop} {mc ms : Nat} (hio : insOk mi (mC mi) (pc, i, len) = true) (hi : i = .invokestatic mj ∨ i = .invokevirtual mj ∨ i = .invokespecial mj) (hac : a_call mPr mOw mKd mMx mj st M = some (.inr (.inl (mj, as, r)))) (hth : mTh mj = true)
    (hM : vx_Met l (mY mj) [mW mj] rm (Pm G M as) Qc XC mc ms (gA G)) (hrc : rm.cells = mc) (hrs : rm.slots = ms) (hrf : rm.frames = mLv mj) (hrl : rm.locals = mLo mj) (hl : lv_has lsC (mMx mi) ls) (hH : HR G M H) (hS : va_S (gA G) s.heap H locs) (hf : cells + mc ≤ R.cells ∧ slots + ms ≤ R.slots) :
    vx_Run p l e R s m args below meth c H locs cells slots mc ms (F0 m pc lsC st) r (Qc as.toArray) XC (gA G) := by
  have hpS := pre_S F hH hS as
  have F9 := F
  obtain ⟨hx, hb, hml, hown, hin, hfr, hlo, hK, hKH, hsz, hlk, htr, htb, hrt, hmi⟩ := F
  obtain ⟨x, k, hlm, hd⟩ := lin_inv hio hi
  obtain ⟨hkd, hj, hv, ho, n, ⟨ps, hmem⟩, hlink⟩ := linM_spec hK hlm
  obtain ⟨w1, w2, w3, hcl, hne, hlen, hpl, hini⟩ := okM_at hj
  have h9 := List.all_eq_true.mp th_links _ hmem
  simp only [hth, Bool.not_true, Bool.false_or, Bool.and_eq_true, beq_iff_eq, bne_iff_ne, ne_eq] at h9
  obtain ⟨⟨hn, hk2⟩, hh⟩ := h9
  have h0 : (Cond.initialized (mY mj).cls).before args s = true := hK.w (lw_of w3) okw_in args
  have hws : ∀ w ∈ [mW mj], ∀ (a' : Array Value) (U : State), s.WarmedH U.vm → w.before a' U = true := by
    intro w hw a' U hW
    rw [List.mem_singleton.mp hw]
    exact okw_warm mW_okw hW (fun A => hK.w (mW_in hj) mW_okw A) a'
  have hcb : (mW mj).before args s = true := hK.w (mW_in hj) mW_okw args
  have S : CallFix p m c (mC mi) (mMx mi) s args [] (cnm (mOw mi)) := ⟨hx, hb, hml, hown, fun w h => (List.not_mem_nil h).elim⟩
  have hfr2 : rm.frames + 1 ≤ R.frames := by omega
  have hlo2 : 8 + (mMx mj + 11) + rm.locals ≤ R.locals := by omega
  rw [mW_code hh] at hM hws hcb
  have hlink : (Cond.methodLink (cnm (mOw mi)) x (mY mj)).before args s = true := by
    rcases hlink with ⟨-, hlink⟩ | ⟨hn2, -⟩
    · exact hlink args
    · exact absurd hn hn2
  rcases hd with ⟨rfl, hd⟩ | ⟨rfl, hd⟩ | ⟨rfl, hd⟩
  · obtain ⟨a1, a2, a3, a4⟩ := ac_static hkd hac
    rw [if_pos hkd] at w1
    have hst : (Cond.static (mY mj)).before args s = true := hK.w (lw_of w1) okw_st args
    exact vx_runS S hM ⟨⟨hrc, hrs, hfr2, hlo2, hws, List.mem_cons_self, hcb, h0, hne, hlen, hlink⟩, hst⟩ hpS rfl a1 hl.1 a2 (lv_room a3) hd hf
  · obtain ⟨b, t, rfl, a1, a2, a3, a4, a5⟩ := ac_inst (by omega) hac
    rw [if_neg (by omega)] at w1
    have hst : (Cond.instanceMethod (mY mj)).before args s = true := hK.w (lw_of w1) okw_im args
    have hse : (Cond.selects (mY mj).cls (mY mj) (mY mj)).before args s = true := hK.w (lw_of (w2 hkd)) rfl args
    have hpV : PreV s H (mY mj).cls b (Pm G M (.ref b :: t)) t := ⟨hpS.1, recv_cls F9 hH hj a5, hpS.2⟩
    exact vx_runV S hM ⟨⟨hrc, hrs, hfr2, hlo2, hws, List.mem_cons_self, hcb, h0, hne, hlen, hlink⟩, hst, hse⟩ hpV rfl a1 hl.1 a2 (lv_room a3) hd hf
  · exact absurd hkd hk2
end CL
set_option maxHeartbeats 4000000 in
/-- THE ABSTRACT MACHINE IS SOUND -/
theorem exec_all {l : Launch} {G : AG} (htr : l.stackTraces = false) : ∀ n, ExecS l G n := by
  intro n
  induction n with
  | zero => intro mi pc ls st M res h; cases h
  | succ n ih =>
    have hM := met_of_exec htr ih
    intro mi pc ls st M res h p e R s m args below meth c H locs cells slots Q lsC n0 s0 F hl hH hS hc hs hb1 hb2 hret hthr
    have hmi : mi ≤ lawM := F.2.2.2.2.2.2.2.2.2.2.2.2.2.2
    have hthI : ∀ E, res.2 = .inr E → mTh mi = true := by
      intro E hE
      cases ht : mTh mi
      · obtain ⟨v, hv⟩ := no_throw _ _ _ _ _ _ _ hmi ht h
        rw [hv] at hE
        cases hE
      · rfl
    unfold amExec at h
    split at h
    · cases h
    · rename_i i len hf
      have hio := fetch_ok hmi hf
      split at h
      · cases h
      · rename_i pc' ls' st' M' hst
        obtain ⟨m1, m2⟩ := exec_mono _ _ _ _ _ _ _ h
        refine sn_all F hio hst hl hH hS hc hs (by omega) (by omega) (fun lsC' H' locs' cells' slots' a1 a2 a3 a4 a5 => ?_)
        exact ih _ _ _ _ _ _ h p e R s m args below meth c H' locs' cells' slots' Q lsC' n0 s0 F a1 a2 a3 a4 a5 hb1 hb2 hret hthr
      · rename_i mj as r hst
        obtain ⟨hi, hac⟩ := call_inv hst
        have hjl : mj < lawM ∧ csum as ≤ mMx mj := by
          obtain ⟨x, k, hlm, -⟩ := lin_inv hio hi
          simp only [linM, Bool.and_eq_true, beq_iff_eq, decide_eq_true_eq] at hlm
          refine ⟨hlm.1.1.2, ?_⟩
          by_cases hk : mKd mj = 0
          · exact (ac_static hk hac).2.2.2
          · obtain ⟨b, t, -, -, -, -, h4, -⟩ := ac_inst hk hac
            exact h4
        split at h
        · cases h
        · rename_i M1 v hcall
          obtain ⟨m1, m2⟩ := exec_mono _ _ _ _ _ _ _ hcall
          obtain ⟨m3, m4⟩ := exec_mono _ _ _ _ _ _ _ h
          have hMt : Met l (mY mj) [mW mj] (Rm mj M (M1, .inl v)) (Pm G M as) (Qr G (M1, .inl v)) (mN M1 - mN M) (mS M1 - mS M) (gA G) := met_of_vx (hM mj as M (M1, .inl v) hjl.1 hjl.2 hcall) (fun E st t hx => by obtain ⟨⟨k, hk, -⟩, -⟩ := hx; cases hk)
          dsimp only at m1 m2 m3 m4
          refine run_ret (call_run F hio hi hac hMt rfl rfl rfl rfl hl hH hS ⟨by omega, by omega⟩) hS (fun H1 locs1 a1 a2 => ?_)
          exact ih _ _ _ _ _ _ h p e R s m args below meth c H1 locs1 _ _ Q lsC n0 s0 F hl a1 a2 (by omega) (by omega) hb1 hb2 hret hthr
        · rename_i M1 E hcall
          obtain ⟨m1, m2⟩ := exec_mono _ _ _ _ _ _ _ hcall
          dsimp only at m1 m2
          have hth : mTh mj = true := by
            cases ht : mTh mj
            · obtain ⟨v, hv⟩ := no_throw _ _ _ _ _ _ _ (Nat.le_of_lt hjl.1) ht hcall
              cases hv
            · rfl
          split at h
          · rename_i hnone
            split at h
            · rename_i hemp
              cases h
              dsimp only at hb1 hb2
              obtain ⟨Qc, XC, mc, ms, rfl, b1, b2, hX⟩ := hthr _ rfl
              dsimp only at b1 b2
              refine run_thr (call_thr (k := 0) F hio hi hac hth (hM mj as M (M1, .inr E) hjl.1 hjl.2 hcall) rfl rfl rfl rfl hl hH hS ⟨by dsimp only; omega, by dsimp only; omega⟩) hS (fun H1 locs1 ce q h5 a1 a2 a3 a4 a5 => ?_)
              have htb := F.2.2.2.2.2.2.2.2.2.2.2.2.1 (Or.inl (hthI _ rfl))
              refine vx_out (E := enm E) (ce := ce) (fun x hx9 => ?_) F.2.2.2.2.2.2.2.2.2.2.1 a3 a4 a5 (fun t ht hal => hX t hal h5 (by rw [ht]; exact a1) (a2.F ht)) a2.2.2 (by dsimp only; omega) (by dsimp only; omega)
              rw [htb, List.isEmpty_iff.mp hemp] at hx9
              cases hx9
            · cases h
          · rename_i hp hsome
            obtain ⟨m3, m4⟩ := exec_mono _ _ _ _ _ _ _ h
            refine run_thr (call_thr (k := 0) F hio hi hac hth (hM mj as M (M1, .inr E) hjl.1 hjl.2 hcall) rfl rfl rfl rfl hl hH hS ⟨by dsimp only; omega, by dsimp only; omega⟩) hS (fun H1 locs1 ce q h5 a1 a2 a3 a4 a5 => ?_)
            refine caught F hsome h5 hl a3 a4 a5 (fun lsC' hl' => ?_)
            exact ih _ _ _ _ _ _ h p e R s m args below meth c H1 locs1 _ _ Q lsC' n0 s0 F hl' a1 a2 (by dsimp only; omega) (by dsimp only; omega) hb1 hb2 hret hthr
      · rename_i v hst
        have e := ret_inv hst
        subst e
        cases h
        exact hret _ rfl pc len i ls lsC H locs cells slots hio hst hH hS hc hs
      · rename_i k hst
        obtain ⟨z, rfl, rfl, hcs⟩ := thr_inv hst
        cases h
        obtain ⟨Qc, XC, mc, ms, rfl, b1, b2, hX⟩ := hthr _ rfl
        have e1 : mN (stN M 0 0 6) = mN M + 1 := rfl
        have e2 : mS (stN M 0 0 6) = mS M + 6 := rfl
        dsimp only at b1 b2 hb1 hb2
        exact sn_throw F (hthI _ rfl) hio hcs hl hH hS (by omega) (by omega) (by omega) (by omega) (fun t hal hh hff => hX t hal (thr_lt hio) hh hff)
