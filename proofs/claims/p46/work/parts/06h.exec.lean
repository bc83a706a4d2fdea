/-! ===== a run of the linked code is the machine's ===== -/
theorem csum_rev (l : List Value) : csum l.reverse = csum l := by
  unfold csum
  rw [List.map_reverse, List.sum_reverse]
theorem lg_len : ∀ l : List Value, (lg_sl l).length = csum l
  | [] => rfl
  | v :: t => by
    have h := lg_len t
    unfold lg_sl csum at h ⊢
    simp only [List.flatMap_cons, List.length_append, List.map_cons, List.sum_cons, h]
    rcases lv_cat v with e | e
    · rw [if_neg (by omega), e]; rfl
    · rw [if_pos e, e]; rfl
def mHh (j : Nat) : List (Nat × Nat × Nat × Nat) := (mHn j).map (fun h => (h.1, h.2.1, h.2.2.1, h.2.2.2.1))
/-- what a callee leaves, when it returns -/
def Qr (G : AG) (res : AR) : Array Value → State → Outcome → State → Prop := fun _ st o t => (∃ v, res.2 = .inl v ∧ o = .returned v) ∧ HR G res.1 t.heap ∧ va_F (gA G) st t
/-- .. when it throws -/
def Xr (G : AG) (res : AR) : String → State → State → Prop := fun E st t => (∃ k, res.2 = .inr k ∧ E = enm k ∧ k < 5) ∧ HR G res.1 t.heap ∧ va_F (gA G) st t
def Pm (G : AG) (M : AMem) (as : List Value) : Array Value → State → Prop := fun v U => v = as.toArray ∧ HR G M U.heap ∧ KK G U ∧ KH G U U.heap ∧ G.1 ≤ U.heap.size
def Rm (j : Nat) (M : AMem) (res : AR) : Room := { frames := mLv j, cells := mN res.1 - mN M, slots := mS res.1 - mS M, locals := mLo j }
def MetS (l : Launch) (G : AG) (n : Nat) : Prop := ∀ (j : Nat) (as : List Value) (M : AMem) (res : AR), j < lawM → csum as ≤ mMx j → amExec n j 0 (lv_args 0 as) [] M = some res →
  vx_Met l (mY j) [mW j] (Rm j M res) (Pm G M as) (Qr G res) (Xr G res) (mN res.1 - mN M) (mS res.1 - mS M) (gA G)
theorem Pm_blind {G : AG} {M : AMem} {as : List Value} : FrameBlind (Pm G M as) := by
  intro a U g mk ⟨h1, h2, h3, h4, h5⟩
  have hv : (U.calling g mk a).vm = U.vm := rfl
  have hW : U.WarmedH (U.calling g mk a).vm := State.WarmedH.refl U
  exact ⟨h1, h2, h3.warm hW, h4.kept hW.alike h5 (fun _ _ _ => rfl), h5⟩
theorem met_of_vx {l : Launch} {y : MethodName} {ws : List Cond} {rm : Room} {Pc : Array Value → State → Prop} {Qc : Array Value → State → Outcome → State → Prop} {XC : String → State → State → Prop} {mc ms : Nat} {free : Addr → Prop} (h : vx_Met l y ws rm Pc Qc XC mc ms free) (hX : ∀ E st t, ¬ XC E st t) : Met l y ws rm Pc Qc mc ms free := by
  intro p e ha hc hk s m args below hf happ hP hK
  obtain ⟨k, o, h1, h2, h3, h4⟩ := h p e ha hc hk s m args below hf happ hP hK
  refine ⟨k, o, h1, h2, h3, ?_⟩
  rcases h4 with h4 | ⟨q, -, E, ce, L, hx, -⟩
  · exact h4
  · exact absurd hx (hX E _ _)
section EX
variable {G : AG} {mi : Nat} {p : Program} {l : Launch} {e : Env} {R : Room} {s : State} {m : MethodId} {args : Array Value} {below : List Frame} {meth : Method} {c : Code} {H : Heap} {locs : List Loc} {cells slots : Nat} {Q : State → Prop}
variable {lsC : Array Slot} {ls ls' : ALs} {st st' : List Value} {M M' : AMem} {pc pc' len n0 s0 : Nat}
/-- behind a call that returned -/
theorem run_ret {M1 : AMem} {v : Option Value} {rest : List Value} {mc ms : Nat} {a : Array Value} (hr : va_Run p l e R s m args below meth c H locs cells slots mc ms (F0 m pc lsC st) rest (Qr G (M1, .inl v) a) (gA G)) (hS : va_S (gA G) s.heap H locs)
    (kk : ∀ (H1 : Heap) (locs1 : List Loc), HR G M1 H1 → va_S (gA G) s.heap H1 locs1 → W p l e R s m args below meth c H1 locs1 (cells + mc) (slots + ms) Q (F0 m (pc + 3) lsC (v.toList ++ rest))) : W p l e R s m args below meth c H locs cells slots Q (F0 m pc lsC st) := by
  intro T hT X
  obtain ⟨v9, st₀, t, T', L, h0, X', hL, e1, e2, ⟨⟨v8, hv, ho⟩, hh, hz, hk⟩, stp⟩ := hr T hT X
  cases ho
  cases hv
  rw [h0] at hz hk
  obtain ⟨t2, a1, b1⟩ := kk T'.heap (locs ++ L) (by rw [e1]; exact hh)
    ⟨Nat.le_trans hS.1 (by rw [e1]; exact hz), fun q h1 h2 => by rw [e1, hk q (Nat.lt_of_lt_of_le h1 hS.1) h2]; exact hS.2.1 q h1 h2, fun q hq => by
      rcases List.mem_append.mp hq with h | h
      · exact hS.2.2 q h
      · exact hL q h⟩ T' rfl X'
  exact ⟨t2, stp t2 a1, b1⟩
/-- behind a call that threw -/
theorem run_thr {M1 : AMem} {k : Nat} {rest : List Value} {mc ms : Nat} {a : Array Value} (hr : vx_Run p l e R s m args below meth c H locs cells slots mc ms (F0 m pc lsC st) rest (Qr G (M1, .inr k) a) (Xr G (M1, .inr k)) (gA G)) (hS : va_S (gA G) s.heap H locs)
    (kk : ∀ (H1 : Heap) (locs1 : List Loc) (ce : Cell) (q : Addr), k < 5 → HR G M1 H1 → va_S (gA G) s.heap H1 locs1 → H1[q]? = some ce → ce.vm = .none → s.vm.findClass (enm k) = some ce.cls → vx_W p l e R s m args below meth c H1 locs1 (cells + mc) (slots + ms) Q (F0 m pc lsC rest) q) : W p l e R s m args below meth c H locs cells slots Q (F0 m pc lsC st) := by
  intro T hT X
  rcases hr T hT X with ⟨v9, st₀, t, T', L, h0, X', hL, e1, e2, ⟨⟨v8, hv, ho⟩, -⟩, stp⟩ | ⟨q, st₀, t, T', L, E, ce, h0, X', hL, e1, e2, ⟨⟨k9, hk9, hE, hk5⟩, hh, hz, hk⟩, hce, hcv, hcl, stp⟩
  · cases hv
  · cases hk9
    subst hE
    rw [h0] at hz hk
    obtain ⟨t2, a1, b1⟩ := kk T'.heap (locs ++ L) ce q hk5 (by rw [e1]; exact hh)
      ⟨Nat.le_trans hS.1 (by rw [e1]; exact hz), fun q h1 h2 => by rw [e1, hk q (Nat.lt_of_lt_of_le h1 hS.1) h2]; exact hS.2.1 q h1 h2, fun q hq => by
        rcases List.mem_append.mp hq with h | h
        · exact hS.2.2 q h
        · exact hL q h⟩ (by rw [e1]; exact hce) hcv hcl T' rfl X'
    exact ⟨t2, stp.trans a1, b1⟩
/-- a handler of this method takes it: past the store of the thrown -/
theorem hnd_spec {hs : List (Nat × Nat × Nat × Nat × Nat × Nat)} {E hp : Nat} (h : fHnd hs pc E = some hp) : ∃ pre x suf, hs = pre ++ x :: suf ∧ (∀ z ∈ pre, ¬ (z.1 ≤ pc ∧ pc < z.2.1) ∨ z.2.2.2.2.1 ≠ E) ∧ x.1 ≤ pc ∧ pc < x.2.1 ∧ x.2.2.2.2.1 = E ∧ hp = x.2.2.1 + x.2.2.2.2.2 := by
  induction hs with
  | nil => cases h
  | cons z t ih =>
    unfold fHnd at h
    by_cases hz : z.1 ≤ pc ∧ pc < z.2.1 ∧ z.2.2.2.2.1 = E
    · rw [if_pos hz] at h
      cases h
      exact ⟨[], z, t, rfl, fun q hq => (List.not_mem_nil hq).elim, hz.1, hz.2.1, hz.2.2, rfl⟩
    · rw [if_neg hz] at h
      obtain ⟨pre, x, suf, h1, h2, h3⟩ := ih h
      refine ⟨z :: pre, x, suf, by rw [h1]; rfl, fun q hq => ?_, h3⟩
      rcases List.mem_cons.mp hq with rfl | hq
      · by_cases h4 : q.1 ≤ pc ∧ pc < q.2.1
        · exact Or.inr fun h5 => hz ⟨h4.1, h4.2, h5⟩
        · exact Or.inl h4
      · exact h2 q hq
theorem caught (F : FX G mi p l R s m meth c) {E hp : Nat} (hh : fHnd (mHn mi) pc E = some hp) (hE : E < 5) {ce : Cell} {q : Addr} {rest : List Value} (hl : lv_has lsC (mMx mi) ls) (hcell : H[q]? = some ce) (hv : ce.vm = .none) (hcl : s.vm.findClass (enm E) = some ce.cls)
    (kk : ∀ lsC' : Array Slot, lv_has lsC' (mMx mi) [] → W p l e R s m args below meth c H locs cells slots Q (F0 m hp lsC' [])) : vx_W p l e R s m args below meth c H locs cells slots Q (F0 m pc lsC rest) q := by
  obtain ⟨hx, hb, hml, hown, hin, hfr, hlo, hK, hKH, hsz, hlk, htr, htb, hrt, hmi⟩ := F
  obtain ⟨pre, x, suf, h1, h2, h3, h4, h5, h6⟩ := hnd_spec hh
  have hok := all_lt hnd_all (show mi < lawM + 1 by omega)
  unfold hndOk at hok
  have hall := List.all_eq_true.mp hok
  have cl : ∀ z ∈ mHn mi, z.2.2.2.1 ≠ 0 ∧ z.2.2.2.2.1 < 5 ∧ (Cond.classLink (cnm (mOw mi)) z.2.2.2.1 (enm z.2.2.2.2.1)).before args s = true := by
    intro z hz
    have h9 := hall z hz
    simp only [Bool.and_eq_true, decide_eq_true_eq] at h9
    obtain ⟨⟨⟨g1, g2⟩, g3⟩, -⟩ := h9
    obtain ⟨⟨o1, x1, C1, ps⟩, -, hf, hg⟩ := lk_any g1 lkC_ok
    simp only [Bool.and_eq_true, beq_iff_eq, decide_eq_true_eq] at hf hg
    obtain ⟨⟨z1, z2⟩, z3⟩ := hf
    subst z1; subst z2; subst z3
    exact ⟨g3, g2, hK.w (lw_of hg) okw_cl args⟩
  have hxm : x ∈ mHn mi := by rw [h1]; exact List.mem_append_right _ List.mem_cons_self
  obtain ⟨c1, c2, c3⟩ := cl x hxm
  have h9 := hall x hxm
  simp only [Bool.and_eq_true, decide_eq_true_eq] at h9
  obtain ⟨-, hst⟩ := h9
  have hi := all_lt exn_ini hE
  simp only [Bool.and_eq_true, decide_eq_true_eq] at hi
  have hcast : (Cond.castable (enm E) (enm x.2.2.2.2.1)).before args s = true := by rw [h5]; exact hK.w hi.2 rfl args
  refine vx_catch (own := cnm (mOw mi)) (name := enm x.2.2.2.2.1) (E := enm E) hown (tableOf (pre.map (fun h => (h.1, h.2.1, h.2.2.1, h.2.2.2.1)))) ⟨x.1, x.2.1, x.2.2.1, x.2.2.2.1⟩ (tableOf (suf.map (fun h => (h.1, h.2.1, h.2.2.1, h.2.2.2.1)))) (by rw [htb (Or.inr (by rw [h1]; simp)), h1]; simp [tableOf]) (fun z hz => ?_) (by simp [covers, h3, h4]) c1 c3 hcast hcell hv hcl ?_
  · unfold tableOf at hz
    obtain ⟨y, hy, rfl⟩ := List.mem_map.mp hz
    obtain ⟨w, hw, rfl⟩ := List.mem_map.mp hy
    rcases h2 w hw with h7 | h7
    · left
      simp only [covers]
      by_cases g1 : w.1 ≤ pc
      · have g2 : ¬ pc < w.2.1 := fun g => h7 ⟨g1, g⟩
        simp [g2]
      · simp [g1]
    · obtain ⟨d1, d2, d3⟩ := cl w (by rw [h1]; exact List.mem_append_left _ hw)
      exact Or.inr ⟨d1, _, d3, hK.2.2.1 E _ hE d2 (fun h => h7 h.symm)⟩
  · show W p l e R s m args below meth c H locs cells slots Q (F0 m x.2.2.1 lsC [.ref q])
    subst h6
    split at hst
    · rename_i k hd
      simp only [Bool.and_eq_true, decide_eq_true_eq, beq_iff_eq] at hst
      refine lv_astore_n hx hb (dc_ok2 hd (fun h => by cases h)) rfl hl hst.1 rfl (fun ls9 h9 => ?_)
      have := kk ls9 (lv_mono h9 (fun q hq => (List.not_mem_nil hq).elim))
      rw [hst.2] at this
      exact this
    · rename_i k hd
      simp only [Bool.and_eq_true, decide_eq_true_eq, beq_iff_eq] at hst
      refine lv_astore hx hb (dc_ok2 hd (fun h => by cases h)) hl hst.1 rfl (fun ls9 h9 => ?_)
      have := kk ls9 (lv_mono h9 (fun q hq => (List.not_mem_nil hq).elim))
      rw [hst.2] at this
      exact this
    · cases hst
end EX
