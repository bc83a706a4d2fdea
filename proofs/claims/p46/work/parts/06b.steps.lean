/-! ===== each step of the abstract machine is the machine's (by program where rows are alike) ===== -/
def FX (G : AG) (mi : Nat) (p : Program) (l : Launch) (R : Room) (s : State) (m : MethodId) (meth : Method) (c : Code) : Prop :=
  p.tables.exec = Jvm.exec ∧ c.code = mC mi ∧ c.maxLocals = mMx mi ∧ s.vm.findClass (cnm (mOw mi)) = some m.cls ∧ (mKd mi = 2 → meth.name = "<init>") ∧ mLv mi ≤ R.frames ∧ mLo mi ≤ R.locals ∧ KK G s ∧ KH G s s.heap ∧ G.1 ≤ s.heap.size
  ∧ meth.locks = false ∧ l.stackTraces = false ∧ ((mTh mi = true ∨ (mHn mi).isEmpty = false) → c.exceptionTable.toList = tableOf ((mHn mi).map (fun h => (h.1, h.2.1, h.2.2.1, h.2.2.2.1)))) ∧ meth.sig.returnType = mRt mi ∧ mi ≤ lawM
theorem lv_mono {ls : Array Slot} {nL : Nat} {l l' : List (Nat × Value)} (h : lv_has ls nL l) (hm : ∀ q ∈ l', q ∈ l) : lv_has ls nL l' := ⟨h.1, h.2.1, fun q hq => h.2.2 q (hm q hq)⟩
theorem lkp_mem {v : Value} {i : Nat} : ∀ {l : ALs}, lkp l i = some v → (i, v) ∈ l
  | (j, w) :: t, h => by
    unfold lkp at h
    by_cases e : j = i
    · rw [if_pos e] at h
      cases h
      rw [e]
      exact List.mem_cons_self
    · rw [if_neg e] at h
      exact List.mem_cons_of_mem _ (lkp_mem h)
theorem lkp_at {ls : Array Slot} {nL i : Nat} {l : ALs} {v : Value} (h : lv_has ls nL l) (hk : lkp l i = some v) : ls[i]? = some (.val v) := h.2.2 (i, v) (lkp_mem hk)
theorem lins_mem {i : Nat} {v : Value} : ∀ {l : ALs} {q : Nat × Value}, q ∈ lins i v l → q ∈ (i, v) :: l
  | [], q, h => h
  | (j, w) :: t, q, h => by
    unfold lins at h
    by_cases e : j < i
    · rw [if_pos e] at h
      rcases List.mem_cons.mp h with h | h
      · rw [h]; exact List.mem_cons_of_mem _ List.mem_cons_self
      · rcases List.mem_cons.mp (lins_mem h) with h | h
        · rw [h]; exact List.mem_cons_self
        · exact List.mem_cons_of_mem _ (List.mem_cons_of_mem _ h)
    · rw [if_neg e] at h
      exact h
theorem inb_in {j : Int32} {n : Nat} (h : inb j n = true) : vp_in j n := by
  simp only [inb, Bool.and_eq_true, decide_eq_true_eq] at h
  exact vp_in_iff.mpr h
theorem KK.w {G : AG} {s : State} (h : KK G s) {w : Cond} (hw : w ∈ lw_tbl) (ho : okw w = true) (A : Array Value) : w.before A s = true := h.1 w hw ho A
section ST
variable {G : AG} {mi : Nat} {p : Program} {l : Launch} {e : Env} {R : Room} {s : State} {m : MethodId} {args : Array Value} {below : List Frame} {meth : Method} {c : Code} {H : Heap} {locs : List Loc} {cells slots : Nat} {Q : State → Prop}
variable {lsC : Array Slot} {ls ls' : ALs} {st st' : List Value} {M M' : AMem} {pc pc' len n0 s0 : Nat}
/-- what is owed at the next place -/
abbrev Kon (G : AG) (mi : Nat) (p : Program) (l : Launch) (e : Env) (R : Room) (s : State) (m : MethodId) (args : Array Value) (below : List Frame) (meth : Method) (c : Code) (Q : State → Prop) (n0 s0 pc' : Nat) (ls' : ALs) (st' : List Value) (M' : AMem) : Prop :=
  ∀ (lsC' : Array Slot) (H' : Heap) (locs' : List Loc) (cells' slots' : Nat), lv_has lsC' (mMx mi) ls' → HR G M' H' → va_S (gA G) s.heap H' locs' → cells' + n0 = mN M' → slots' + s0 = mS M' → W p l e R s m args below meth c H' locs' cells' slots' Q (F0 m pc' lsC' st')

theorem sn_iconst (F : FX G mi p l R s m meth c) {n : Int} (hdg : decode (mC mi) pc = .ok (.iconst n, 1)) (hst : sStep mi (.iconst n) 1 pc ls st M = some (.inl (pc', ls', st', M'))) (hl : lv_has lsC (mMx mi) ls) (hH : HR G M H) (hS : va_S (gA G) s.heap H locs) (hc : cells + n0 = mN M) (hs : slots + s0 = mS M) (hb1 : mN M' ≤ n0 + R.cells) (hb2 : mS M' ≤ s0 + R.slots) (kk : Kon G mi p l e R s m args below meth c Q n0 s0 pc' ls' st' M') : W p l e R s m args below meth c H locs cells slots Q (F0 m pc lsC st) := by
  obtain ⟨hx, hb, hml, hown, hin, hfr, hlo, hK, hKH, hsz, hlk, htr, htb, hrt, hmi⟩ := F
  simp only [sStep, amStep, a_nx] at hst
  cases hst
  exact lv_iconst hx hb hdg rfl (kk _ _ _ _ _ hl hH hS hc hs)
theorem sn_bipush (F : FX G mi p l R s m meth c) {n : Int} (hdg : decode (mC mi) pc = .ok (.bipush n, 2)) (hst : sStep mi (.bipush n) 2 pc ls st M = some (.inl (pc', ls', st', M'))) (hl : lv_has lsC (mMx mi) ls) (hH : HR G M H) (hS : va_S (gA G) s.heap H locs) (hc : cells + n0 = mN M) (hs : slots + s0 = mS M) (hb1 : mN M' ≤ n0 + R.cells) (hb2 : mS M' ≤ s0 + R.slots) (kk : Kon G mi p l e R s m args below meth c Q n0 s0 pc' ls' st' M') : W p l e R s m args below meth c H locs cells slots Q (F0 m pc lsC st) := by
  obtain ⟨hx, hb, hml, hown, hin, hfr, hlo, hK, hKH, hsz, hlk, htr, htb, hrt, hmi⟩ := F
  simp only [sStep, amStep, a_nx] at hst
  cases hst
  exact lv_bipush hx hb hdg rfl (kk _ _ _ _ _ hl hH hS hc hs)
theorem sn_sipush (F : FX G mi p l R s m meth c) {n : Int} (hdg : decode (mC mi) pc = .ok (.sipush n, 3)) (hst : sStep mi (.sipush n) 3 pc ls st M = some (.inl (pc', ls', st', M'))) (hl : lv_has lsC (mMx mi) ls) (hH : HR G M H) (hS : va_S (gA G) s.heap H locs) (hc : cells + n0 = mN M) (hs : slots + s0 = mS M) (hb1 : mN M' ≤ n0 + R.cells) (hb2 : mS M' ≤ s0 + R.slots) (kk : Kon G mi p l e R s m args below meth c Q n0 s0 pc' ls' st' M') : W p l e R s m args below meth c H locs cells slots Q (F0 m pc lsC st) := by
  obtain ⟨hx, hb, hml, hown, hin, hfr, hlo, hK, hKH, hsz, hlk, htr, htb, hrt, hmi⟩ := F
  simp only [sStep, amStep, a_nx] at hst
  cases hst
  exact lv_sipush hx hb hdg rfl (kk _ _ _ _ _ hl hH hS hc hs)
theorem sn_lconst (F : FX G mi p l R s m meth c) {n : Fin 2} (hdg : decode (mC mi) pc = .ok (.lconst n, 1)) (hst : sStep mi (.lconst n) 1 pc ls st M = some (.inl (pc', ls', st', M'))) (hl : lv_has lsC (mMx mi) ls) (hH : HR G M H) (hS : va_S (gA G) s.heap H locs) (hc : cells + n0 = mN M) (hs : slots + s0 = mS M) (hb1 : mN M' ≤ n0 + R.cells) (hb2 : mS M' ≤ s0 + R.slots) (kk : Kon G mi p l e R s m args below meth c Q n0 s0 pc' ls' st' M') : W p l e R s m args below meth c H locs cells slots Q (F0 m pc lsC st) := by
  obtain ⟨hx, hb, hml, hown, hin, hfr, hlo, hK, hKH, hsz, hlk, htr, htb, hrt, hmi⟩ := F
  simp only [sStep, amStep, a_nx] at hst
  cases hst
  exact lv_lconst hx hb hdg rfl (kk _ _ _ _ _ hl hH hS hc hs)
theorem sn_fconst (F : FX G mi p l R s m meth c) {n : Fin 3} (hdg : decode (mC mi) pc = .ok (.fconst n, 1)) (hst : sStep mi (.fconst n) 1 pc ls st M = some (.inl (pc', ls', st', M'))) (hl : lv_has lsC (mMx mi) ls) (hH : HR G M H) (hS : va_S (gA G) s.heap H locs) (hc : cells + n0 = mN M) (hs : slots + s0 = mS M) (hb1 : mN M' ≤ n0 + R.cells) (hb2 : mS M' ≤ s0 + R.slots) (kk : Kon G mi p l e R s m args below meth c Q n0 s0 pc' ls' st' M') : W p l e R s m args below meth c H locs cells slots Q (F0 m pc lsC st) := by
  obtain ⟨hx, hb, hml, hown, hin, hfr, hlo, hK, hKH, hsz, hlk, htr, htb, hrt, hmi⟩ := F
  simp only [sStep, amStep, a_nx] at hst
  split at hst
  · rename_i h0
    subst h0
    cases hst
    exact lv_fconst0 hx hb hdg (kk _ _ _ _ _ hl hH hS hc hs)
  · cases hst
theorem sn_dconst (F : FX G mi p l R s m meth c) {n : Fin 2} (hdg : decode (mC mi) pc = .ok (.dconst n, 1)) (hst : sStep mi (.dconst n) 1 pc ls st M = some (.inl (pc', ls', st', M'))) (hl : lv_has lsC (mMx mi) ls) (hH : HR G M H) (hS : va_S (gA G) s.heap H locs) (hc : cells + n0 = mN M) (hs : slots + s0 = mS M) (hb1 : mN M' ≤ n0 + R.cells) (hb2 : mS M' ≤ s0 + R.slots) (kk : Kon G mi p l e R s m args below meth c Q n0 s0 pc' ls' st' M') : W p l e R s m args below meth c H locs cells slots Q (F0 m pc lsC st) := by
  obtain ⟨hx, hb, hml, hown, hin, hfr, hlo, hK, hKH, hsz, hlk, htr, htb, hrt, hmi⟩ := F
  simp only [sStep, amStep, a_nx] at hst
  split at hst
  · rename_i h0
    subst h0
    cases hst
    exact lv_dconst0 hx hb hdg (kk _ _ _ _ _ hl hH hS hc hs)
  · cases hst
theorem sn_iload (F : FX G mi p l R s m meth c) {k : Nat} (hdg : decode (mC mi) pc = .ok (.iload k, 2)) (hst : sStep mi (.iload k) 2 pc ls st M = some (.inl (pc', ls', st', M'))) (hl : lv_has lsC (mMx mi) ls) (hH : HR G M H) (hS : va_S (gA G) s.heap H locs) (hc : cells + n0 = mN M) (hs : slots + s0 = mS M) (hb1 : mN M' ≤ n0 + R.cells) (hb2 : mS M' ≤ s0 + R.slots) (kk : Kon G mi p l e R s m args below meth c Q n0 s0 pc' ls' st' M') : W p l e R s m args below meth c H locs cells slots Q (F0 m pc lsC st) := by
  obtain ⟨hx, hb, hml, hown, hin, hfr, hlo, hK, hKH, hsz, hlk, htr, htb, hrt, hmi⟩ := F
  simp only [sStep, amStep, a_ld, a_nx] at hst
  split at hst
  · rename_i x h0
    simp at hst
    obtain ⟨rfl, rfl, rfl, rfl⟩ := hst
    exact lv_iload hx hb hdg (lkp_at hl h0) (kk _ _ _ _ _ hl hH hS hc hs)
  · simp at hst
  · simp at hst
  · simp at hst
  · simp at hst
  · simp at hst
  · simp at hst
theorem sn_iload_n (F : FX G mi p l R s m meth c) {k : Fin 4} (hdg : decode (mC mi) pc = .ok (.iload_n k, 1)) (hst : sStep mi (.iload_n k) 1 pc ls st M = some (.inl (pc', ls', st', M'))) (hl : lv_has lsC (mMx mi) ls) (hH : HR G M H) (hS : va_S (gA G) s.heap H locs) (hc : cells + n0 = mN M) (hs : slots + s0 = mS M) (hb1 : mN M' ≤ n0 + R.cells) (hb2 : mS M' ≤ s0 + R.slots) (kk : Kon G mi p l e R s m args below meth c Q n0 s0 pc' ls' st' M') : W p l e R s m args below meth c H locs cells slots Q (F0 m pc lsC st) := by
  obtain ⟨hx, hb, hml, hown, hin, hfr, hlo, hK, hKH, hsz, hlk, htr, htb, hrt, hmi⟩ := F
  simp only [sStep, amStep, a_ld, a_nx] at hst
  split at hst
  · rename_i x h0
    simp at hst
    obtain ⟨rfl, rfl, rfl, rfl⟩ := hst
    exact lv_iload_n hx hb hdg rfl (lkp_at hl h0) (kk _ _ _ _ _ hl hH hS hc hs)
  · simp at hst
  · simp at hst
  · simp at hst
  · simp at hst
  · simp at hst
  · simp at hst
theorem sn_lload (F : FX G mi p l R s m meth c) {k : Nat} (hdg : decode (mC mi) pc = .ok (.lload k, 2)) (hst : sStep mi (.lload k) 2 pc ls st M = some (.inl (pc', ls', st', M'))) (hl : lv_has lsC (mMx mi) ls) (hH : HR G M H) (hS : va_S (gA G) s.heap H locs) (hc : cells + n0 = mN M) (hs : slots + s0 = mS M) (hb1 : mN M' ≤ n0 + R.cells) (hb2 : mS M' ≤ s0 + R.slots) (kk : Kon G mi p l e R s m args below meth c Q n0 s0 pc' ls' st' M') : W p l e R s m args below meth c H locs cells slots Q (F0 m pc lsC st) := by
  obtain ⟨hx, hb, hml, hown, hin, hfr, hlo, hK, hKH, hsz, hlk, htr, htb, hrt, hmi⟩ := F
  simp only [sStep, amStep, a_ld, a_nx] at hst
  split at hst
  · simp at hst
  · rename_i x h0
    simp at hst
    obtain ⟨rfl, rfl, rfl, rfl⟩ := hst
    exact lv_lload hx hb hdg (lkp_at hl h0) (kk _ _ _ _ _ hl hH hS hc hs)
  · simp at hst
  · simp at hst
  · simp at hst
  · simp at hst
  · simp at hst
theorem sn_lload_n (F : FX G mi p l R s m meth c) {k : Fin 4} (hdg : decode (mC mi) pc = .ok (.lload_n k, 1)) (hst : sStep mi (.lload_n k) 1 pc ls st M = some (.inl (pc', ls', st', M'))) (hl : lv_has lsC (mMx mi) ls) (hH : HR G M H) (hS : va_S (gA G) s.heap H locs) (hc : cells + n0 = mN M) (hs : slots + s0 = mS M) (hb1 : mN M' ≤ n0 + R.cells) (hb2 : mS M' ≤ s0 + R.slots) (kk : Kon G mi p l e R s m args below meth c Q n0 s0 pc' ls' st' M') : W p l e R s m args below meth c H locs cells slots Q (F0 m pc lsC st) := by
  obtain ⟨hx, hb, hml, hown, hin, hfr, hlo, hK, hKH, hsz, hlk, htr, htb, hrt, hmi⟩ := F
  simp only [sStep, amStep, a_ld, a_nx] at hst
  split at hst
  · simp at hst
  · rename_i x h0
    simp at hst
    obtain ⟨rfl, rfl, rfl, rfl⟩ := hst
    exact lv_lload_n hx hb hdg rfl (lkp_at hl h0) (kk _ _ _ _ _ hl hH hS hc hs)
  · simp at hst
  · simp at hst
  · simp at hst
  · simp at hst
  · simp at hst
theorem sn_fload (F : FX G mi p l R s m meth c) {k : Nat} (hdg : decode (mC mi) pc = .ok (.fload k, 2)) (hst : sStep mi (.fload k) 2 pc ls st M = some (.inl (pc', ls', st', M'))) (hl : lv_has lsC (mMx mi) ls) (hH : HR G M H) (hS : va_S (gA G) s.heap H locs) (hc : cells + n0 = mN M) (hs : slots + s0 = mS M) (hb1 : mN M' ≤ n0 + R.cells) (hb2 : mS M' ≤ s0 + R.slots) (kk : Kon G mi p l e R s m args below meth c Q n0 s0 pc' ls' st' M') : W p l e R s m args below meth c H locs cells slots Q (F0 m pc lsC st) := by
  obtain ⟨hx, hb, hml, hown, hin, hfr, hlo, hK, hKH, hsz, hlk, htr, htb, hrt, hmi⟩ := F
  simp only [sStep, amStep, a_ld, a_nx] at hst
  split at hst
  · simp at hst
  · simp at hst
  · rename_i x h0
    simp at hst
    obtain ⟨rfl, rfl, rfl, rfl⟩ := hst
    exact lv_fload hx hb hdg (lkp_at hl h0) (kk _ _ _ _ _ hl hH hS hc hs)
  · simp at hst
  · simp at hst
  · simp at hst
  · simp at hst
theorem sn_fload_n (F : FX G mi p l R s m meth c) {k : Fin 4} (hdg : decode (mC mi) pc = .ok (.fload_n k, 1)) (hst : sStep mi (.fload_n k) 1 pc ls st M = some (.inl (pc', ls', st', M'))) (hl : lv_has lsC (mMx mi) ls) (hH : HR G M H) (hS : va_S (gA G) s.heap H locs) (hc : cells + n0 = mN M) (hs : slots + s0 = mS M) (hb1 : mN M' ≤ n0 + R.cells) (hb2 : mS M' ≤ s0 + R.slots) (kk : Kon G mi p l e R s m args below meth c Q n0 s0 pc' ls' st' M') : W p l e R s m args below meth c H locs cells slots Q (F0 m pc lsC st) := by
  obtain ⟨hx, hb, hml, hown, hin, hfr, hlo, hK, hKH, hsz, hlk, htr, htb, hrt, hmi⟩ := F
  simp only [sStep, amStep, a_ld, a_nx] at hst
  split at hst
  · simp at hst
  · simp at hst
  · rename_i x h0
    simp at hst
    obtain ⟨rfl, rfl, rfl, rfl⟩ := hst
    exact lv_fload_n hx hb hdg rfl (lkp_at hl h0) (kk _ _ _ _ _ hl hH hS hc hs)
  · simp at hst
  · simp at hst
  · simp at hst
  · simp at hst
theorem sn_dload (F : FX G mi p l R s m meth c) {k : Nat} (hdg : decode (mC mi) pc = .ok (.dload k, 2)) (hst : sStep mi (.dload k) 2 pc ls st M = some (.inl (pc', ls', st', M'))) (hl : lv_has lsC (mMx mi) ls) (hH : HR G M H) (hS : va_S (gA G) s.heap H locs) (hc : cells + n0 = mN M) (hs : slots + s0 = mS M) (hb1 : mN M' ≤ n0 + R.cells) (hb2 : mS M' ≤ s0 + R.slots) (kk : Kon G mi p l e R s m args below meth c Q n0 s0 pc' ls' st' M') : W p l e R s m args below meth c H locs cells slots Q (F0 m pc lsC st) := by
  obtain ⟨hx, hb, hml, hown, hin, hfr, hlo, hK, hKH, hsz, hlk, htr, htb, hrt, hmi⟩ := F
  simp only [sStep, amStep, a_ld, a_nx] at hst
  split at hst
  · simp at hst
  · simp at hst
  · simp at hst
  · rename_i x h0
    simp at hst
    obtain ⟨rfl, rfl, rfl, rfl⟩ := hst
    exact lv_dload hx hb hdg (lkp_at hl h0) (kk _ _ _ _ _ hl hH hS hc hs)
  · simp at hst
  · simp at hst
  · simp at hst
theorem sn_dload_n (F : FX G mi p l R s m meth c) {k : Fin 4} (hdg : decode (mC mi) pc = .ok (.dload_n k, 1)) (hst : sStep mi (.dload_n k) 1 pc ls st M = some (.inl (pc', ls', st', M'))) (hl : lv_has lsC (mMx mi) ls) (hH : HR G M H) (hS : va_S (gA G) s.heap H locs) (hc : cells + n0 = mN M) (hs : slots + s0 = mS M) (hb1 : mN M' ≤ n0 + R.cells) (hb2 : mS M' ≤ s0 + R.slots) (kk : Kon G mi p l e R s m args below meth c Q n0 s0 pc' ls' st' M') : W p l e R s m args below meth c H locs cells slots Q (F0 m pc lsC st) := by
  obtain ⟨hx, hb, hml, hown, hin, hfr, hlo, hK, hKH, hsz, hlk, htr, htb, hrt, hmi⟩ := F
  simp only [sStep, amStep, a_ld, a_nx] at hst
  split at hst
  · simp at hst
  · simp at hst
  · simp at hst
  · rename_i x h0
    simp at hst
    obtain ⟨rfl, rfl, rfl, rfl⟩ := hst
    exact lv_dload_n hx hb hdg rfl (lkp_at hl h0) (kk _ _ _ _ _ hl hH hS hc hs)
  · simp at hst
  · simp at hst
  · simp at hst
theorem sn_aload (F : FX G mi p l R s m meth c) {k : Nat} (hdg : decode (mC mi) pc = .ok (.aload k, 2)) (hst : sStep mi (.aload k) 2 pc ls st M = some (.inl (pc', ls', st', M'))) (hl : lv_has lsC (mMx mi) ls) (hH : HR G M H) (hS : va_S (gA G) s.heap H locs) (hc : cells + n0 = mN M) (hs : slots + s0 = mS M) (hb1 : mN M' ≤ n0 + R.cells) (hb2 : mS M' ≤ s0 + R.slots) (kk : Kon G mi p l e R s m args below meth c Q n0 s0 pc' ls' st' M') : W p l e R s m args below meth c H locs cells slots Q (F0 m pc lsC st) := by
  obtain ⟨hx, hb, hml, hown, hin, hfr, hlo, hK, hKH, hsz, hlk, htr, htb, hrt, hmi⟩ := F
  simp only [sStep, amStep, a_ld, a_nx] at hst
  split at hst
  · simp at hst
  · simp at hst
  · simp at hst
  · simp at hst
  · rename_i x h0
    simp at hst
    obtain ⟨rfl, rfl, rfl, rfl⟩ := hst
    exact lv_aload hx hb hdg (lkp_at hl h0) (kk _ _ _ _ _ hl hH hS hc hs)
  · rename_i h0
    simp at hst
    obtain ⟨rfl, rfl, rfl, rfl⟩ := hst
    exact lv_aloadN hx hb hdg (lkp_at hl h0) (kk _ _ _ _ _ hl hH hS hc hs)
  · simp at hst
theorem sn_aload_n (F : FX G mi p l R s m meth c) {k : Fin 4} (hdg : decode (mC mi) pc = .ok (.aload_n k, 1)) (hst : sStep mi (.aload_n k) 1 pc ls st M = some (.inl (pc', ls', st', M'))) (hl : lv_has lsC (mMx mi) ls) (hH : HR G M H) (hS : va_S (gA G) s.heap H locs) (hc : cells + n0 = mN M) (hs : slots + s0 = mS M) (hb1 : mN M' ≤ n0 + R.cells) (hb2 : mS M' ≤ s0 + R.slots) (kk : Kon G mi p l e R s m args below meth c Q n0 s0 pc' ls' st' M') : W p l e R s m args below meth c H locs cells slots Q (F0 m pc lsC st) := by
  obtain ⟨hx, hb, hml, hown, hin, hfr, hlo, hK, hKH, hsz, hlk, htr, htb, hrt, hmi⟩ := F
  simp only [sStep, amStep, a_ld, a_nx] at hst
  split at hst
  · simp at hst
  · simp at hst
  · simp at hst
  · simp at hst
  · rename_i x h0
    simp at hst
    obtain ⟨rfl, rfl, rfl, rfl⟩ := hst
    exact lv_aload_n hx hb hdg rfl (lkp_at hl h0) (kk _ _ _ _ _ hl hH hS hc hs)
  · rename_i h0
    simp at hst
    obtain ⟨rfl, rfl, rfl, rfl⟩ := hst
    exact lv_aload_nN hx hb hdg rfl (lkp_at hl h0) (kk _ _ _ _ _ hl hH hS hc hs)
  · simp at hst
theorem sn_istore (F : FX G mi p l R s m meth c) {k : Nat} (hk : k + 1 ≤ mMx mi) (hdg : decode (mC mi) pc = .ok (.istore k, 2)) (hst : sStep mi (.istore k) 2 pc ls st M = some (.inl (pc', ls', st', M'))) (hl : lv_has lsC (mMx mi) ls) (hH : HR G M H) (hS : va_S (gA G) s.heap H locs) (hc : cells + n0 = mN M) (hs : slots + s0 = mS M) (hb1 : mN M' ≤ n0 + R.cells) (hb2 : mS M' ≤ s0 + R.slots) (kk : Kon G mi p l e R s m args below meth c Q n0 s0 pc' ls' st' M') : W p l e R s m args below meth c H locs cells slots Q (F0 m pc lsC st) := by
  obtain ⟨hx, hb, hml, hown, hin, hfr, hlo, hK, hKH, hsz, hlk, htr, htb, hrt, hmi⟩ := F
  simp only [sStep, amStep, a_st, a_nx] at hst
  split at hst
  · simp at hst
    obtain ⟨rfl, rfl, rfl, rfl⟩ := hst
    exact lv_istore hx hb hdg hl (by omega) rfl (fun ls9 h9 => kk _ _ _ _ _ (lv_mono h9 (fun q hq => lins_mem hq)) hH hS hc hs)
  · simp at hst
  · simp at hst
  · simp at hst
  · simp at hst
  · simp at hst
  · simp at hst
theorem sn_istore_n (F : FX G mi p l R s m meth c) {k : Fin 4} (hk : (k : Nat) + 1 ≤ mMx mi) (hdg : decode (mC mi) pc = .ok (.istore_n k, 1)) (hst : sStep mi (.istore_n k) 1 pc ls st M = some (.inl (pc', ls', st', M'))) (hl : lv_has lsC (mMx mi) ls) (hH : HR G M H) (hS : va_S (gA G) s.heap H locs) (hc : cells + n0 = mN M) (hs : slots + s0 = mS M) (hb1 : mN M' ≤ n0 + R.cells) (hb2 : mS M' ≤ s0 + R.slots) (kk : Kon G mi p l e R s m args below meth c Q n0 s0 pc' ls' st' M') : W p l e R s m args below meth c H locs cells slots Q (F0 m pc lsC st) := by
  obtain ⟨hx, hb, hml, hown, hin, hfr, hlo, hK, hKH, hsz, hlk, htr, htb, hrt, hmi⟩ := F
  simp only [sStep, amStep, a_st, a_nx] at hst
  split at hst
  · simp at hst
    obtain ⟨rfl, rfl, rfl, rfl⟩ := hst
    exact lv_istore_n hx hb hdg rfl hl (by omega) rfl (fun ls9 h9 => kk _ _ _ _ _ (lv_mono h9 (fun q hq => lins_mem hq)) hH hS hc hs)
  · simp at hst
  · simp at hst
  · simp at hst
  · simp at hst
  · simp at hst
  · simp at hst
theorem sn_lstore (F : FX G mi p l R s m meth c) {k : Nat} (hk : k + 2 ≤ mMx mi) (hdg : decode (mC mi) pc = .ok (.lstore k, 2)) (hst : sStep mi (.lstore k) 2 pc ls st M = some (.inl (pc', ls', st', M'))) (hl : lv_has lsC (mMx mi) ls) (hH : HR G M H) (hS : va_S (gA G) s.heap H locs) (hc : cells + n0 = mN M) (hs : slots + s0 = mS M) (hb1 : mN M' ≤ n0 + R.cells) (hb2 : mS M' ≤ s0 + R.slots) (kk : Kon G mi p l e R s m args below meth c Q n0 s0 pc' ls' st' M') : W p l e R s m args below meth c H locs cells slots Q (F0 m pc lsC st) := by
  obtain ⟨hx, hb, hml, hown, hin, hfr, hlo, hK, hKH, hsz, hlk, htr, htb, hrt, hmi⟩ := F
  simp only [sStep, amStep, a_st, a_nx] at hst
  split at hst
  · simp at hst
  · simp at hst
    obtain ⟨rfl, rfl, rfl, rfl⟩ := hst
    exact lv_lstore hx hb hdg hl (by omega) rfl (fun ls9 h9 => kk _ _ _ _ _ (lv_mono h9 (fun q hq => lins_mem hq)) hH hS hc hs)
  · simp at hst
  · simp at hst
  · simp at hst
  · simp at hst
  · simp at hst
theorem sn_lstore_n (F : FX G mi p l R s m meth c) {k : Fin 4} (hk : (k : Nat) + 2 ≤ mMx mi) (hdg : decode (mC mi) pc = .ok (.lstore_n k, 1)) (hst : sStep mi (.lstore_n k) 1 pc ls st M = some (.inl (pc', ls', st', M'))) (hl : lv_has lsC (mMx mi) ls) (hH : HR G M H) (hS : va_S (gA G) s.heap H locs) (hc : cells + n0 = mN M) (hs : slots + s0 = mS M) (hb1 : mN M' ≤ n0 + R.cells) (hb2 : mS M' ≤ s0 + R.slots) (kk : Kon G mi p l e R s m args below meth c Q n0 s0 pc' ls' st' M') : W p l e R s m args below meth c H locs cells slots Q (F0 m pc lsC st) := by
  obtain ⟨hx, hb, hml, hown, hin, hfr, hlo, hK, hKH, hsz, hlk, htr, htb, hrt, hmi⟩ := F
  simp only [sStep, amStep, a_st, a_nx] at hst
  split at hst
  · simp at hst
  · simp at hst
    obtain ⟨rfl, rfl, rfl, rfl⟩ := hst
    exact lv_lstore_n hx hb hdg rfl hl (by omega) rfl (fun ls9 h9 => kk _ _ _ _ _ (lv_mono h9 (fun q hq => lins_mem hq)) hH hS hc hs)
  · simp at hst
  · simp at hst
  · simp at hst
  · simp at hst
  · simp at hst
theorem sn_fstore (F : FX G mi p l R s m meth c) {k : Nat} (hk : k + 1 ≤ mMx mi) (hdg : decode (mC mi) pc = .ok (.fstore k, 2)) (hst : sStep mi (.fstore k) 2 pc ls st M = some (.inl (pc', ls', st', M'))) (hl : lv_has lsC (mMx mi) ls) (hH : HR G M H) (hS : va_S (gA G) s.heap H locs) (hc : cells + n0 = mN M) (hs : slots + s0 = mS M) (hb1 : mN M' ≤ n0 + R.cells) (hb2 : mS M' ≤ s0 + R.slots) (kk : Kon G mi p l e R s m args below meth c Q n0 s0 pc' ls' st' M') : W p l e R s m args below meth c H locs cells slots Q (F0 m pc lsC st) := by
  obtain ⟨hx, hb, hml, hown, hin, hfr, hlo, hK, hKH, hsz, hlk, htr, htb, hrt, hmi⟩ := F
  simp only [sStep, amStep, a_st, a_nx] at hst
  split at hst
  · simp at hst
  · simp at hst
  · simp at hst
    obtain ⟨rfl, rfl, rfl, rfl⟩ := hst
    exact lv_fstore hx hb hdg hl (by omega) rfl (fun ls9 h9 => kk _ _ _ _ _ (lv_mono h9 (fun q hq => lins_mem hq)) hH hS hc hs)
  · simp at hst
  · simp at hst
  · simp at hst
  · simp at hst
theorem sn_dstore (F : FX G mi p l R s m meth c) {k : Nat} (hk : k + 2 ≤ mMx mi) (hdg : decode (mC mi) pc = .ok (.dstore k, 2)) (hst : sStep mi (.dstore k) 2 pc ls st M = some (.inl (pc', ls', st', M'))) (hl : lv_has lsC (mMx mi) ls) (hH : HR G M H) (hS : va_S (gA G) s.heap H locs) (hc : cells + n0 = mN M) (hs : slots + s0 = mS M) (hb1 : mN M' ≤ n0 + R.cells) (hb2 : mS M' ≤ s0 + R.slots) (kk : Kon G mi p l e R s m args below meth c Q n0 s0 pc' ls' st' M') : W p l e R s m args below meth c H locs cells slots Q (F0 m pc lsC st) := by
  obtain ⟨hx, hb, hml, hown, hin, hfr, hlo, hK, hKH, hsz, hlk, htr, htb, hrt, hmi⟩ := F
  simp only [sStep, amStep, a_st, a_nx] at hst
  split at hst
  · simp at hst
  · simp at hst
  · simp at hst
  · simp at hst
    obtain ⟨rfl, rfl, rfl, rfl⟩ := hst
    exact lv_dstore hx hb hdg hl (by omega) rfl (fun ls9 h9 => kk _ _ _ _ _ (lv_mono h9 (fun q hq => lins_mem hq)) hH hS hc hs)
  · simp at hst
  · simp at hst
  · simp at hst
theorem sn_astore (F : FX G mi p l R s m meth c) {k : Nat} (hk : k + 1 ≤ mMx mi) (hdg : decode (mC mi) pc = .ok (.astore k, 2)) (hst : sStep mi (.astore k) 2 pc ls st M = some (.inl (pc', ls', st', M'))) (hl : lv_has lsC (mMx mi) ls) (hH : HR G M H) (hS : va_S (gA G) s.heap H locs) (hc : cells + n0 = mN M) (hs : slots + s0 = mS M) (hb1 : mN M' ≤ n0 + R.cells) (hb2 : mS M' ≤ s0 + R.slots) (kk : Kon G mi p l e R s m args below meth c Q n0 s0 pc' ls' st' M') : W p l e R s m args below meth c H locs cells slots Q (F0 m pc lsC st) := by
  obtain ⟨hx, hb, hml, hown, hin, hfr, hlo, hK, hKH, hsz, hlk, htr, htb, hrt, hmi⟩ := F
  simp only [sStep, amStep, a_st, a_nx] at hst
  split at hst
  · simp at hst
  · simp at hst
  · simp at hst
  · simp at hst
  · simp at hst
    obtain ⟨rfl, rfl, rfl, rfl⟩ := hst
    exact lv_astore hx hb hdg hl (by omega) rfl (fun ls9 h9 => kk _ _ _ _ _ (lv_mono h9 (fun q hq => lins_mem hq)) hH hS hc hs)
  · simp at hst
    obtain ⟨rfl, rfl, rfl, rfl⟩ := hst
    exact lv_astoreN hx hb hdg hl (by omega) rfl (fun ls9 h9 => kk _ _ _ _ _ (lv_mono h9 (fun q hq => lins_mem hq)) hH hS hc hs)
  · simp at hst
theorem sn_astore_n (F : FX G mi p l R s m meth c) {k : Fin 4} (hk : (k : Nat) + 1 ≤ mMx mi) (hdg : decode (mC mi) pc = .ok (.astore_n k, 1)) (hst : sStep mi (.astore_n k) 1 pc ls st M = some (.inl (pc', ls', st', M'))) (hl : lv_has lsC (mMx mi) ls) (hH : HR G M H) (hS : va_S (gA G) s.heap H locs) (hc : cells + n0 = mN M) (hs : slots + s0 = mS M) (hb1 : mN M' ≤ n0 + R.cells) (hb2 : mS M' ≤ s0 + R.slots) (kk : Kon G mi p l e R s m args below meth c Q n0 s0 pc' ls' st' M') : W p l e R s m args below meth c H locs cells slots Q (F0 m pc lsC st) := by
  obtain ⟨hx, hb, hml, hown, hin, hfr, hlo, hK, hKH, hsz, hlk, htr, htb, hrt, hmi⟩ := F
  simp only [sStep, amStep, a_st, a_nx] at hst
  split at hst
  · simp at hst
  · simp at hst
  · simp at hst
  · simp at hst
  · simp at hst
    obtain ⟨rfl, rfl, rfl, rfl⟩ := hst
    exact lv_astore_n hx hb hdg rfl hl (by omega) rfl (fun ls9 h9 => kk _ _ _ _ _ (lv_mono h9 (fun q hq => lins_mem hq)) hH hS hc hs)
  · simp at hst
    obtain ⟨rfl, rfl, rfl, rfl⟩ := hst
    exact lv_astore_nN hx hb hdg rfl hl (by omega) rfl (fun ls9 h9 => kk _ _ _ _ _ (lv_mono h9 (fun q hq => lins_mem hq)) hH hS hc hs)
  · simp at hst
theorem sn_iinc (F : FX G mi p l R s m meth c) {k : Nat} {n : Int} (hk : k + 1 ≤ mMx mi) (hdg : decode (mC mi) pc = .ok (.iinc k n, 3)) (hst : sStep mi (.iinc k n) 3 pc ls st M = some (.inl (pc', ls', st', M'))) (hl : lv_has lsC (mMx mi) ls) (hH : HR G M H) (hS : va_S (gA G) s.heap H locs) (hc : cells + n0 = mN M) (hs : slots + s0 = mS M) (hb1 : mN M' ≤ n0 + R.cells) (hb2 : mS M' ≤ s0 + R.slots) (kk : Kon G mi p l e R s m args below meth c Q n0 s0 pc' ls' st' M') : W p l e R s m args below meth c H locs cells slots Q (F0 m pc lsC st) := by
  obtain ⟨hx, hb, hml, hown, hin, hfr, hlo, hK, hKH, hsz, hlk, htr, htb, hrt, hmi⟩ := F
  simp only [sStep, amStep, a_nx] at hst
  split at hst
  · rename_i x h0
    simp at hst
    obtain ⟨rfl, rfl, rfl, rfl⟩ := hst
    obtain ⟨k9, hk9⟩ := List.getElem?_of_mem (lkp_mem h0)
    exact lv_iinc hx hb hdg hl hk9 rfl (by omega) rfl (fun ls9 h9 => kk _ _ _ _ _ (lv_mono h9 (fun q hq => lins_mem hq)) hH hS hc hs)
  · simp at hst
theorem sn_iadd (F : FX G mi p l R s m meth c) (hdg : decode (mC mi) pc = .ok (.iadd, 1)) (hst : sStep mi (.iadd) 1 pc ls st M = some (.inl (pc', ls', st', M'))) (hl : lv_has lsC (mMx mi) ls) (hH : HR G M H) (hS : va_S (gA G) s.heap H locs) (hc : cells + n0 = mN M) (hs : slots + s0 = mS M) (hb1 : mN M' ≤ n0 + R.cells) (hb2 : mS M' ≤ s0 + R.slots) (kk : Kon G mi p l e R s m args below meth c Q n0 s0 pc' ls' st' M') : W p l e R s m args below meth c H locs cells slots Q (F0 m pc lsC st) := by
  obtain ⟨hx, hb, hml, hown, hin, hfr, hlo, hK, hKH, hsz, hlk, htr, htb, hrt, hmi⟩ := F
  simp only [sStep, amStep, a_ii, a_nx] at hst
  split at hst
  · cases hst
    exact lv_iadd hx hb hdg (kk _ _ _ _ _ hl hH hS hc hs)
  · cases hst
theorem sn_isub (F : FX G mi p l R s m meth c) (hdg : decode (mC mi) pc = .ok (.isub, 1)) (hst : sStep mi (.isub) 1 pc ls st M = some (.inl (pc', ls', st', M'))) (hl : lv_has lsC (mMx mi) ls) (hH : HR G M H) (hS : va_S (gA G) s.heap H locs) (hc : cells + n0 = mN M) (hs : slots + s0 = mS M) (hb1 : mN M' ≤ n0 + R.cells) (hb2 : mS M' ≤ s0 + R.slots) (kk : Kon G mi p l e R s m args below meth c Q n0 s0 pc' ls' st' M') : W p l e R s m args below meth c H locs cells slots Q (F0 m pc lsC st) := by
  obtain ⟨hx, hb, hml, hown, hin, hfr, hlo, hK, hKH, hsz, hlk, htr, htb, hrt, hmi⟩ := F
  simp only [sStep, amStep, a_ii, a_nx] at hst
  split at hst
  · cases hst
    exact lv_isub hx hb hdg (kk _ _ _ _ _ hl hH hS hc hs)
  · cases hst
theorem sn_imul (F : FX G mi p l R s m meth c) (hdg : decode (mC mi) pc = .ok (.imul, 1)) (hst : sStep mi (.imul) 1 pc ls st M = some (.inl (pc', ls', st', M'))) (hl : lv_has lsC (mMx mi) ls) (hH : HR G M H) (hS : va_S (gA G) s.heap H locs) (hc : cells + n0 = mN M) (hs : slots + s0 = mS M) (hb1 : mN M' ≤ n0 + R.cells) (hb2 : mS M' ≤ s0 + R.slots) (kk : Kon G mi p l e R s m args below meth c Q n0 s0 pc' ls' st' M') : W p l e R s m args below meth c H locs cells slots Q (F0 m pc lsC st) := by
  obtain ⟨hx, hb, hml, hown, hin, hfr, hlo, hK, hKH, hsz, hlk, htr, htb, hrt, hmi⟩ := F
  simp only [sStep, amStep, a_ii, a_nx] at hst
  split at hst
  · cases hst
    exact lv_imul hx hb hdg (kk _ _ _ _ _ hl hH hS hc hs)
  · cases hst
theorem sn_iand (F : FX G mi p l R s m meth c) (hdg : decode (mC mi) pc = .ok (.iand, 1)) (hst : sStep mi (.iand) 1 pc ls st M = some (.inl (pc', ls', st', M'))) (hl : lv_has lsC (mMx mi) ls) (hH : HR G M H) (hS : va_S (gA G) s.heap H locs) (hc : cells + n0 = mN M) (hs : slots + s0 = mS M) (hb1 : mN M' ≤ n0 + R.cells) (hb2 : mS M' ≤ s0 + R.slots) (kk : Kon G mi p l e R s m args below meth c Q n0 s0 pc' ls' st' M') : W p l e R s m args below meth c H locs cells slots Q (F0 m pc lsC st) := by
  obtain ⟨hx, hb, hml, hown, hin, hfr, hlo, hK, hKH, hsz, hlk, htr, htb, hrt, hmi⟩ := F
  simp only [sStep, amStep, a_ii, a_nx] at hst
  split at hst
  · cases hst
    exact lv_iand hx hb hdg (kk _ _ _ _ _ hl hH hS hc hs)
  · cases hst
theorem sn_ior (F : FX G mi p l R s m meth c) (hdg : decode (mC mi) pc = .ok (.ior, 1)) (hst : sStep mi (.ior) 1 pc ls st M = some (.inl (pc', ls', st', M'))) (hl : lv_has lsC (mMx mi) ls) (hH : HR G M H) (hS : va_S (gA G) s.heap H locs) (hc : cells + n0 = mN M) (hs : slots + s0 = mS M) (hb1 : mN M' ≤ n0 + R.cells) (hb2 : mS M' ≤ s0 + R.slots) (kk : Kon G mi p l e R s m args below meth c Q n0 s0 pc' ls' st' M') : W p l e R s m args below meth c H locs cells slots Q (F0 m pc lsC st) := by
  obtain ⟨hx, hb, hml, hown, hin, hfr, hlo, hK, hKH, hsz, hlk, htr, htb, hrt, hmi⟩ := F
  simp only [sStep, amStep, a_ii, a_nx] at hst
  split at hst
  · cases hst
    exact lv_ior hx hb hdg (kk _ _ _ _ _ hl hH hS hc hs)
  · cases hst
theorem sn_ixor (F : FX G mi p l R s m meth c) (hdg : decode (mC mi) pc = .ok (.ixor, 1)) (hst : sStep mi (.ixor) 1 pc ls st M = some (.inl (pc', ls', st', M'))) (hl : lv_has lsC (mMx mi) ls) (hH : HR G M H) (hS : va_S (gA G) s.heap H locs) (hc : cells + n0 = mN M) (hs : slots + s0 = mS M) (hb1 : mN M' ≤ n0 + R.cells) (hb2 : mS M' ≤ s0 + R.slots) (kk : Kon G mi p l e R s m args below meth c Q n0 s0 pc' ls' st' M') : W p l e R s m args below meth c H locs cells slots Q (F0 m pc lsC st) := by
  obtain ⟨hx, hb, hml, hown, hin, hfr, hlo, hK, hKH, hsz, hlk, htr, htb, hrt, hmi⟩ := F
  simp only [sStep, amStep, a_ii, a_nx] at hst
  split at hst
  · cases hst
    exact lv_ixor hx hb hdg (kk _ _ _ _ _ hl hH hS hc hs)
  · cases hst
theorem sn_iushr (F : FX G mi p l R s m meth c) (hdg : decode (mC mi) pc = .ok (.iushr, 1)) (hst : sStep mi (.iushr) 1 pc ls st M = some (.inl (pc', ls', st', M'))) (hl : lv_has lsC (mMx mi) ls) (hH : HR G M H) (hS : va_S (gA G) s.heap H locs) (hc : cells + n0 = mN M) (hs : slots + s0 = mS M) (hb1 : mN M' ≤ n0 + R.cells) (hb2 : mS M' ≤ s0 + R.slots) (kk : Kon G mi p l e R s m args below meth c Q n0 s0 pc' ls' st' M') : W p l e R s m args below meth c H locs cells slots Q (F0 m pc lsC st) := by
  obtain ⟨hx, hb, hml, hown, hin, hfr, hlo, hK, hKH, hsz, hlk, htr, htb, hrt, hmi⟩ := F
  simp only [sStep, amStep, a_ii, a_nx] at hst
  split at hst
  · cases hst
    exact lv_iushr hx hb hdg rfl (kk _ _ _ _ _ hl hH hS hc hs)
  · cases hst
theorem sn_ladd (F : FX G mi p l R s m meth c) (hdg : decode (mC mi) pc = .ok (.ladd, 1)) (hst : sStep mi (.ladd) 1 pc ls st M = some (.inl (pc', ls', st', M'))) (hl : lv_has lsC (mMx mi) ls) (hH : HR G M H) (hS : va_S (gA G) s.heap H locs) (hc : cells + n0 = mN M) (hs : slots + s0 = mS M) (hb1 : mN M' ≤ n0 + R.cells) (hb2 : mS M' ≤ s0 + R.slots) (kk : Kon G mi p l e R s m args below meth c Q n0 s0 pc' ls' st' M') : W p l e R s m args below meth c H locs cells slots Q (F0 m pc lsC st) := by
  obtain ⟨hx, hb, hml, hown, hin, hfr, hlo, hK, hKH, hsz, hlk, htr, htb, hrt, hmi⟩ := F
  simp only [sStep, amStep, a_jj, a_nx] at hst
  split at hst
  · cases hst
    exact lv_ladd hx hb hdg (kk _ _ _ _ _ hl hH hS hc hs)
  · cases hst
theorem sn_lsub (F : FX G mi p l R s m meth c) (hdg : decode (mC mi) pc = .ok (.lsub, 1)) (hst : sStep mi (.lsub) 1 pc ls st M = some (.inl (pc', ls', st', M'))) (hl : lv_has lsC (mMx mi) ls) (hH : HR G M H) (hS : va_S (gA G) s.heap H locs) (hc : cells + n0 = mN M) (hs : slots + s0 = mS M) (hb1 : mN M' ≤ n0 + R.cells) (hb2 : mS M' ≤ s0 + R.slots) (kk : Kon G mi p l e R s m args below meth c Q n0 s0 pc' ls' st' M') : W p l e R s m args below meth c H locs cells slots Q (F0 m pc lsC st) := by
  obtain ⟨hx, hb, hml, hown, hin, hfr, hlo, hK, hKH, hsz, hlk, htr, htb, hrt, hmi⟩ := F
  simp only [sStep, amStep, a_jj, a_nx] at hst
  split at hst
  · cases hst
    exact lv_lsub hx hb hdg (kk _ _ _ _ _ hl hH hS hc hs)
  · cases hst
theorem sn_lmul (F : FX G mi p l R s m meth c) (hdg : decode (mC mi) pc = .ok (.lmul, 1)) (hst : sStep mi (.lmul) 1 pc ls st M = some (.inl (pc', ls', st', M'))) (hl : lv_has lsC (mMx mi) ls) (hH : HR G M H) (hS : va_S (gA G) s.heap H locs) (hc : cells + n0 = mN M) (hs : slots + s0 = mS M) (hb1 : mN M' ≤ n0 + R.cells) (hb2 : mS M' ≤ s0 + R.slots) (kk : Kon G mi p l e R s m args below meth c Q n0 s0 pc' ls' st' M') : W p l e R s m args below meth c H locs cells slots Q (F0 m pc lsC st) := by
  obtain ⟨hx, hb, hml, hown, hin, hfr, hlo, hK, hKH, hsz, hlk, htr, htb, hrt, hmi⟩ := F
  simp only [sStep, amStep, a_jj, a_nx] at hst
  split at hst
  · cases hst
    exact lv_lmul hx hb hdg (kk _ _ _ _ _ hl hH hS hc hs)
  · cases hst
theorem sn_land (F : FX G mi p l R s m meth c) (hdg : decode (mC mi) pc = .ok (.land, 1)) (hst : sStep mi (.land) 1 pc ls st M = some (.inl (pc', ls', st', M'))) (hl : lv_has lsC (mMx mi) ls) (hH : HR G M H) (hS : va_S (gA G) s.heap H locs) (hc : cells + n0 = mN M) (hs : slots + s0 = mS M) (hb1 : mN M' ≤ n0 + R.cells) (hb2 : mS M' ≤ s0 + R.slots) (kk : Kon G mi p l e R s m args below meth c Q n0 s0 pc' ls' st' M') : W p l e R s m args below meth c H locs cells slots Q (F0 m pc lsC st) := by
  obtain ⟨hx, hb, hml, hown, hin, hfr, hlo, hK, hKH, hsz, hlk, htr, htb, hrt, hmi⟩ := F
  simp only [sStep, amStep, a_jj, a_nx] at hst
  split at hst
  · cases hst
    exact lv_land hx hb hdg (kk _ _ _ _ _ hl hH hS hc hs)
  · cases hst
theorem sn_lor (F : FX G mi p l R s m meth c) (hdg : decode (mC mi) pc = .ok (.lor, 1)) (hst : sStep mi (.lor) 1 pc ls st M = some (.inl (pc', ls', st', M'))) (hl : lv_has lsC (mMx mi) ls) (hH : HR G M H) (hS : va_S (gA G) s.heap H locs) (hc : cells + n0 = mN M) (hs : slots + s0 = mS M) (hb1 : mN M' ≤ n0 + R.cells) (hb2 : mS M' ≤ s0 + R.slots) (kk : Kon G mi p l e R s m args below meth c Q n0 s0 pc' ls' st' M') : W p l e R s m args below meth c H locs cells slots Q (F0 m pc lsC st) := by
  obtain ⟨hx, hb, hml, hown, hin, hfr, hlo, hK, hKH, hsz, hlk, htr, htb, hrt, hmi⟩ := F
  simp only [sStep, amStep, a_jj, a_nx] at hst
  split at hst
  · cases hst
    exact lv_lor hx hb hdg (kk _ _ _ _ _ hl hH hS hc hs)
  · cases hst
theorem sn_lxor (F : FX G mi p l R s m meth c) (hdg : decode (mC mi) pc = .ok (.lxor, 1)) (hst : sStep mi (.lxor) 1 pc ls st M = some (.inl (pc', ls', st', M'))) (hl : lv_has lsC (mMx mi) ls) (hH : HR G M H) (hS : va_S (gA G) s.heap H locs) (hc : cells + n0 = mN M) (hs : slots + s0 = mS M) (hb1 : mN M' ≤ n0 + R.cells) (hb2 : mS M' ≤ s0 + R.slots) (kk : Kon G mi p l e R s m args below meth c Q n0 s0 pc' ls' st' M') : W p l e R s m args below meth c H locs cells slots Q (F0 m pc lsC st) := by
  obtain ⟨hx, hb, hml, hown, hin, hfr, hlo, hK, hKH, hsz, hlk, htr, htb, hrt, hmi⟩ := F
  simp only [sStep, amStep, a_jj, a_nx] at hst
  split at hst
  · cases hst
    exact lv_lxor hx hb hdg (kk _ _ _ _ _ hl hH hS hc hs)
  · cases hst
theorem sn_lshl (F : FX G mi p l R s m meth c) (hdg : decode (mC mi) pc = .ok (.lshl, 1)) (hst : sStep mi (.lshl) 1 pc ls st M = some (.inl (pc', ls', st', M'))) (hl : lv_has lsC (mMx mi) ls) (hH : HR G M H) (hS : va_S (gA G) s.heap H locs) (hc : cells + n0 = mN M) (hs : slots + s0 = mS M) (hb1 : mN M' ≤ n0 + R.cells) (hb2 : mS M' ≤ s0 + R.slots) (kk : Kon G mi p l e R s m args below meth c Q n0 s0 pc' ls' st' M') : W p l e R s m args below meth c H locs cells slots Q (F0 m pc lsC st) := by
  obtain ⟨hx, hb, hml, hown, hin, hfr, hlo, hK, hKH, hsz, hlk, htr, htb, hrt, hmi⟩ := F
  simp only [sStep, amStep, a_ji, a_nx] at hst
  split at hst
  · cases hst
    exact lv_lshl hx hb hdg rfl (kk _ _ _ _ _ hl hH hS hc hs)
  · cases hst
theorem sn_lushr (F : FX G mi p l R s m meth c) (hdg : decode (mC mi) pc = .ok (.lushr, 1)) (hst : sStep mi (.lushr) 1 pc ls st M = some (.inl (pc', ls', st', M'))) (hl : lv_has lsC (mMx mi) ls) (hH : HR G M H) (hS : va_S (gA G) s.heap H locs) (hc : cells + n0 = mN M) (hs : slots + s0 = mS M) (hb1 : mN M' ≤ n0 + R.cells) (hb2 : mS M' ≤ s0 + R.slots) (kk : Kon G mi p l e R s m args below meth c Q n0 s0 pc' ls' st' M') : W p l e R s m args below meth c H locs cells slots Q (F0 m pc lsC st) := by
  obtain ⟨hx, hb, hml, hown, hin, hfr, hlo, hK, hKH, hsz, hlk, htr, htb, hrt, hmi⟩ := F
  simp only [sStep, amStep, a_ji, a_nx] at hst
  split at hst
  · cases hst
    exact lv_lushr hx hb hdg rfl (kk _ _ _ _ _ hl hH hS hc hs)
  · cases hst
theorem sn_idiv (F : FX G mi p l R s m meth c) (hdg : decode (mC mi) pc = .ok (.idiv, 1)) (hst : sStep mi (.idiv) 1 pc ls st M = some (.inl (pc', ls', st', M'))) (hl : lv_has lsC (mMx mi) ls) (hH : HR G M H) (hS : va_S (gA G) s.heap H locs) (hc : cells + n0 = mN M) (hs : slots + s0 = mS M) (hb1 : mN M' ≤ n0 + R.cells) (hb2 : mS M' ≤ s0 + R.slots) (kk : Kon G mi p l e R s m args below meth c Q n0 s0 pc' ls' st' M') : W p l e R s m args below meth c H locs cells slots Q (F0 m pc lsC st) := by
  obtain ⟨hx, hb, hml, hown, hin, hfr, hlo, hK, hKH, hsz, hlk, htr, htb, hrt, hmi⟩ := F
  simp only [sStep, amStep, a_nx] at hst
  split at hst
  · split at hst
    · cases hst
    · rename_i h0
      cases hst
      exact lv_idiv hx hb hdg h0 (kk _ _ _ _ _ hl hH hS hc hs)
  · cases hst
theorem sn_irem (F : FX G mi p l R s m meth c) (hdg : decode (mC mi) pc = .ok (.irem, 1)) (hst : sStep mi (.irem) 1 pc ls st M = some (.inl (pc', ls', st', M'))) (hl : lv_has lsC (mMx mi) ls) (hH : HR G M H) (hS : va_S (gA G) s.heap H locs) (hc : cells + n0 = mN M) (hs : slots + s0 = mS M) (hb1 : mN M' ≤ n0 + R.cells) (hb2 : mS M' ≤ s0 + R.slots) (kk : Kon G mi p l e R s m args below meth c Q n0 s0 pc' ls' st' M') : W p l e R s m args below meth c H locs cells slots Q (F0 m pc lsC st) := by
  obtain ⟨hx, hb, hml, hown, hin, hfr, hlo, hK, hKH, hsz, hlk, htr, htb, hrt, hmi⟩ := F
  simp only [sStep, amStep, a_nx] at hst
  split at hst
  · split at hst
    · cases hst
    · rename_i h0
      cases hst
      exact lv_irem hx hb hdg h0 (kk _ _ _ _ _ hl hH hS hc hs)
  · cases hst
theorem sn_ineg (F : FX G mi p l R s m meth c) (hdg : decode (mC mi) pc = .ok (.ineg, 1)) (hst : sStep mi (.ineg) 1 pc ls st M = some (.inl (pc', ls', st', M'))) (hl : lv_has lsC (mMx mi) ls) (hH : HR G M H) (hS : va_S (gA G) s.heap H locs) (hc : cells + n0 = mN M) (hs : slots + s0 = mS M) (hb1 : mN M' ≤ n0 + R.cells) (hb2 : mS M' ≤ s0 + R.slots) (kk : Kon G mi p l e R s m args below meth c Q n0 s0 pc' ls' st' M') : W p l e R s m args below meth c H locs cells slots Q (F0 m pc lsC st) := by
  obtain ⟨hx, hb, hml, hown, hin, hfr, hlo, hK, hKH, hsz, hlk, htr, htb, hrt, hmi⟩ := F
  simp only [sStep, amStep, a_nx] at hst
  split at hst
  · cases hst
    exact lv_ineg hx hb hdg (kk _ _ _ _ _ hl hH hS hc hs)
  · cases hst
theorem sn_lcmp (F : FX G mi p l R s m meth c) (hdg : decode (mC mi) pc = .ok (.lcmp, 1)) (hst : sStep mi (.lcmp) 1 pc ls st M = some (.inl (pc', ls', st', M'))) (hl : lv_has lsC (mMx mi) ls) (hH : HR G M H) (hS : va_S (gA G) s.heap H locs) (hc : cells + n0 = mN M) (hs : slots + s0 = mS M) (hb1 : mN M' ≤ n0 + R.cells) (hb2 : mS M' ≤ s0 + R.slots) (kk : Kon G mi p l e R s m args below meth c Q n0 s0 pc' ls' st' M') : W p l e R s m args below meth c H locs cells slots Q (F0 m pc lsC st) := by
  obtain ⟨hx, hb, hml, hown, hin, hfr, hlo, hK, hKH, hsz, hlk, htr, htb, hrt, hmi⟩ := F
  simp only [sStep, amStep, a_nx] at hst
  split at hst
  · cases hst
    exact W.lcmp hx hb hdg (kk _ _ _ _ _ hl hH hS hc hs)
  · cases hst
theorem sn_fcmp (F : FX G mi p l R s m meth c) {op : CmpOp} (hdg : decode (mC mi) pc = .ok (.fcmp op, 1)) (hst : sStep mi (.fcmp op) 1 pc ls st M = some (.inl (pc', ls', st', M'))) (hl : lv_has lsC (mMx mi) ls) (hH : HR G M H) (hS : va_S (gA G) s.heap H locs) (hc : cells + n0 = mN M) (hs : slots + s0 = mS M) (hb1 : mN M' ≤ n0 + R.cells) (hb2 : mS M' ≤ s0 + R.slots) (kk : Kon G mi p l e R s m args below meth c Q n0 s0 pc' ls' st' M') : W p l e R s m args below meth c H locs cells slots Q (F0 m pc lsC st) := by
  obtain ⟨hx, hb, hml, hown, hin, hfr, hlo, hK, hKH, hsz, hlk, htr, htb, hrt, hmi⟩ := F
  simp only [sStep, amStep, a_nx] at hst
  split at hst
  · cases hst
    exact lv_fcmp hx hb hdg (kk _ _ _ _ _ hl hH hS hc hs)
  · cases hst
theorem sn_dcmp (F : FX G mi p l R s m meth c) {op : CmpOp} (hdg : decode (mC mi) pc = .ok (.dcmp op, 1)) (hst : sStep mi (.dcmp op) 1 pc ls st M = some (.inl (pc', ls', st', M'))) (hl : lv_has lsC (mMx mi) ls) (hH : HR G M H) (hS : va_S (gA G) s.heap H locs) (hc : cells + n0 = mN M) (hs : slots + s0 = mS M) (hb1 : mN M' ≤ n0 + R.cells) (hb2 : mS M' ≤ s0 + R.slots) (kk : Kon G mi p l e R s m args below meth c Q n0 s0 pc' ls' st' M') : W p l e R s m args below meth c H locs cells slots Q (F0 m pc lsC st) := by
  obtain ⟨hx, hb, hml, hown, hin, hfr, hlo, hK, hKH, hsz, hlk, htr, htb, hrt, hmi⟩ := F
  simp only [sStep, amStep, a_nx] at hst
  split at hst
  · cases hst
    exact lv_dcmp hx hb hdg (kk _ _ _ _ _ hl hH hS hc hs)
  · cases hst
theorem sn_i2l (F : FX G mi p l R s m meth c) (hdg : decode (mC mi) pc = .ok (.i2l, 1)) (hst : sStep mi (.i2l) 1 pc ls st M = some (.inl (pc', ls', st', M'))) (hl : lv_has lsC (mMx mi) ls) (hH : HR G M H) (hS : va_S (gA G) s.heap H locs) (hc : cells + n0 = mN M) (hs : slots + s0 = mS M) (hb1 : mN M' ≤ n0 + R.cells) (hb2 : mS M' ≤ s0 + R.slots) (kk : Kon G mi p l e R s m args below meth c Q n0 s0 pc' ls' st' M') : W p l e R s m args below meth c H locs cells slots Q (F0 m pc lsC st) := by
  obtain ⟨hx, hb, hml, hown, hin, hfr, hlo, hK, hKH, hsz, hlk, htr, htb, hrt, hmi⟩ := F
  simp only [sStep, amStep, a_nx] at hst
  split at hst
  · cases hst
    exact lv_i2l hx hb hdg rfl (kk _ _ _ _ _ hl hH hS hc hs)
  · cases hst
theorem sn_l2i (F : FX G mi p l R s m meth c) (hdg : decode (mC mi) pc = .ok (.l2i, 1)) (hst : sStep mi (.l2i) 1 pc ls st M = some (.inl (pc', ls', st', M'))) (hl : lv_has lsC (mMx mi) ls) (hH : HR G M H) (hS : va_S (gA G) s.heap H locs) (hc : cells + n0 = mN M) (hs : slots + s0 = mS M) (hb1 : mN M' ≤ n0 + R.cells) (hb2 : mS M' ≤ s0 + R.slots) (kk : Kon G mi p l e R s m args below meth c Q n0 s0 pc' ls' st' M') : W p l e R s m args below meth c H locs cells slots Q (F0 m pc lsC st) := by
  obtain ⟨hx, hb, hml, hown, hin, hfr, hlo, hK, hKH, hsz, hlk, htr, htb, hrt, hmi⟩ := F
  simp only [sStep, amStep, a_nx] at hst
  split at hst
  · cases hst
    exact lv_l2i hx hb hdg rfl (kk _ _ _ _ _ hl hH hS hc hs)
  · cases hst
theorem sn_i2c (F : FX G mi p l R s m meth c) (hdg : decode (mC mi) pc = .ok (.i2c, 1)) (hst : sStep mi (.i2c) 1 pc ls st M = some (.inl (pc', ls', st', M'))) (hl : lv_has lsC (mMx mi) ls) (hH : HR G M H) (hS : va_S (gA G) s.heap H locs) (hc : cells + n0 = mN M) (hs : slots + s0 = mS M) (hb1 : mN M' ≤ n0 + R.cells) (hb2 : mS M' ≤ s0 + R.slots) (kk : Kon G mi p l e R s m args below meth c Q n0 s0 pc' ls' st' M') : W p l e R s m args below meth c H locs cells slots Q (F0 m pc lsC st) := by
  obtain ⟨hx, hb, hml, hown, hin, hfr, hlo, hK, hKH, hsz, hlk, htr, htb, hrt, hmi⟩ := F
  simp only [sStep, amStep, a_nx] at hst
  split at hst
  · cases hst
    exact lv_i2c hx hb hdg rfl (kk _ _ _ _ _ hl hH hS hc hs)
  · cases hst
theorem sn_i2f (F : FX G mi p l R s m meth c) (hdg : decode (mC mi) pc = .ok (.i2f, 1)) (hst : sStep mi (.i2f) 1 pc ls st M = some (.inl (pc', ls', st', M'))) (hl : lv_has lsC (mMx mi) ls) (hH : HR G M H) (hS : va_S (gA G) s.heap H locs) (hc : cells + n0 = mN M) (hs : slots + s0 = mS M) (hb1 : mN M' ≤ n0 + R.cells) (hb2 : mS M' ≤ s0 + R.slots) (kk : Kon G mi p l e R s m args below meth c Q n0 s0 pc' ls' st' M') : W p l e R s m args below meth c H locs cells slots Q (F0 m pc lsC st) := by
  obtain ⟨hx, hb, hml, hown, hin, hfr, hlo, hK, hKH, hsz, hlk, htr, htb, hrt, hmi⟩ := F
  simp only [sStep, amStep, a_nx] at hst
  split at hst
  · cases hst
    exact lv_i2f hx hb hdg (kk _ _ _ _ _ hl hH hS hc hs)
  · cases hst
theorem sn_i2d (F : FX G mi p l R s m meth c) (hdg : decode (mC mi) pc = .ok (.i2d, 1)) (hst : sStep mi (.i2d) 1 pc ls st M = some (.inl (pc', ls', st', M'))) (hl : lv_has lsC (mMx mi) ls) (hH : HR G M H) (hS : va_S (gA G) s.heap H locs) (hc : cells + n0 = mN M) (hs : slots + s0 = mS M) (hb1 : mN M' ≤ n0 + R.cells) (hb2 : mS M' ≤ s0 + R.slots) (kk : Kon G mi p l e R s m args below meth c Q n0 s0 pc' ls' st' M') : W p l e R s m args below meth c H locs cells slots Q (F0 m pc lsC st) := by
  obtain ⟨hx, hb, hml, hown, hin, hfr, hlo, hK, hKH, hsz, hlk, htr, htb, hrt, hmi⟩ := F
  simp only [sStep, amStep, a_nx] at hst
  split at hst
  · cases hst
    exact lv_i2d hx hb hdg (kk _ _ _ _ _ hl hH hS hc hs)
  · cases hst
theorem sn_fdiv (F : FX G mi p l R s m meth c) (hdg : decode (mC mi) pc = .ok (.fdiv, 1)) (hst : sStep mi (.fdiv) 1 pc ls st M = some (.inl (pc', ls', st', M'))) (hl : lv_has lsC (mMx mi) ls) (hH : HR G M H) (hS : va_S (gA G) s.heap H locs) (hc : cells + n0 = mN M) (hs : slots + s0 = mS M) (hb1 : mN M' ≤ n0 + R.cells) (hb2 : mS M' ≤ s0 + R.slots) (kk : Kon G mi p l e R s m args below meth c Q n0 s0 pc' ls' st' M') : W p l e R s m args below meth c H locs cells slots Q (F0 m pc lsC st) := by
  obtain ⟨hx, hb, hml, hown, hin, hfr, hlo, hK, hKH, hsz, hlk, htr, htb, hrt, hmi⟩ := F
  simp only [sStep, amStep, a_nx] at hst
  split at hst
  · split at hst
    · rename_i h0
      cases hst
      exact lv_fdiv hx hb hdg h0 (kk _ _ _ _ _ hl hH hS hc hs)
    · cases hst
  · cases hst
theorem sn_ddiv (F : FX G mi p l R s m meth c) (hdg : decode (mC mi) pc = .ok (.ddiv, 1)) (hst : sStep mi (.ddiv) 1 pc ls st M = some (.inl (pc', ls', st', M'))) (hl : lv_has lsC (mMx mi) ls) (hH : HR G M H) (hS : va_S (gA G) s.heap H locs) (hc : cells + n0 = mN M) (hs : slots + s0 = mS M) (hb1 : mN M' ≤ n0 + R.cells) (hb2 : mS M' ≤ s0 + R.slots) (kk : Kon G mi p l e R s m args below meth c Q n0 s0 pc' ls' st' M') : W p l e R s m args below meth c H locs cells slots Q (F0 m pc lsC st) := by
  obtain ⟨hx, hb, hml, hown, hin, hfr, hlo, hK, hKH, hsz, hlk, htr, htb, hrt, hmi⟩ := F
  simp only [sStep, amStep, a_nx] at hst
  split at hst
  · split at hst
    · rename_i h0
      cases hst
      exact lv_ddiv hx hb hdg h0 (kk _ _ _ _ _ hl hH hS hc hs)
    · cases hst
  · cases hst
theorem sn_f2d (F : FX G mi p l R s m meth c) (hdg : decode (mC mi) pc = .ok (.f2d, 1)) (hst : sStep mi (.f2d) 1 pc ls st M = some (.inl (pc', ls', st', M'))) (hl : lv_has lsC (mMx mi) ls) (hH : HR G M H) (hS : va_S (gA G) s.heap H locs) (hc : cells + n0 = mN M) (hs : slots + s0 = mS M) (hb1 : mN M' ≤ n0 + R.cells) (hb2 : mS M' ≤ s0 + R.slots) (kk : Kon G mi p l e R s m args below meth c Q n0 s0 pc' ls' st' M') : W p l e R s m args below meth c H locs cells slots Q (F0 m pc lsC st) := by
  obtain ⟨hx, hb, hml, hown, hin, hfr, hlo, hK, hKH, hsz, hlk, htr, htb, hrt, hmi⟩ := F
  simp only [sStep, amStep, a_nx] at hst
  split at hst
  · split at hst
    · rename_i h0
      cases hst
      exact lv_f2d hx hb hdg h0 (kk _ _ _ _ _ hl hH hS hc hs)
    · cases hst
  · cases hst
theorem sn_dup (F : FX G mi p l R s m meth c) (hdg : decode (mC mi) pc = .ok (.dup, 1)) (hst : sStep mi (.dup) 1 pc ls st M = some (.inl (pc', ls', st', M'))) (hl : lv_has lsC (mMx mi) ls) (hH : HR G M H) (hS : va_S (gA G) s.heap H locs) (hc : cells + n0 = mN M) (hs : slots + s0 = mS M) (hb1 : mN M' ≤ n0 + R.cells) (hb2 : mS M' ≤ s0 + R.slots) (kk : Kon G mi p l e R s m args below meth c Q n0 s0 pc' ls' st' M') : W p l e R s m args below meth c H locs cells slots Q (F0 m pc lsC st) := by
  obtain ⟨hx, hb, hml, hown, hin, hfr, hlo, hK, hKH, hsz, hlk, htr, htb, hrt, hmi⟩ := F
  simp only [sStep, amStep, a_nx] at hst
  split at hst
  · split at hst
    · rename_i h0
      cases hst
      exact lv_dup hx hb hdg h0 (kk _ _ _ _ _ hl hH hS hc hs)
    · cases hst
  · cases hst
theorem sn_dup2 (F : FX G mi p l R s m meth c) (hdg : decode (mC mi) pc = .ok (.dup2, 1)) (hst : sStep mi (.dup2) 1 pc ls st M = some (.inl (pc', ls', st', M'))) (hl : lv_has lsC (mMx mi) ls) (hH : HR G M H) (hS : va_S (gA G) s.heap H locs) (hc : cells + n0 = mN M) (hs : slots + s0 = mS M) (hb1 : mN M' ≤ n0 + R.cells) (hb2 : mS M' ≤ s0 + R.slots) (kk : Kon G mi p l e R s m args below meth c Q n0 s0 pc' ls' st' M') : W p l e R s m args below meth c H locs cells slots Q (F0 m pc lsC st) := by
  obtain ⟨hx, hb, hml, hown, hin, hfr, hlo, hK, hKH, hsz, hlk, htr, htb, hrt, hmi⟩ := F
  simp only [sStep, amStep, a_nx] at hst
  split at hst
  · split at hst
    · rename_i h0
      cases hst
      exact lv_dup2_11 hx hb hdg h0.1 h0.2 (kk _ _ _ _ _ hl hH hS hc hs)
    · cases hst
  · cases hst
theorem sn_pop (F : FX G mi p l R s m meth c) (hdg : decode (mC mi) pc = .ok (.pop, 1)) (hst : sStep mi (.pop) 1 pc ls st M = some (.inl (pc', ls', st', M'))) (hl : lv_has lsC (mMx mi) ls) (hH : HR G M H) (hS : va_S (gA G) s.heap H locs) (hc : cells + n0 = mN M) (hs : slots + s0 = mS M) (hb1 : mN M' ≤ n0 + R.cells) (hb2 : mS M' ≤ s0 + R.slots) (kk : Kon G mi p l e R s m args below meth c Q n0 s0 pc' ls' st' M') : W p l e R s m args below meth c H locs cells slots Q (F0 m pc lsC st) := by
  obtain ⟨hx, hb, hml, hown, hin, hfr, hlo, hK, hKH, hsz, hlk, htr, htb, hrt, hmi⟩ := F
  simp only [sStep, amStep, a_nx] at hst
  split at hst
  · split at hst
    · rename_i h0
      cases hst
      exact lv_pop hx hb hdg h0 (kk _ _ _ _ _ hl hH hS hc hs)
    · cases hst
  · cases hst
end ST
