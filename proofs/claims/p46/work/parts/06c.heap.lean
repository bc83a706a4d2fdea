/-! ===== steps: branches, arrays, fields, new cells ===== -/
theorem tgOk_eq {pc : Nat} {f t : Int} (h : tgOk pc f t = true) : (pc : Int) + f = (t.toNat : Int) := by
  simp only [tgOk, Bool.and_eq_true, decide_eq_true_eq] at h
  omega
theorem tys_at {cT : Nat → ClassId} {t : Nat} (h : t ≤ 8) : (tysA cT)[t]? = some (cT t, aTy t) := by
  unfold tysA
  rw [List.getElem?_map, List.getElem?_range (by omega)]
  rfl
theorem hr_arr {G : AG} {M : AMem} {H : Heap} {a t : Nat} (hH : HR G M H) (hk : (mT M a).1 = 100 + t) (ht : t ≤ 8) : G.1 ≤ a ∧ H[a]? = some (vp_cell (G.2.2.2.2.2 t) (arrOf M a t)) := by
  obtain ⟨base, b, L, xs, D, cT⟩ := G
  rcases hH.2.2 a with h | ⟨h, -⟩ | ⟨-, h1, h2⟩ | ⟨h, -⟩
  · omega
  · omega
  · refine ⟨h1, ?_⟩
    rw [h2, hk, Nat.add_sub_cancel_left]
  · omega
theorem hr_obj {G : AG} {M : AMem} {H : Heap} {a ci : Nat} (hH : HR G M H) (hk : (mT M a).1 = 1 + ci) (ht : ci ≤ 8) : G.1 ≤ a ∧ t_OB a (G.2.2.2.2.1.1 ci) (clN ci) (G.2.2.2.2.1.2 ci) H (fun j => fval M a j (fty ci j)) := by
  obtain ⟨base, b, L, xs, D, cT⟩ := G
  rcases hH.2.2 a with h | ⟨-, h1, h2⟩ | ⟨h, -⟩ | ⟨h, -⟩
  · omega
  · refine ⟨h1, ?_⟩
    rw [hk, Nat.add_sub_cancel_left] at h2
    exact h2
  · omega
  · omega
theorem hr_scr {G : AG} {M : AMem} {H : Heap} {a : Nat} (hH : HR G M H) (hk : (mT M a).1 = 200) : a = G.2.1 ∧ (mT M a).2 = G.2.2.1 ∧ mI M a = G.2.2.2.1 := by
  obtain ⟨base, b, L, xs, D, cT⟩ := G
  rcases hH.2.2 a with h | ⟨h, -⟩ | ⟨h, -⟩ | ⟨-, h⟩
  · omega
  · omega
  · omega
  · exact h
theorem arr_of {G : AG} {s : State} (hK : KK G s) {t : Nat} (ht : t ≤ 8) : ArrOfT s (G.2.2.2.2.2 t) (aTy t) ∧ va_RA s (G.2.2.2.2.2 t) (aTy t) := hK.2.2.2.1.2 t _ (tys_at ht)
theorem hrA_arr {G : AG} {M : AMem} {H : Heap} {a t : Nat} (hk : (mT M a).1 = 100 + t) (ht : t ≤ 8) (hb : G.1 ≤ a) (h : H[a]? = some (vp_cell (G.2.2.2.2.2 t) (arrOf M a t))) : hrA G M H a := by
  obtain ⟨base, b, L, xs, D, cT⟩ := G
  refine Or.inr (Or.inr (Or.inl ⟨⟨by omega, by omega⟩, hb, ?_⟩))
  rw [hk, Nat.add_sub_cancel_left]
  exact h
theorem hrA_obj {G : AG} {M : AMem} {H : Heap} {a ci : Nat} (hk : (mT M a).1 = 1 + ci) (ht : ci ≤ 8) (hb : G.1 ≤ a) (h : t_OB a (G.2.2.2.2.1.1 ci) (clN ci) (G.2.2.2.2.1.2 ci) H (fun j => fval M a j (fty ci j))) : hrA G M H a := by
  obtain ⟨base, b, L, xs, D, cT⟩ := G
  refine Or.inr (Or.inl ⟨⟨by omega, by omega⟩, hb, ?_⟩)
  rw [hk, Nat.add_sub_cancel_left]
  exact h
theorem vp_size (cA : ClassId) (x : vp_A) : (vp_cell cA x).slots.size = x.1 := by
  obtain ⟨n, f | f | f | f | f⟩ := x
  · rw [vp_cell_i, arrV_size]
  · rw [vp_cell_l, arrV_size]
  · rw [vp_cell_f, arrV_size]
  · rw [vp_cell_d, arrV_size]
  · rw [vp_cell_q, arrV_size]
theorem vp_vm (cA : ClassId) (x : vp_A) : (vp_cell cA x).vm = .none := by
  obtain ⟨n, f | f | f | f | f⟩ := x <;> rfl
theorem vp_isA {s : State} {cA : ClassId} {ty : FieldType} (h : ArrOfT s cA ty) (x : vp_A) : s.isArrayOf (vp_cell cA x) ty := by
  obtain ⟨n, f | f | f | f | f⟩ := x
  · exact h n (fun j => .int (f j))
  · exact h n (fun j => .long (f j))
  · exact h n (fun j => .float (f j))
  · exact h n (fun j => .double (f j))
  · exact h n (fun j => va_rf (f j))
theorem vp_set_i (cA : ClassId) (n j : Nat) (f : Nat → Int32) (x : Int32) : (vp_cell cA (n, .inl f)).setSlot j (.int x) = vp_cell cA (n, .inl (upd f j x)) := by
  rw [vp_cell_i, vp_cell_i, arrV_store]
  congr 1
  funext q
  by_cases hq : q = j
  · subst hq; simp [updV, upd]
  · simp [updV, upd, hq]
theorem vp_set_l (cA : ClassId) (n j : Nat) (f : Nat → Int64) (x : Int64) : (vp_cell cA (n, .inr (.inl f))).setSlot j (.long x) = vp_cell cA (n, .inr (.inl (vp_updL f j x))) := by
  rw [vp_cell_l, vp_cell_l, arrV_store]
  congr 1
  funext q
  by_cases hq : q = j
  · subst hq; simp [updV, vp_updL]
  · simp [updV, vp_updL, hq]
theorem vp_set_d (cA : ClassId) (n j : Nat) (f : Nat → UInt64) (x : UInt64) : (vp_cell cA (n, .inr (.inr (.inr (.inl f))))).setSlot j (.double x) = vp_cell cA (n, .inr (.inr (.inr (.inl (va_up f j x))))) := by
  rw [vp_cell_d, vp_cell_d, arrV_store]
  congr 1
  funext q
  by_cases hq : q = j
  · subst hq; simp [updV, va_up]
  · simp [updV, va_up, hq]
theorem vp_set_q (cA : ClassId) (n j : Nat) (f : Nat → Option Nat) (x : Nat) : (vp_cell cA (n, .inr (.inr (.inr (.inr f))))).setSlot j (.ref x) = vp_cell cA (n, .inr (.inr (.inr (.inr (va_up f j (some x)))))) := by
  rw [vp_cell_q, vp_cell_q, arrV_store]
  congr 1
  funext q
  by_cases hq : q = j
  · subst hq; simp [updV, va_up, va_rf]
  · simp [updV, va_up, hq]
theorem inb_not {j : Int32} {n : Nat} (h : inb j n = true) (cA : ClassId) (x : vp_A) (hx : x.1 = n) : ¬ (j < 0 ∨ (vp_cell cA x).slots.size ≤ j.toNatClampNeg) := by
  rw [vp_size, hx]
  exact inb_in h
theorem inb_lt {j : Int32} {n : Nat} (h : inb j n = true) : j.toNatClampNeg < n := Nat.not_le.mp fun q => inb_in h (Or.inr q)
section ST2
variable {G : AG} {mi : Nat} {p : Program} {l : Launch} {e : Env} {R : Room} {s : State} {m : MethodId} {args : Array Value} {below : List Frame} {meth : Method} {c : Code} {H : Heap} {locs : List Loc} {cells slots : Nat} {Q : State → Prop}
variable {lsC : Array Slot} {ls ls' : ALs} {st st' : List Value} {M M' : AMem} {pc pc' len n0 s0 : Nat}

theorem sn_goto (F : FX G mi p l R s m meth c) {f t : Int} (ht : tgOk pc f t = true) (hdg : decode (mC mi) pc = .ok (.goto f, 3)) (hst : sStep mi (.goto t) len pc ls st M = some (.inl (pc', ls', st', M'))) (hl : lv_has lsC (mMx mi) ls) (hH : HR G M H) (hS : va_S (gA G) s.heap H locs) (hc : cells + n0 = mN M) (hs : slots + s0 = mS M) (hb1 : mN M' ≤ n0 + R.cells) (hb2 : mS M' ≤ s0 + R.slots) (kk : Kon G mi p l e R s m args below meth c Q n0 s0 pc' ls' st' M') : W p l e R s m args below meth c H locs cells slots Q (F0 m pc lsC st) := by
  obtain ⟨hx, hb, hml, hown, hin, hfr, hlo, hK, hKH, hsz, hlk, htr, htb, hrt, hmi⟩ := F
  simp only [sStep, amStep, a_nx] at hst
  cases hst
  exact lv_goto hx hb hdg (tgOk_eq ht) (kk _ _ _ _ _ hl hH hS hc hs)
theorem sn_ifnull (F : FX G mi p l R s m meth c) {f t : Int} (ht : tgOk pc f t = true) (hdg : decode (mC mi) pc = .ok (.ifnull f, 3)) (hst : sStep mi (.ifnull t) len pc ls st M = some (.inl (pc', ls', st', M'))) (hl : lv_has lsC (mMx mi) ls) (hH : HR G M H) (hS : va_S (gA G) s.heap H locs) (hc : cells + n0 = mN M) (hs : slots + s0 = mS M) (hb1 : mN M' ≤ n0 + R.cells) (hb2 : mS M' ≤ s0 + R.slots) (kk : Kon G mi p l e R s m args below meth c Q n0 s0 pc' ls' st' M') : W p l e R s m args below meth c H locs cells slots Q (F0 m pc lsC st) := by
  obtain ⟨hx, hb, hml, hown, hin, hfr, hlo, hK, hKH, hsz, hlk, htr, htb, hrt, hmi⟩ := F
  simp only [sStep, amStep, a_nx] at hst
  split at hst
  · cases hst
    exact lv_ifnull hx hb hdg (kk _ _ _ _ _ hl hH hS hc hs)
  · cases hst
    exact lv_ifnullN hx hb hdg (tgOk_eq ht) (kk _ _ _ _ _ hl hH hS hc hs)
  · cases hst
theorem sn_ifnonnull (F : FX G mi p l R s m meth c) {f t : Int} (ht : tgOk pc f t = true) (hdg : decode (mC mi) pc = .ok (.ifnonnull f, 3)) (hst : sStep mi (.ifnonnull t) len pc ls st M = some (.inl (pc', ls', st', M'))) (hl : lv_has lsC (mMx mi) ls) (hH : HR G M H) (hS : va_S (gA G) s.heap H locs) (hc : cells + n0 = mN M) (hs : slots + s0 = mS M) (hb1 : mN M' ≤ n0 + R.cells) (hb2 : mS M' ≤ s0 + R.slots) (kk : Kon G mi p l e R s m args below meth c Q n0 s0 pc' ls' st' M') : W p l e R s m args below meth c H locs cells slots Q (F0 m pc lsC st) := by
  obtain ⟨hx, hb, hml, hown, hin, hfr, hlo, hK, hKH, hsz, hlk, htr, htb, hrt, hmi⟩ := F
  simp only [sStep, amStep, a_nx] at hst
  split at hst
  · cases hst
    exact lv_ifnonnull hx hb hdg (tgOk_eq ht) (kk _ _ _ _ _ hl hH hS hc hs)
  · cases hst
    exact lv_ifnonnullN hx hb hdg (kk _ _ _ _ _ hl hH hS hc hs)
  · cases hst
theorem sn_ifCond (F : FX G mi p l R s m meth c) {cd : ClassFile.Cond} {f t : Int} (ht : tgOk pc f t = true) (hdg : decode (mC mi) pc = .ok (.ifCond cd f, 3)) (hst : sStep mi (.ifCond cd t) len pc ls st M = some (.inl (pc', ls', st', M'))) (hl : lv_has lsC (mMx mi) ls) (hH : HR G M H) (hS : va_S (gA G) s.heap H locs) (hc : cells + n0 = mN M) (hs : slots + s0 = mS M) (hb1 : mN M' ≤ n0 + R.cells) (hb2 : mS M' ≤ s0 + R.slots) (kk : Kon G mi p l e R s m args below meth c Q n0 s0 pc' ls' st' M') : W p l e R s m args below meth c H locs cells slots Q (F0 m pc lsC st) := by
  obtain ⟨hx, hb, hml, hown, hin, hfr, hlo, hK, hKH, hsz, hlk, htr, htb, hrt, hmi⟩ := F
  simp only [sStep, amStep, a_if, a_nx] at hst
  split at hst
  · cases cd
    · simp only [a_c1, decide_eq_true_eq, ne_eq] at hst
      refine lv_if_eq (tgt := t.toNat) hx hb hdg (tgOk_eq ht) (fun h0 => ?_) (fun h0 => ?_)
      · simp [h0] at hst
        obtain ⟨rfl, rfl, rfl, rfl⟩ := hst
        exact (kk _ _ _ _ _ hl hH hS hc hs)
      · simp [h0] at hst
        obtain ⟨rfl, rfl, rfl, rfl⟩ := hst
        exact (kk _ _ _ _ _ hl hH hS hc hs)
    · simp only [a_c1, decide_eq_true_eq, ne_eq] at hst
      refine lv_if_ne (tgt := t.toNat) hx hb hdg (tgOk_eq ht) (fun h0 => ?_) (fun h0 => ?_)
      · simp [h0] at hst
        obtain ⟨rfl, rfl, rfl, rfl⟩ := hst
        exact (kk _ _ _ _ _ hl hH hS hc hs)
      · simp [h0] at hst
        obtain ⟨rfl, rfl, rfl, rfl⟩ := hst
        exact (kk _ _ _ _ _ hl hH hS hc hs)
    · simp only [a_c1, decide_eq_true_eq, ne_eq] at hst
      refine lv_if_lt (tgt := t.toNat) hx hb hdg (tgOk_eq ht) (fun h0 => ?_) (fun h0 => ?_)
      · simp [h0] at hst
        obtain ⟨rfl, rfl, rfl, rfl⟩ := hst
        exact (kk _ _ _ _ _ hl hH hS hc hs)
      · simp [h0] at hst
        obtain ⟨rfl, rfl, rfl, rfl⟩ := hst
        exact (kk _ _ _ _ _ hl hH hS hc hs)
    · simp only [a_c1, decide_eq_true_eq, ne_eq] at hst
      refine lv_if_ge (tgt := t.toNat) hx hb hdg (tgOk_eq ht) (fun h0 => ?_) (fun h0 => ?_)
      · simp [h0] at hst
        obtain ⟨rfl, rfl, rfl, rfl⟩ := hst
        exact (kk _ _ _ _ _ hl hH hS hc hs)
      · simp [h0] at hst
        obtain ⟨rfl, rfl, rfl, rfl⟩ := hst
        exact (kk _ _ _ _ _ hl hH hS hc hs)
    · simp only [a_c1, decide_eq_true_eq, ne_eq] at hst
      refine lv_if_gt (tgt := t.toNat) hx hb hdg (tgOk_eq ht) (fun h0 => ?_) (fun h0 => ?_)
      · simp [h0] at hst
        obtain ⟨rfl, rfl, rfl, rfl⟩ := hst
        exact (kk _ _ _ _ _ hl hH hS hc hs)
      · simp [h0] at hst
        obtain ⟨rfl, rfl, rfl, rfl⟩ := hst
        exact (kk _ _ _ _ _ hl hH hS hc hs)
    · simp only [a_c1, decide_eq_true_eq, ne_eq] at hst
      refine lv_if_le (tgt := t.toNat) hx hb hdg (tgOk_eq ht) (fun h0 => ?_) (fun h0 => ?_)
      · simp [h0] at hst
        obtain ⟨rfl, rfl, rfl, rfl⟩ := hst
        exact (kk _ _ _ _ _ hl hH hS hc hs)
      · simp [h0] at hst
        obtain ⟨rfl, rfl, rfl, rfl⟩ := hst
        exact (kk _ _ _ _ _ hl hH hS hc hs)
  · cases hst
theorem sn_if_icmp (F : FX G mi p l R s m meth c) {cd : ClassFile.Cond} {f t : Int} (ht : tgOk pc f t = true) (hdg : decode (mC mi) pc = .ok (.if_icmp cd f, 3)) (hst : sStep mi (.if_icmp cd t) len pc ls st M = some (.inl (pc', ls', st', M'))) (hl : lv_has lsC (mMx mi) ls) (hH : HR G M H) (hS : va_S (gA G) s.heap H locs) (hc : cells + n0 = mN M) (hs : slots + s0 = mS M) (hb1 : mN M' ≤ n0 + R.cells) (hb2 : mS M' ≤ s0 + R.slots) (kk : Kon G mi p l e R s m args below meth c Q n0 s0 pc' ls' st' M') : W p l e R s m args below meth c H locs cells slots Q (F0 m pc lsC st) := by
  obtain ⟨hx, hb, hml, hown, hin, hfr, hlo, hK, hKH, hsz, hlk, htr, htb, hrt, hmi⟩ := F
  simp only [sStep, amStep, a_if, a_nx] at hst
  split at hst
  · cases cd
    · simp only [a_c2, decide_eq_true_eq, ne_eq] at hst
      refine lv_icmp_eq (tgt := t.toNat) hx hb hdg (tgOk_eq ht) (fun h0 => ?_) (fun h0 => ?_)
      · simp [h0] at hst
        obtain ⟨rfl, rfl, rfl, rfl⟩ := hst
        exact (kk _ _ _ _ _ hl hH hS hc hs)
      · simp [h0] at hst
        obtain ⟨rfl, rfl, rfl, rfl⟩ := hst
        exact (kk _ _ _ _ _ hl hH hS hc hs)
    · simp only [a_c2, decide_eq_true_eq, ne_eq] at hst
      refine lv_icmp_ne (tgt := t.toNat) hx hb hdg (tgOk_eq ht) (fun h0 => ?_) (fun h0 => ?_)
      · simp [h0] at hst
        obtain ⟨rfl, rfl, rfl, rfl⟩ := hst
        exact (kk _ _ _ _ _ hl hH hS hc hs)
      · simp [h0] at hst
        obtain ⟨rfl, rfl, rfl, rfl⟩ := hst
        exact (kk _ _ _ _ _ hl hH hS hc hs)
    · simp only [a_c2, decide_eq_true_eq, ne_eq] at hst
      refine lv_icmp_lt (tgt := t.toNat) hx hb hdg (tgOk_eq ht) (fun h0 => ?_) (fun h0 => ?_)
      · simp [h0] at hst
        obtain ⟨rfl, rfl, rfl, rfl⟩ := hst
        exact (kk _ _ _ _ _ hl hH hS hc hs)
      · simp [h0] at hst
        obtain ⟨rfl, rfl, rfl, rfl⟩ := hst
        exact (kk _ _ _ _ _ hl hH hS hc hs)
    · simp only [a_c2, decide_eq_true_eq, ne_eq] at hst
      refine lv_icmp_ge (tgt := t.toNat) hx hb hdg (tgOk_eq ht) (fun h0 => ?_) (fun h0 => ?_)
      · simp [h0] at hst
        obtain ⟨rfl, rfl, rfl, rfl⟩ := hst
        exact (kk _ _ _ _ _ hl hH hS hc hs)
      · simp [h0] at hst
        obtain ⟨rfl, rfl, rfl, rfl⟩ := hst
        exact (kk _ _ _ _ _ hl hH hS hc hs)
    · simp only [a_c2, decide_eq_true_eq, ne_eq] at hst
      refine lv_icmp_gt (tgt := t.toNat) hx hb hdg (tgOk_eq ht) (fun h0 => ?_) (fun h0 => ?_)
      · simp [h0] at hst
        obtain ⟨rfl, rfl, rfl, rfl⟩ := hst
        exact (kk _ _ _ _ _ hl hH hS hc hs)
      · simp [h0] at hst
        obtain ⟨rfl, rfl, rfl, rfl⟩ := hst
        exact (kk _ _ _ _ _ hl hH hS hc hs)
    · simp only [a_c2, decide_eq_true_eq, ne_eq] at hst
      refine lv_icmp_le (tgt := t.toNat) hx hb hdg (tgOk_eq ht) (fun h0 => ?_) (fun h0 => ?_)
      · simp [h0] at hst
        obtain ⟨rfl, rfl, rfl, rfl⟩ := hst
        exact (kk _ _ _ _ _ hl hH hS hc hs)
      · simp [h0] at hst
        obtain ⟨rfl, rfl, rfl, rfl⟩ := hst
        exact (kk _ _ _ _ _ hl hH hS hc hs)
  · cases hst
theorem sn_tableswitch (F : FX G mi p l R s m meth c) {d0 d lo hi : Int} {fs ts : Array Int} (hd : tgOk pc d0 d = true) (hz : fs.size = ts.size) (hts : (List.range fs.size).all (fun k => tgOk pc (fs.getD k 0) (ts.getD k 0)) = true) (hdg : decode (mC mi) pc = .ok (.tableswitch d0 lo hi fs, len)) (hst : sStep mi (.tableswitch d lo hi ts) len pc ls st M = some (.inl (pc', ls', st', M'))) (hl : lv_has lsC (mMx mi) ls) (hH : HR G M H) (hS : va_S (gA G) s.heap H locs) (hc : cells + n0 = mN M) (hs : slots + s0 = mS M) (hb1 : mN M' ≤ n0 + R.cells) (hb2 : mS M' ≤ s0 + R.slots) (kk : Kon G mi p l e R s m args below meth c Q n0 s0 pc' ls' st' M') : W p l e R s m args below meth c H locs cells slots Q (F0 m pc lsC st) := by
  obtain ⟨hx, hb, hml, hown, hin, hfr, hlo, hK, hKH, hsz, hlk, htr, htb, hrt, hmi⟩ := F
  simp only [sStep, amStep, a_nx] at hst
  split at hst
  · rename_i x r
    split at hst
    · rename_i h0
      cases hst
      exact lv_tableOut hx hb hdg h0 (tgOk_eq hd) (kk _ _ _ _ _ hl hH hS hc hs)
    · rename_i h0
      split at hst
      · rename_i t h1
        cases hst
        obtain ⟨h2, h3⟩ := not_or.mp h0
        have hlt : (x.toInt - lo).toNat < ts.size := (Array.getElem?_eq_some_iff.mp h1).1
        have hlt2 : (x.toInt - lo).toNat < fs.size := by rw [hz]; exact hlt
        have ht := List.all_eq_true.mp hts _ (List.mem_range.mpr hlt2)
        have e1 : fs[(x.toInt - lo).toNat]? = some (fs.getD (x.toInt - lo).toNat 0) := by
          rw [Array.getD_eq_getD_getElem?, Array.getElem?_eq_getElem hlt2]; rfl
        have e2 : ts.getD (x.toInt - lo).toNat 0 = t := by
          rw [Array.getD_eq_getD_getElem?, h1]; rfl
        rw [e2] at ht
        exact lv_tableIn hx hb hdg h2 h3 e1 (tgOk_eq ht) (kk _ _ _ _ _ hl hH hS hc hs)
      · cases hst
  · cases hst
theorem sn_iaload (F : FX G mi p l R s m meth c) (hdg : decode (mC mi) pc = .ok (.iaload, 1)) (hst : sStep mi (.iaload) len pc ls st M = some (.inl (pc', ls', st', M'))) (hl : lv_has lsC (mMx mi) ls) (hH : HR G M H) (hS : va_S (gA G) s.heap H locs) (hc : cells + n0 = mN M) (hs : slots + s0 = mS M) (hb1 : mN M' ≤ n0 + R.cells) (hb2 : mS M' ≤ s0 + R.slots) (kk : Kon G mi p l e R s m args below meth c Q n0 s0 pc' ls' st' M') : W p l e R s m args below meth c H locs cells slots Q (F0 m pc lsC st) := by
  obtain ⟨hx, hb, hml, hown, hin, hfr, hlo, hK, hKH, hsz, hlk, htr, htb, hrt, hmi⟩ := F
  simp only [sStep, amStep, a_ald, a_nx] at hst
  split at hst
  · rename_i j a r
    split at hst
    · rename_i h0
      cases hst
      obtain ⟨hk, hj⟩ := h0
      rcases hk with hk | hk
      · have hk : (mT M a).1 = 100 + 0 := hk
        obtain ⟨hba, hcl⟩ := hr_arr hH hk (by decide)
        exact W.iald (v := .int (mI M a j.toNatClampNeg)) hx hb hcl (vp_isA (arr_of hK (t := 0) (by decide)).1 _) (by rw [vp_vm]; exact fun q => by cases q) (inb_not hj _ _ rfl) (by show (arrV _ _ _).slots[_]? = _; exact arrV_read _ _ (inb_lt hj)) rfl rfl hdg (kk _ _ _ _ _ hl hH hS hc hs)
      · obtain ⟨e1, e2, e3⟩ := hr_scr hH hk
        rw [e2] at hj
        rw [e3] at kk
        rw [e1]
        exact va_sld hx hb hKH.1 (Nat.lt_of_lt_of_le hKH.2.1 hsz) (Nat.not_le.mpr hKH.2.1) hS (inb_in hj) hdg (kk _ _ _ _ _ hl hH hS hc hs)
    · cases hst
  · cases hst
theorem sn_aaload (F : FX G mi p l R s m meth c) (hdg : decode (mC mi) pc = .ok (.aaload, 1)) (hst : sStep mi (.aaload) len pc ls st M = some (.inl (pc', ls', st', M'))) (hl : lv_has lsC (mMx mi) ls) (hH : HR G M H) (hS : va_S (gA G) s.heap H locs) (hc : cells + n0 = mN M) (hs : slots + s0 = mS M) (hb1 : mN M' ≤ n0 + R.cells) (hb2 : mS M' ≤ s0 + R.slots) (kk : Kon G mi p l e R s m args below meth c Q n0 s0 pc' ls' st' M') : W p l e R s m args below meth c H locs cells slots Q (F0 m pc lsC st) := by
  obtain ⟨hx, hb, hml, hown, hin, hfr, hlo, hK, hKH, hsz, hlk, htr, htb, hrt, hmi⟩ := F
  simp only [sStep, amStep, a_nx] at hst
  split at hst
  · rename_i j a r
    split at hst
    · rename_i h0
      cases hst
      obtain ⟨hk1, hk2, hj⟩ := h0
      obtain ⟨t, hk⟩ : ∃ t, (mT M a).1 = 100 + t := ⟨(mT M a).1 - 100, by omega⟩
      obtain ⟨hba, hcl⟩ := hr_arr hH hk (by omega)
      have hA := (arr_of hK (t := t) (by omega)).1
      have ht : t = 5 ∨ t = 6 ∨ t = 7 ∨ t = 8 := by omega
      have hq : arrOf M a t = ((mT M a).2, .inr (.inr (.inr (.inr (mR M a))))) := by rcases ht with rfl | rfl | rfl | rfl <;> rfl
      have hr : (aTy t).isReference = true := by rcases ht with rfl | rfl | rfl | rfl <;> rfl
      rw [hq] at hcl
      exact W.aald (v := va_rf (mR M a j.toNatClampNeg)) (ty := aTy t) hx hb hcl (vp_isA hA _) hr (by rw [vp_vm]; exact fun q => by cases q) (inb_not hj _ _ rfl) (by show (arrV _ _ _).slots[_]? = _; exact arrV_read _ _ (inb_lt hj)) rfl rfl hdg (kk _ _ _ _ _ hl hH hS hc hs)
    · cases hst
  · cases hst
theorem sn_arraylength (F : FX G mi p l R s m meth c) (hdg : decode (mC mi) pc = .ok (.arraylength, 1)) (hst : sStep mi (.arraylength) len pc ls st M = some (.inl (pc', ls', st', M'))) (hl : lv_has lsC (mMx mi) ls) (hH : HR G M H) (hS : va_S (gA G) s.heap H locs) (hc : cells + n0 = mN M) (hs : slots + s0 = mS M) (hb1 : mN M' ≤ n0 + R.cells) (hb2 : mS M' ≤ s0 + R.slots) (kk : Kon G mi p l e R s m args below meth c Q n0 s0 pc' ls' st' M') : W p l e R s m args below meth c H locs cells slots Q (F0 m pc lsC st) := by
  obtain ⟨hx, hb, hml, hown, hin, hfr, hlo, hK, hKH, hsz, hlk, htr, htb, hrt, hmi⟩ := F
  simp only [sStep, amStep, a_nx] at hst
  split at hst
  · rename_i a r
    split at hst
    · rename_i h0
      cases hst
      rcases h0 with h0 | hk
      · obtain ⟨t, hk⟩ : ∃ t, (mT M a).1 = 100 + t := ⟨(mT M a).1 - 100, by omega⟩
        obtain ⟨hba, hcl⟩ := hr_arr hH hk (by omega)
        exact W.alen (n := Int32.ofNat (mT M a).2) hx hb hcl (vp_isA (arr_of hK (t := t) (by omega)).1 _) (by rw [vp_size] <;> rfl) rfl rfl hdg (kk _ _ _ _ _ hl hH hS hc hs)
      · obtain ⟨e1, e2, e3⟩ := hr_scr hH hk
        rw [e2] at kk
        rw [e1]
        exact va_slen hx hb hKH.1 (Nat.lt_of_lt_of_le hKH.2.1 hsz) (Nat.not_le.mpr hKH.2.1) hS hdg (kk _ _ _ _ _ hl hH hS hc hs)
    · cases hst
  · cases hst
theorem sn_iastore (F : FX G mi p l R s m meth c) (hdg : decode (mC mi) pc = .ok (.iastore, 1)) (hst : sStep mi (.iastore) len pc ls st M = some (.inl (pc', ls', st', M'))) (hl : lv_has lsC (mMx mi) ls) (hH : HR G M H) (hS : va_S (gA G) s.heap H locs) (hc : cells + n0 = mN M) (hs : slots + s0 = mS M) (hb1 : mN M' ≤ n0 + R.cells) (hb2 : mS M' ≤ s0 + R.slots) (kk : Kon G mi p l e R s m args below meth c Q n0 s0 pc' ls' st' M') : W p l e R s m args below meth c H locs cells slots Q (F0 m pc lsC st) := by
  obtain ⟨hx, hb, hml, hown, hin, hfr, hlo, hK, hKH, hsz, hlk, htr, htb, hrt, hmi⟩ := F
  simp only [sStep, amStep, a_nx] at hst
  split at hst
  · rename_i x j a r
    split at hst
    · rename_i h0
      cases hst
      obtain ⟨hk, hj⟩ := h0
      have hk : (mT M a).1 = 100 + 0 := hk
      obtain ⟨hba, hcl⟩ := hr_arr hH hk (by decide)
      refine W.iast hx hb hcl (vp_isA (arr_of hK (t := 0) (by decide)).1 _) (by rw [vp_vm]; exact fun q => by cases q) (inb_not hj _ _ rfl) rfl rfl hdg fun H1 e1 z oq => ?_
      refine kk _ _ _ _ _ hl (HR.put hH z oq rfl (fun q => rfl) (fun q hq => ⟨va_up_ne _ _ hq, rfl, rfl, rfl⟩) ?_) (hS.put z oq hba) hc hs
      refine hrA_arr (t := 0) hk (by decide) hba (e1.trans ?_)
      refine congrArg some (Eq.trans (vp_set_i _ _ _ _ _) ?_)
      show vp_cell _ ((mT M a).2, .inl (upd (mI M a) j.toNatClampNeg x)) = vp_cell _ ((mT M a).2, .inl (va_up (mI M) a (upd (mI M a) j.toNatClampNeg x) a))
      rw [va_up_self]
    · cases hst
  · cases hst
end ST2
