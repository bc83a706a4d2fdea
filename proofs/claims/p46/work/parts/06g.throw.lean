/-! ===== a throw site; what a callee owes; a run is the machine's ===== -/
section TH
variable {G : AG} {mi : Nat} {p : Program} {l : Launch} {e : Env} {R : Room} {s : State} {m : MethodId} {args : Array Value} {below : List Frame} {meth : Method} {c : Code} {H : Heap} {locs : List Loc} {cells slots : Nat} {Q : State → Prop}
variable {lsC : Array Slot} {ls ls' : ALs} {st st' : List Value} {M M' : AMem} {pc pc' len n0 s0 : Nat}
theorem thr_heap (hH : HR G M H) {t : State} (h1 : t.heap.size = H.size + 1) (h2 : ∀ q : Nat, q < H.size → t.heap[q]? = H[q]?) : HR G (stN M 0 0 6) t.heap := by
  have hT9 : mT (stN M 0 0 6) (mN M) = (0, 0) := va_up_self _ _ _
  refine HR.push hH (by rw [h1, hH.1]) (fun q hq => h2 q (by rw [hH.1]; exact hq)) ?_
  obtain ⟨base, b, L, xs, D, cT⟩ := G
  exact Or.inl (by rw [hT9])
/-- NoSuchElementException's own constructor names RuntimeException's by another index: its throw by a law of its own -/
theorem sn_throw4 (F : FX G mi p l R s m meth c) (hth : mTh mi = true) {ik is ic : Nat} (ht : thrOk mi (mOw mi) ik is ic 4 = true)
    (hd : (decode (mC mi) pc = .ok (.new ik, 3) ∧ decode (mC mi) (pc + 3) = .ok (.dup, 1)) ∧ ((decode (mC mi) (pc + 4) = .ok (.ldc is, 2) ∧ decode (mC mi) (pc + 6) = .ok (.invokespecial ic, 3) ∧ decode (mC mi) (pc + 9) = .ok (.athrow, 1)) ∨ (decode (mC mi) (pc + 4) = .ok (.ldc_w is, 3) ∧ decode (mC mi) (pc + 7) = .ok (.invokespecial ic, 3) ∧ decode (mC mi) (pc + 10) = .ok (.athrow, 1))))
    (hcs : csum st ≤ 8) (hl : lv_has lsC (mMx mi) ls) (hH : HR G M H) (hS : va_S (gA G) s.heap H locs) {Qc : Array Value → State → Outcome → State → Prop} {XC : String → State → State → Prop} {mc ms : Nat} (hc : cells + 1 ≤ mc) (hs : slots + 6 ≤ ms) (hb1 : cells + 1 ≤ R.cells) (hb2 : slots + 6 ≤ R.slots)
    (hX : ∀ t : State, s.vm.Alike t.vm → HR G (stN M 0 0 6) t.heap → va_F (gA G) s t → XC (enm 4) s t) : W p l e R s m args below meth c H locs cells slots (vx_MQ below Qc XC args s mc ms (gA G)) (F0 m pc lsC st) := by
  obtain ⟨hx, hb, hml, hown, hin, hfr, hlo, hK, hKH, hsz, hlk, htr, htb, hrt, hmi⟩ := F
  simp only [thrOk, Bool.and_eq_true, decide_eq_true_eq] at ht
  obtain ⟨⟨⟨⟨⟨⟨t1, t2⟩, t3⟩, t4⟩, t5⟩, t6⟩, t7⟩ := ht
  obtain ⟨⟨o1, x1, C1, ps⟩, -, hf, hg⟩ := lk_any t2 lkC_ok
  simp only [Bool.and_eq_true, beq_iff_eq, decide_eq_true_eq] at hf hg
  obtain ⟨⟨z1, z2⟩, z3⟩ := hf
  rw [z1, z2, z3] at hg
  obtain ⟨es, hes, hf2⟩ := List.any_eq_true.mp t3
  simp only [Bool.and_eq_true, beq_iff_eq] at hf2
  obtain ⟨sa, hsa⟩ := hK.2.1 es hes
  rw [hf2.1, hf2.2] at hsa
  obtain ⟨ex, hex, hf3⟩ := List.any_eq_true.mp t4
  simp only [Bool.and_eq_true, beq_iff_eq] at hf3
  have w4 := List.all_eq_true.mp nx_ok ex (List.mem_filter.mpr ⟨hex, by rw [hf3.2]; rfl⟩)
  rw [hf3.1.1, hf3.1.2] at w4
  have wall : ∀ w ∈ (nx_own (cnm (mOw mi)) ic (enm 4) nx_ix nx_rx exNames).filter vx_no, w ∈ lw_tbl ∧ okw w = true ∧ vx_ot w = true := by
    intro w hw
    have h9 := List.all_eq_true.mp w4 w hw
    simp only [Bool.and_eq_true, decide_eq_true_eq] at h9
    exact ⟨h9.1.1, h9.1.2, h9.2⟩
  have h9 := all_lt exn_ini t1
  simp only [Bool.and_eq_true, decide_eq_true_eq] at h9
  obtain ⟨⟨i1, i2⟩, i3⟩ := h9
  have hout : ∀ x ∈ c.exceptionTable.toList, False := by
    rw [htb (Or.inl hth), List.isEmpty_iff.mp t5]
    intro x hx9
    cases hx9
  have hxx : ∀ t : State, s.vm.Alike t.vm → t.heap.size = H.size + 1 → (∀ q : Nat, q < H.size → t.heap[q]? = H[q]?) → XC (enm 4) s t := fun t a1 a2 a3 => hX t a1 (thr_heap hH a2 a3) ⟨Nat.le_trans hS.1 (by omega), fun q g1 g2 => by rw [a3 q (Nat.lt_of_lt_of_le g1 hS.1)]; exact hS.2.1 q g1 g2⟩
  have hgood : ∀ w ∈ Cond.classLink (cnm (mOw mi)) ik (enm 4) :: Cond.initialized (enm 4) :: (nx_own (cnm (mOw mi)) ic (enm 4) nx_ix nx_rx exNames).filter vx_no, vx_ot w = true := by
    intro w hw
    rcases List.mem_cons.mp hw with rfl | hw
    · rfl
    · rcases List.mem_cons.mp hw with rfl | hw
      · rfl
      · exact (wall w hw).2.2
  have hat : ∀ w ∈ (nx_own (cnm (mOw mi)) ic (enm 4) nx_ix nx_rx exNames).filter vx_no, w.before args s = true := fun w hw => hK.w (wall w hw).1 (wall w hw).2.1 args
  have hnm : ∀ n ∈ exNames, Bundle.fit n = true := by decide +kernel
  obtain ⟨n0, n1, n2, n5⟩ := nx_d
  unfold csum at hcs
  rcases hd with ⟨⟨d0, d3⟩, ⟨d4, d6, d9⟩ | ⟨d4, d7, d10⟩⟩
  · exact w_throwX hx hb htr n0 n1 n2 n5 hown i2 hnm (hK.w (lw_of hg) okw_cl args) (hK.w i1 okw_in args) hsa hat hgood hKH.2.2.2.1 hKH.2.2.2.2.1 hS (by rw [hml]; exact hl.1) d0 d3 d4 d6 d9 (fun x hx9 => (hout x hx9).elim) (by show 2 + 3 < _; omega) (by show _ + (13 * (2 + 1) + 43) ≤ _; omega) hb1 hb2 hlk hxx hS.2.2 hc hs
  · exact w_throwXW hx hb htr n0 n1 n2 n5 hown i2 hnm (hK.w (lw_of hg) okw_cl args) (hK.w i1 okw_in args) hsa hat hgood hKH.2.2.2.1 hKH.2.2.2.2.1 hS (by rw [hml]; exact hl.1) d0 d3 d4 d7 d10 (fun x hx9 => (hout x hx9).elim) (by show 2 + 3 < _; omega) (by show _ + (13 * (2 + 1) + 43) ≤ _; omega) hb1 hb2 hlk hxx hS.2.2 hc hs
theorem sn_throw (F : FX G mi p l R s m meth c) (hth : mTh mi = true) {k : Int} (hio : insOk mi (mC mi) (pc, .jsr k, len) = true) (hcs : csum st ≤ 8) (hl : lv_has lsC (mMx mi) ls) (hH : HR G M H) (hS : va_S (gA G) s.heap H locs) {Qc : Array Value → State → Outcome → State → Prop} {XC : String → State → State → Prop} {mc ms : Nat} (hc : cells + 1 ≤ mc) (hs : slots + 6 ≤ ms) (hb1 : cells + 1 ≤ R.cells) (hb2 : slots + 6 ≤ R.slots)
    (hX : ∀ t : State, s.vm.Alike t.vm → HR G (stN M 0 0 6) t.heap → va_F (gA G) s t → XC (enm k.toNat) s t) : W p l e R s m args below meth c H locs cells slots (vx_MQ below Qc XC args s mc ms (gA G)) (F0 m pc lsC st) := by
  obtain ⟨ik, is, ic, ht, hd⟩ : ∃ ik is ic, thrOk mi (mOw mi) ik is ic k.toNat = true ∧ (decode (mC mi) pc = .ok (.new ik, 3) ∧ decode (mC mi) (pc + 3) = .ok (.dup, 1)) ∧ ((decode (mC mi) (pc + 4) = .ok (.ldc is, 2) ∧ decode (mC mi) (pc + 6) = .ok (.invokespecial ic, 3) ∧ decode (mC mi) (pc + 9) = .ok (.athrow, 1)) ∨ (decode (mC mi) (pc + 4) = .ok (.ldc_w is, 3) ∧ decode (mC mi) (pc + 7) = .ok (.invokespecial ic, 3) ∧ decode (mC mi) (pc + 10) = .ok (.athrow, 1))) := by
    simp only [insOk] at hio
    split at hio
    · rename_i ik is a1 a2 a3
      split at hio
      · rename_i ic a4 a5
        exact ⟨ik, is, ic, hio, ⟨dc_ok2 a1 (fun h => by cases h), dc_ok2 a2 (fun h => by cases h)⟩, Or.inl ⟨dc_ok2 a3 (fun h => by cases h), dc_ok2 a4 (fun h => by cases h), dc_ok2 a5 (fun h => by cases h)⟩⟩
      · cases hio
    · rename_i ik is a1 a2 a3
      split at hio
      · rename_i ic a4 a5
        exact ⟨ik, is, ic, hio, ⟨dc_ok2 a1 (fun h => by cases h), dc_ok2 a2 (fun h => by cases h)⟩, Or.inr ⟨dc_ok2 a3 (fun h => by cases h), dc_ok2 a4 (fun h => by cases h), dc_ok2 a5 (fun h => by cases h)⟩⟩
      · cases hio
    · cases hio
  by_cases hk4 : k.toNat = 4
  · rw [hk4] at ht hX
    exact sn_throw4 F hth ht hd hcs hl hH hS hc hs hb1 hb2 hX
  · obtain ⟨hx, hb, hml, hown, hin, hfr, hlo, hK, hKH, hsz, hlk, htr, htb, hrt, hmi⟩ := F
    simp only [thrOk, Bool.and_eq_true, decide_eq_true_eq] at ht
    obtain ⟨⟨⟨⟨⟨⟨t1, t2⟩, t3⟩, t4⟩, t5⟩, t6⟩, t7⟩ := ht
    obtain ⟨⟨o1, x1, C1, ps⟩, -, hf, hg⟩ := lk_any t2 lkC_ok
    simp only [Bool.and_eq_true, beq_iff_eq, decide_eq_true_eq] at hf hg
    obtain ⟨⟨z1, z2⟩, z3⟩ := hf
    rw [z1, z2, z3] at hg
    obtain ⟨es, hes, hf2⟩ := List.any_eq_true.mp t3
    simp only [Bool.and_eq_true, beq_iff_eq] at hf2
    obtain ⟨sa, hsa⟩ := hK.2.1 es hes
    rw [hf2.1, hf2.2] at hsa
    obtain ⟨ex, hex, hf3⟩ := List.any_eq_true.mp t4
    simp only [Bool.and_eq_true, beq_iff_eq] at hf3
    have w1 := List.all_eq_true.mp lkE_ok1 ex hex
    have w2 := List.all_eq_true.mp lkE_ok2 ex hex
    have w4 := List.all_eq_true.mp lkE_ok4 ex (List.mem_filter.mpr ⟨hex, by rw [hf3.2]; simpa using hk4⟩)
    rw [hf3.1.1, hf3.1.2, hf3.2] at w1 w2 w4
    have h9 := all_lt exn_ini t1
    simp only [Bool.and_eq_true, decide_eq_true_eq] at h9
    obtain ⟨⟨i1, i2⟩, i3⟩ := h9
    have hout : ∀ x ∈ c.exceptionTable.toList, False := by
      rw [htb (Or.inl hth), List.isEmpty_iff.mp t5]
      intro x hx9
      cases hx9
    have hxx : ∀ t : State, s.vm.Alike t.vm → t.heap.size = H.size + 1 → (∀ q : Nat, q < H.size → t.heap[q]? = H[q]?) → XC (enm k.toNat) s t := fun t a1 a2 a3 => hX t a1 (thr_heap hH a2 a3) ⟨Nat.le_trans hS.1 (by omega), fun q g1 g2 => by rw [a3 q (Nat.lt_of_lt_of_le g1 hS.1)]; exact hS.2.1 q g1 g2⟩
    have hgood : ∀ w ∈ Cond.classLink (cnm (mOw mi)) ik (enm k.toNat) :: Cond.initialized (enm k.toNat) :: vx_atS (cnm (mOw mi)) ic (enm k.toNat) exNames, vx_ot w = true := by
      intro w hw
      rcases List.mem_cons.mp hw with rfl | hw
      · rfl
      · rcases List.mem_cons.mp hw with rfl | hw
        · rfl
        · exact List.all_eq_true.mp w1 w hw
    have hat : ∀ w ∈ vx_atS (cnm (mOw mi)) ic (enm k.toNat) exNames, w.before args s = true := fun w hw => hK.w (of_decide_eq_true (List.all_eq_true.mp w4 w hw)) (List.all_eq_true.mp w2 w hw) args
    have hnm : ∀ n ∈ exNames, Bundle.fit n = true := by decide +kernel
    unfold csum at hcs
    rcases hd with ⟨⟨d0, d3⟩, ⟨d4, d6, d9⟩ | ⟨d4, d7, d10⟩⟩
    · exact w_throwS hx hb htr hown i2 hnm (hK.w (lw_of hg) okw_cl args) (hK.w i1 okw_in args) hsa hat hgood hKH.2.2.2.1 hKH.2.2.2.2.1 hS (by rw [hml]; exact hl.1) d0 d3 d4 d6 d9 (fun x hx9 => (hout x hx9).elim) (by show 2 + 3 < _; omega) (by show _ + (13 * (2 + 1) + 43) ≤ _; omega) hb1 hb2 hlk hxx hS.2.2 hc hs
    · exact w_throwSW hx hb htr hown i2 hnm (hK.w (lw_of hg) okw_cl args) (hK.w i1 okw_in args) hsa hat hgood hKH.2.2.2.1 hKH.2.2.2.2.1 hS (by rw [hml]; exact hl.1) d0 d3 d4 d7 d10 (fun x hx9 => (hout x hx9).elim) (by show 2 + 3 < _; omega) (by show _ + (13 * (2 + 1) + 43) ≤ _; omega) hb1 hb2 hlk hxx hS.2.2 hc hs
end TH
