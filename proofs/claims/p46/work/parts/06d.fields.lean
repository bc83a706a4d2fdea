/-! ===== steps: references, new cells, fields, the library's own ===== -/
section ST3
variable {G : AG} {mi : Nat} {p : Program} {l : Launch} {e : Env} {R : Room} {s : State} {m : MethodId} {args : Array Value} {below : List Frame} {meth : Method} {c : Code} {H : Heap} {locs : List Loc} {cells slots : Nat} {Q : State → Prop}
variable {lsC : Array Slot} {ls ls' : ALs} {st st' : List Value} {M M' : AMem} {pc pc' len n0 s0 : Nat}
theorem lk_any {α : Type} {l : List α} {f g : α → Bool} (h : l.any f = true) (hg : l.all g = true) : ∃ e, e ∈ l ∧ f e = true ∧ g e = true := by
  obtain ⟨e, he, hf⟩ := List.any_eq_true.mp h
  exact ⟨e, he, hf, List.all_eq_true.mp hg e he⟩
theorem okw_fl {a : String} {i : Nat} {b n d : String} : okw (.fieldLink a i b n d) = true := rfl
theorem okw_fn {a : String} {i : Nat} {b n d h : String} : okw (.fieldLinkNest a i b n d h) = true := rfl
theorem okw_ml {a : String} {i : Nat} {x : MethodName} : okw (.methodLink a i x) = true := rfl
theorem okw_mn {a : String} {i : Nat} {x : MethodName} {h : String} : okw (.methodLinkNest a i x h) = true := rfl
theorem okw_cl {a : String} {i : Nat} {b : String} : okw (.classLink a i b) = true := rfl
theorem okw_in {a : String} : okw (.initialized a) = true := rfl
theorem okw_is {a : String} {n : Nat} : okw (.instantiable a n) = true := rfl
theorem okw_co {y : MethodName} {b : ByteArray} {n : Nat} {r : Option FieldType} : okw (.code y b n r) = true := rfl
theorem okw_st {y : MethodName} : okw (.static y) = true := rfl
theorem okw_im {y : MethodName} : okw (.instanceMethod y) = true := rfl
theorem okw_kl {a : String} {i : Nat} {v : Int64} : okw (.constantLong a i v) = true := rfl
theorem okw_ac {t : FieldType} : okw (.arrayClass t) = true := rfl
theorem okw_nv {y : MethodName} : okw (.native y) = true := rfl
/-- a field link's words -/
theorem linF_spec {G : AG} {s : State} (hK : KK G s) {o x y : Nat} (h : linF o x y = true) : y % 100 < clN (y / 100) ∧ y / 100 ≤ 8 ∧
    ((∀ A, (Cond.fieldLink (cnm o) x (cnm (y / 100)) (clT (y / 100) (y % 100)).2.1 (clT (y / 100) (y % 100)).2.2.1).before A s = true) ∨ (∀ A, (Cond.fieldLinkNest (cnm o) x (cnm (y / 100)) (clT (y / 100) (y % 100)).2.1 (clT (y / 100) (y % 100)).2.2.1 nestHost).before A s = true)) := by
  obtain ⟨⟨o1, x1, ci, k, n, ps⟩, he, hf, hg⟩ := lk_any h lkF_ok
  simp only [Bool.and_eq_true, beq_iff_eq, decide_eq_true_eq] at hf hg
  obtain ⟨⟨⟨⟨⟨h1, h2⟩, h3⟩, h4⟩, h5⟩, h6⟩ := hf
  have e1 : y / 100 = ci := by omega
  have e2 : y % 100 = k := by omega
  rw [e1, e2]
  refine ⟨h6, h5, ?_⟩
  have hw := lw_of hg
  subst h1; subst h2
  simp only [wF] at hw
  by_cases hn : n = 0
  · rw [if_pos hn] at hw
    exact Or.inl fun A => hK.w hw okw_fl A
  · rw [if_neg hn] at hw
    exact Or.inr fun A => hK.w hw okw_fn A
theorem cls_in {G : AG} {s : State} (hK : KK G s) {ci : Nat} (h : ci ≤ 8) (A : Array Value) : (∀ w ∈ u_ws (cnm ci) (clT ci) (clN ci), w ∈ u_ws (cnm ci) (clT ci) (clN ci)) ∧ ∀ w ∈ u_ws (cnm ci) (clT ci) (clN ci), w.before A s = true := by
  refine ⟨fun w hw => hw, fun w hw => ?_⟩
  have h1 := List.all_eq_true.mp (all_lt cls_ws (show ci < 9 by omega)) w hw
  simp only [Bool.and_eq_true, decide_eq_true_eq] at h1
  exact hK.w h1.1 h1.2 A
theorem cls_apart {G : AG} {s : State} (hK : KK G s) {ci : Nat} (h : ci ≤ 8) : ∀ x y, x < clN ci → y < clN ci → x ≠ y → (G.2.2.2.2.1.2 ci) x ≠ (G.2.2.2.2.1.2 ci) y := by
  obtain ⟨h1, h2⟩ := cls_in hK h #[]
  refine va_apart (own := "") (Ts := u_ws (cnm ci) (clT ci) (clN ci)) h2 h1 (fun k => (parseFieldDescriptor (clT ci k).2.2.1).getD .int) (fun k hk => ?_) (fun a ha b hb hn => ?_) hK.2.2.2.1 (vw_at h)
  · have h3 := all_lt (all_lt cls_ty (show ci < 9 by omega)) hk
    cases hp : parseFieldDescriptor (clT ci k).2.2.1 with
    | some t => rfl
    | none => simp [tyOk, hp] at h3
  · have h3 := all_lt (all_lt (all_lt cls_nm (show ci < 9 by omega)) ha) hb
    simp only [Bool.or_eq_true, beq_iff_eq, decide_eq_true_eq] at h3
    exact h3.resolve_left hn

theorem cls_dec0 : (List.range 9).all (fun ci => (List.range (clN ci)).all (fun k => decide ((clT ci k).1 = cnm ci))) = true := by decide +kernel
theorem cls_decl {ci k : Nat} (h : ci ≤ 8) (hk : k < clN ci) : (clT ci k).1 = cnm ci := of_decide_eq_true (all_lt (all_lt cls_dec0 (show ci < 9 by omega)) hk)
theorem fv_upd_i {M : AMem} {a k t : Nat} {x : Int32} (ht : t ≤ 2) (f : Nat → Nat) (hf : f k = t) (j : Nat) : fval (stI M a (upd (mI M a) k x)) a j (f j) = updV (fun j => fval M a j (f j)) k (.int x) j := by
  have e : mI (stI M a (upd (mI M a) k x)) a = upd (mI M a) k x := va_up_self _ _ _
  unfold updV
  by_cases hj : j = k
  · subst hj
    rw [if_pos rfl, hf]
    unfold fval
    rw [if_neg (by omega), if_neg (by omega), if_neg (by omega), e]
    simp [upd]
  · rw [if_neg hj]
    unfold fval
    rw [e]
    simp only [upd, if_neg hj]
    rfl
theorem fv_upd_l {M : AMem} {a k : Nat} {x : Int64} (f : Nat → Nat) (hf : f k = 3) (j : Nat) : fval (stL M a (vp_updL (mL M a) k x)) a j (f j) = updV (fun j => fval M a j (f j)) k (.long x) j := by
  have e : mL (stL M a (vp_updL (mL M a) k x)) a = vp_updL (mL M a) k x := va_up_self _ _ _
  unfold updV
  by_cases hj : j = k
  · subst hj
    rw [if_pos rfl, hf]
    unfold fval
    rw [if_pos rfl, e]
    simp [vp_updL]
  · rw [if_neg hj]
    unfold fval
    rw [e]
    simp only [vp_updL, if_neg hj]
    rfl
theorem fv_upd_r {M : AMem} {a k t : Nat} {x : Nat} (ht : 5 ≤ t) (f : Nat → Nat) (hf : f k = t) (j : Nat) : fval (stR M a (va_up (mR M a) k (some x))) a j (f j) = updV (fun j => fval M a j (f j)) k (.ref x) j := by
  have e : mR (stR M a (va_up (mR M a) k (some x))) a = va_up (mR M a) k (some x) := va_up_self _ _ _
  unfold updV
  by_cases hj : j = k
  · subst hj
    rw [if_pos rfl, hf]
    unfold fval
    rw [if_neg (by omega), if_neg (by omega), if_pos ht, e]
    simp [va_up, va_rf]
  · rw [if_neg hj]
    unfold fval
    rw [e]
    simp only [va_up, if_neg hj]
    rfl
/-- what a write into a field needs: its kind, and what the memory is then -/
theorem wrv_spec {M M' : AMem} {a ci k : Nat} {v : Value} (h : ci ≤ 8) (hk : k < clN ci) (hw : wrv M a k (fty ci k) v = some M') : ∃ ty, parseFieldDescriptor (clT ci k).2.2.1 = some ty ∧ narrow ty v = v ∧ fits ty v = true ∧ mN M' = mN M ∧ mS M' = mS M ∧ (∀ q, mT M' q = mT M q)
    ∧ (∀ q, q ≠ a → mI M' q = mI M q ∧ mL M' q = mL M q ∧ mD M' q = mD M q ∧ mR M' q = mR M q) ∧ ∀ j, fval M' a j (fty ci j) = updV (fun j => fval M a j (fty ci j)) k v j := by
  have h3 := all_lt (all_lt cls_ty (show ci < 9 by omega)) hk
  simp only [tyOk, Bool.or_eq_true, Bool.and_eq_true, beq_iff_eq, decide_eq_true_eq] at h3
  unfold wrv at hw
  split at hw
  · split at hw
    · rename_i x h0
      cases hw
      obtain ⟨h1, h2, h4⟩ := h0
      refine ⟨fty0 (fty ci k), ?_, h2, h4, rfl, rfl, fun q => rfl, fun q hq => ⟨va_up_ne _ _ hq, rfl, rfl, rfl⟩, fun j => fv_upd_i h1 (fty ci) rfl j⟩
      rcases h3 with (((⟨e1, e2⟩ | ⟨e1, e2⟩) | ⟨e1, e2⟩) | ⟨e1, e2⟩) | ⟨e1, e2⟩
      · rw [e1]; exact e2
      · rw [e1]; exact e2
      · rw [e1]; exact e2
      · omega
      · omega
    · cases hw
  · split at hw
    · rename_i x h0
      cases hw
      rcases h3 with (((⟨e1, e2⟩ | ⟨e1, e2⟩) | ⟨e1, e2⟩) | ⟨e1, e2⟩) | ⟨e1, e2⟩
      · omega
      · omega
      · omega
      · exact ⟨.long, e2, rfl, rfl, rfl, rfl, fun q => rfl, fun q hq => ⟨rfl, va_up_ne _ _ hq, rfl, rfl⟩, fun j => fv_upd_l (fty ci) e1 j⟩
      · omega
    · cases hw
  · split at hw
    · rename_i x h0
      cases hw
      rcases h3 with (((⟨e1, e2⟩ | ⟨e1, e2⟩) | ⟨e1, e2⟩) | ⟨e1, e2⟩) | ⟨e1, e2⟩
      · omega
      · omega
      · omega
      · omega
      · cases hp : parseFieldDescriptor (clT ci k).2.2.1 with
        | none => rw [hp] at e2; cases e2
        | some t =>
          rw [hp] at e2
          refine ⟨t, rfl, ?_, ?_, rfl, rfl, fun q => rfl, fun q hq => ⟨rfl, rfl, rfl, va_up_ne _ _ hq⟩, fun j => fv_upd_r (t := 5) (by omega) (fty ci) e1 j⟩ <;> (cases t <;> first | rfl | cases e2)
    · cases hw
  · cases hw
theorem sn_getfield (F : FX G mi p l R s m meth c) {x y : Nat} (hlf : linF (mOw mi) x y = true) (hdg : decode (mC mi) pc = .ok (.getfield x, 3)) (hst : sStep mi (.getfield y) len pc ls st M = some (.inl (pc', ls', st', M'))) (hl : lv_has lsC (mMx mi) ls) (hH : HR G M H) (hS : va_S (gA G) s.heap H locs) (hc : cells + n0 = mN M) (hs : slots + s0 = mS M) (hb1 : mN M' ≤ n0 + R.cells) (hb2 : mS M' ≤ s0 + R.slots) (kk : Kon G mi p l e R s m args below meth c Q n0 s0 pc' ls' st' M') : W p l e R s m args below meth c H locs cells slots Q (F0 m pc lsC st) := by
  obtain ⟨hx, hb, hml, hown, hin, hfr, hlo, hK, hKH, hsz, hlk, htr, htb, hrt, hmi⟩ := F
  simp only [sStep, amStep, a_nx] at hst
  split at hst
  · rename_i a r
    split at hst
    · rename_i hk
      cases hst
      obtain ⟨hkn, hci, hlink⟩ := linF_spec hK hlf
      obtain ⟨hba, cell, q1, q2, q3, q4⟩ := hr_obj hH hk hci
      obtain ⟨h1, h2⟩ := cls_in hK hci args
      obtain ⟨hSl, hfc, kC, hkC, hkind⟩ := hK.2.2.2.1.1 (y / 100) _ (vw_at hci)
      obtain ⟨cf, kf, fi, f, hi, hsl⟩ := hSl _ hkn
      have hfs := u_facts hfc hkC (u_lays h2 h1 hkn) hi
      obtain ⟨cf2, hi2⟩ : ∃ z, s.fieldFound? (cnm (y / 100)) (clT (y / 100) (y % 100)).2.1 (clT (y / 100) (y % 100)).2.2.1 = some z := ⟨_, by rw [← cls_decl hci hkn]; exact hi⟩
      have hi3 : s.fieldFound? (cnm (y / 100)) (clT (y / 100) (y % 100)).2.1 (clT (y / 100) (y % 100)).2.2.1 = some (cf, kf, fi, f) := by rw [← cls_decl hci hkn]; exact hi
      rcases hlink with hlink | hlink
      · exact W.getf hx hb hown (hlink args) hi3 hfs.1 q1 (by rw [q3]; exact fun h => by cases h) (by rw [hsl, q4 _ hkn]) rfl rfl hdg (kk _ _ _ _ _ hl hH hS hc hs)
      · exact va_Wgetf hx hb hown (hlink args) hi3 hfs.1 q1 (by rw [q3]; exact fun h => by cases h) (by rw [hsl, q4 _ hkn]) rfl rfl hdg (kk _ _ _ _ _ hl hH hS hc hs)
    · cases hst
  · cases hst
theorem sn_putfield (F : FX G mi p l R s m meth c) {x y : Nat} (hpf : putF mi (mOw mi) x y = true) (hdg : decode (mC mi) pc = .ok (.putfield x, 3)) (hst : sStep mi (.putfield y) len pc ls st M = some (.inl (pc', ls', st', M'))) (hl : lv_has lsC (mMx mi) ls) (hH : HR G M H) (hS : va_S (gA G) s.heap H locs) (hc : cells + n0 = mN M) (hs : slots + s0 = mS M) (hb1 : mN M' ≤ n0 + R.cells) (hb2 : mS M' ≤ s0 + R.slots) (kk : Kon G mi p l e R s m args below meth c Q n0 s0 pc' ls' st' M') : W p l e R s m args below meth c H locs cells slots Q (F0 m pc lsC st) := by
  obtain ⟨hx, hb, hml, hown, hin, hfr, hlo, hK, hKH, hsz, hlk, htr, htb, hrt, hmi⟩ := F
  simp only [sStep, amStep, a_nx] at hst
  split at hst
  · rename_i v a r
    split at hst
    · rename_i hk
      split at hst
      · rename_i M9 hw
        cases hst
        simp only [putF, Bool.and_eq_true, Bool.or_eq_true] at hpf
        obtain ⟨hlf, hfin⟩ := hpf
        obtain ⟨hkn, hci, hlink⟩ := linF_spec hK hlf
        obtain ⟨hba, cell, q1, q2, q3, q4⟩ := hr_obj hH hk hci
        obtain ⟨h1, h2⟩ := cls_in hK hci args
        obtain ⟨hSl, hfc, kC, hkC, hkind⟩ := hK.2.2.2.1.1 (y / 100) _ (vw_at hci)
        obtain ⟨cf, kf, fi, f, hi, hsl⟩ := hSl _ hkn
        have hfs := u_facts hfc hkC (u_lays h2 h1 hkn) hi
        have hi3 : s.fieldFound? (cnm (y / 100)) (clT (y / 100) (y % 100)).2.1 (clT (y / 100) (y % 100)).2.2.1 = some (cf, kf, fi, f) := by rw [← cls_decl hci hkn]; exact hi
        obtain ⟨ty, w1, w2, w3, w4, w5, w6, w7, w8⟩ := wrv_spec hci hkn hw
        have hap := cls_apart hK hci
        have fin : ∀ H' : Heap, H'[a]? = some (cell.setSlot f.slot v) → H'.size = H.size → (∀ q, q ≠ a → H'[q]? = H[q]?) → W p l e R s m args below meth c H' (locs ++ [⟨a, f.slot⟩]) cells slots Q (F0 m (pc + 3) lsC st') := by
          intro H' e1 e2 e3
          rw [hsl] at e1 ⊢
          refine kk _ _ _ _ _ hl (HR.put hH e2 e3 w4 w6 w7 (hrA_obj (ci := y / 100) (by rw [w6]; exact hk) hci hba ?_)) (hS.put e2 e3 hba) (by rw [w4]; exact hc) (by rw [w5]; exact hs)
          exact t_OB.to (V := updV (fun j => fval M a j (fty (y / 100) j)) (y % 100) v) ⟨_, e1, q2, q3, t_set q4 hap hkn v⟩ (fun j _ => (w8 j).symm)
        have hlay := h2 _ (h1 _ (u_in_lay hkn))
        unfold u_lay at hlay
        by_cases hff : (clT (y / 100) (y % 100)).2.2.2 = true
        · rw [if_pos hff] at hlay
          have hfin := hfin.resolve_left (by simp [finF, hff])
          obtain ⟨⟨⟨g1, g2⟩, g3⟩, g4⟩ := hfin
          simp only [beq_iff_eq, decide_eq_true_eq] at g1 g2 g3
          obtain ⟨⟨o1, x1, ci, k, n, ps⟩, he, hf, hg⟩ := lk_any g4 lkF_ok
          simp only [Bool.and_eq_true, beq_iff_eq, decide_eq_true_eq] at hf hg
          obtain ⟨⟨⟨⟨z1, z2⟩, z3⟩, z4⟩, z5⟩ := hf
          have hlink2 : (Cond.fieldLink (cnm (mOw mi)) x (cnm (y / 100)) (clT (y / 100) (y % 100)).2.1 (clT (y / 100) (y % 100)).2.2.1).before args s = true := by
            have e1 : y / 100 = ci := by omega
            have e2 : y % 100 = k := by omega
            have hw9 := lw_of hg
            subst z1; subst z2; subst z5
            simp only [wF, if_true] at hw9
            rw [e1, e2]
            exact hK.w hw9 okw_fl args
          have hcf : m.cls = cf := by
            obtain ⟨_, _, c', _, _, _, -, -, hf', -, -, -, hown2, -⟩ := Cond.laysFinal_spec hlay
            have e1 : c' = cf := by have := hi.symm.trans hf'; simp at this; exact this.1.symm
            rw [g3] at hown2
            rw [← e1]; exact Option.some.inj (hown.symm.trans hown2)
          have h6 := u_fits hfc hkC hkind (Or.inr hlay) hi w1 w2 w3
          exact W.putFinK hx hb hown hlink2 hi3 hfs.1 hcf (hin g1) (by rw [q2]; exact h6) q1 q3 (by rw [hsl]; exact k2_hasslot (q4 _ hkn)) rfl rfl hdg fin
        · rw [if_neg hff] at hlay
          have h6 := u_store hfc hkC hkind hlay hi w1 w2 w3
          rcases hlink with hlink | hlink
          · exact W.putK hx hb (f := f) ⟨hown, hlink args, ⟨_, _, _, hi3⟩, hfs.1⟩ (by rw [q2]; exact h6) q1 q3 (by rw [hsl]; exact k2_hasslot (q4 _ hkn)) rfl rfl hdg fin
          · exact va_WputK hx hb (f := f) hown (hlink args) hi3 hfs.1 (by rw [q2]; exact h6) q1 q3 (by rw [hsl]; exact k2_hasslot (q4 _ hkn)) rfl rfl hdg fin
      · cases hst
    · cases hst
  · cases hst
end ST3
