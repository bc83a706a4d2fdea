/-! ===== the law: passes, how far off, the rows of piles ===== -/
theorem stM_old (M : AMem) (n k : Nat) : ∀ i a, a < mN M → mT (stM M n k i) a = mT M a ∧ mI (stM M n k i) a = mI M a ∧ mR (stM M n k i) a = mR M a
  | 0, a, ha => ⟨va_up_ne _ _ (by omega), va_up_ne _ _ (by omega), va_up_ne _ _ (by omega)⟩
  | i + 1, a, ha => by
    obtain ⟨g1, g2, g3⟩ := stM_facts M n k i
    obtain ⟨h1, h2, h3⟩ := stM_old M n k i a ha
    unfold stM
    refine ⟨?_, ?_, ?_⟩
    · rw [mT_stR, mT_stN, va_up_ap, if_neg (by omega)]; exact h1
    · rw [mI_stR, mI_stN, va_up_ap, if_neg (by omega)]; exact h2
    · rw [mR_stR, va_up_ap, if_neg (by omega), mR_stN, va_up_ap, if_neg (by omega)]; exact h3
theorem stM_in (M : AMem) (n k : Nat) : ∀ i, (∀ j, j < i → mT (stM M n k i) (mN M + 1 + j) = (100, k) ∧ mI (stM M n k i) (mN M + 1 + j) = (fun _ => 0)) ∧ ∀ j, j < i → mR (stM M n k i) (mN M) j = some (mN M + 1 + j)
  | 0 => ⟨fun j hj => absurd hj (Nat.not_lt_zero j), fun j hj => absurd hj (Nat.not_lt_zero j)⟩
  | i + 1 => by
    obtain ⟨g1, g2, g3⟩ := stM_facts M n k i
    obtain ⟨h1, h2⟩ := stM_in M n k i
    unfold stM
    refine ⟨fun j hj => ?_, fun j hj => ?_⟩
    · rw [mT_stR, mI_stR, mT_stN, mI_stN, va_up_ap, va_up_ap]
      by_cases e : j = i
      · rw [if_pos (by omega), if_pos (by omega)]
        exact ⟨rfl, rfl⟩
      · rw [if_neg (by omega), if_neg (by omega)]
        exact h1 j (by omega)
    · rw [mR_stR, va_up_ap, if_pos rfl, va_up_ap]
      by_cases e : j = i
      · rw [if_pos e, g1, e]
      · rw [if_neg e]
        exact h2 j (by omega)
def PA (B : Nat) (M : AMem) : Prop := mT M (B + 27) = (108, 4) ∧ ∀ j, j < 4 → mT M (B + 28 + j) = (100, 2) ∧ mR M (B + 27) j = some (B + 28 + j)
theorem PA_stI {B a : Nat} {M : AMem} {f : Nat → Int32} : PA B (stI M a f) = PA B M := of_eq_true (eq_true rfl)
/-- -10 to 10 -/
def rg (x : Int32) : Prop := ∃ m, m ≤ 20 ∧ x = nI m - 10
theorem rg_40n : ∀ m, m ≤ 20 → inR (nI m - 10) (-40) 40 = true := by decide +kernel
theorem rg_40 {x : Int32} (h : rg x) : inR x (-40) 40 = true := by
  obtain ⟨m, hm, rfl⟩ := h
  exact rg_40n m hm
theorem rg_n : ∀ m, m ≤ 20 → ∀ n, n ≤ 20 → (nI m - 10 < nI n - 10 → (nI n - 10) - (nI m - 10) = amt ((nI m - 10) - (nI n - 10))) ∧ (¬ nI m - 10 < nI n - 10 → (nI m - 10) - (nI n - 10) = amt ((nI m - 10) - (nI n - 10))) := by decide +kernel
theorem rg_amt {x y : Int32} (hx : rg x) (hy : rg y) : (x < y → y - x = amt (x - y)) ∧ (¬ x < y → x - y = amt (x - y)) := by
  obtain ⟨m, hm, rfl⟩ := hx
  obtain ⟨n, hn, rfl⟩ := hy
  exact rg_n m hm n hn
theorem ia2 : inb 2 1001 = true := by decide
theorem ic2 : (2 : Int32).toNatClampNeg = 2 := rfl
theorem ib02 : inb 0 2 = true := by decide
theorem ib12 : inb 1 2 = true := by decide
theorem ic0 : (0 : Int32).toNatClampNeg = 0 := rfl
theorem ic1 : (1 : Int32).toNatClampNeg = 1 := rfl
section LE
variable {b B L R C : Nat} {xs : Nat → Int32} {M : AMem} {Q : AR → Prop} {o P T r u pl mk : Nat → Int32}
theorem LB_M {n k : Nat} (h : LB b B L xs R C o P T r u pl mk M) (hb : b < B) : ∀ i, LB b B L xs R C o P T r u pl mk (stM M n k i)
  | 0 => LB_N h hb
  | i + 1 => LB_R (LB_N (LB_M h hb i) hb) h.1.1.2.2.2.2
theorem LB_ru {r' u' : Nat → Int32} (h : LB b B L xs R C o P T r u pl mk M) (hb : b < B) : LB b B L xs R C o P T r' u' pl mk (stI (stI M (B + 18) r') (B + 19) u') := by
  refine ⟨SF_I (SF_I h.1 (by omega) (by omega) (by omega) (by omega) (by omega)) (by omega) (by omega) (by omega) (by omega) (by omega), ?_⟩
  obtain ⟨g1, g2, g3, g4, g5, g6, g7⟩ := h.2
  refine ⟨?_, ?_, ?_, ?_, ?_, ?_, ?_⟩
  · rw [mI_stI, va_up_ap, if_neg (by omega), mI_stI, va_up_ap, if_neg (by omega)]; exact g1
  · rw [mI_stI, va_up_ap, if_neg (by omega), mI_stI, va_up_ap, if_neg (by omega)]; exact g2
  · rw [mI_stI, va_up_ap, if_neg (by omega), mI_stI, va_up_ap, if_neg (by omega)]; exact g3
  · rw [mI_stI, va_up_ap, if_neg (by omega), mI_stI, va_up_ap, if_neg (by omega)]; exact g4
  · rw [mI_stI, va_up_ap, if_neg (by omega), mI_stI, va_up_ap, if_neg (by omega)]; exact g5
  · rw [mI_stI, va_up_ap, if_neg (by omega), mI_stI, va_up_ap, if_pos rfl]
  · rw [mI_stI, va_up_ap, if_pos rfl]
/-- the passes' rows hold the sheet's passes -/
def PV (B n : Nat) (r u : Nat → Int32) (M : AMem) : Prop := ∀ j, j < n → mI M (B + 28 + j) 0 = r j ∧ mI M (B + 28 + j) 1 = u j
def RGs (r u : Nat → Int32) : Prop := ∀ j, j < 4 → rg (r j) ∧ rg (u j)
theorem segG {S : Nat} (hb : b < B) (hL : L ≤ 260) (hrg : RGs r u) (h : LQq b B L xs R C o P T r u pl mk T (B + 27) S M) (k : ∀ r' u' M', RGs r' u' → LQq b B L xs R C o P T r' u' pl mk T (B + 32) (S + 12) M' → PA B M' → PV B 4 r' u' M' → EvP 190 629 [(0, .ref b), (1, .ref B), (4, .int 1), (6, .ref (B + 26)), (8, .ref (B + 27))] [] M' Q) :
    EvP 190 521 [(0, .ref b), (1, .ref B), (4, .int 1), (6, .ref (B + 26))] [] M Q := by
  obtain ⟨g1, g2, g3, g4, g5⟩ := h
  have A1 : EvP 190 521 [(0, .ref b), (1, .ref B), (4, .int 1), (6, .ref (B + 26))] [] M Q = EvP 190 532 [(0, .ref b), (1, .ref B), (4, .int 1), (6, .ref (B + 26)), (8, .ref (B + 27)), (9, .int 0)] [] (stM M 4 2 4) Q := by
    simp [lv_args, sStep, amStep, a_nx, a_ii, a_jj, a_ji, a_ld, a_st, a_if, a_ald, a_c1, a_c2, lkp, lput, lput2, lins, oP_none, oP_next, oP_call, oP_ret, oP_thr, outP_ite, aft_ret, aft_void, aft_thr, fHnd, List.isEmpty_nil, List.filter_cons, List.filter_nil, Value.category, csum, List.map_cons, List.map_nil, List.sum_cons, List.sum_nil, List.cons_append, List.nil_append, Option.toList, vp_nar_int, narrow_b1, narrow_b0, nc115, vc115, fc115, nc111, vc111, fc111, nc100, vc100, fc100, nc109, vc109, fc109, nc120, vc120, fc120, nc119, vc119, fc119, nc116, vc116, fc116, nc45, vc45, fc45, nc32, vc32, fc32, nc102, vc102, fc102, nc106, vc106, fc106, fin3, rf_some, rf_none, upd_ap, va_up_ap, nar_bi, fits_bi, nvp_bi, bi_t, bi_f, fval, fty, ftabs, wrv_0, wrv_1, wrv_2, wrv_3, wrv_5, mT_stI, mI_stI, mL_stI, mD_stI, mR_stI, mN_stI, mS_stI, mT_stL, mI_stL, mL_stL, mD_stL, mR_stL, mN_stL, mS_stL, mT_stD, mI_stD, mL_stD, mD_stD, mR_stD, mN_stD, mS_stD, mT_stR, mI_stR, mL_stR, mD_stR, mR_stR, mN_stR, mS_stR, mT_stN, mI_stN, mL_stN, mD_stN, mR_stN, mN_stN, mS_stN, e190_521, e190_522, e190_523, e190_527, e190_529, e190_530, rt190, hn190, nI_a1, ia4, ic4, ia2, ic2, g2]
  rw [A1]
  obtain ⟨f1, f2, f3⟩ := stM_facts M 4 2 4
  have f4 := stM_old M 4 2 4
  obtain ⟨f5, f6⟩ := stM_in M 4 2 4
  have hM1 := @LB_M b B L R C xs M o P T r u pl mk 4 2 g1 hb 4
  generalize stM M 4 2 4 = M1 at f1 f2 f3 f4 f5 f6 hM1 ⊢
  rw [g2] at f1 f3 f4 f5 f6
  refine loopK (m := 190) (pc := 532) (Q := Q) 4 (fun n => [(0, .ref b), (1, .ref B), (4, .int 1), (6, .ref (B + 26)), (8, .ref (B + 27)), (9, .int (nI n))]) (fun n M' => ∃ r' u', RGs r' u' ∧ LQq b B L xs R C o P T r' u' pl mk T (B + 32) (S + 12) M' ∧ PA B M' ∧ PV B n r' u' M') (fun n hn M' hI kk => ?_) (fun M' hI => ?_) _ ⟨r, u, hrg, ⟨hM1, by omega, by omega, by rw [(f4 _ (by omega)).1]; exact g4, fun c hc => by rw [(f4 _ (by omega)).2.1]; exact g5 c hc⟩, ⟨f3, fun j hj => ⟨(f5 j hj).1, f6 j hj⟩⟩, fun j hj => absurd hj (Nat.not_lt_zero j)⟩
  · obtain ⟨r', u', hR, ⟨i1, i2, i3, i4, i5⟩, ⟨p1, p2⟩, p3⟩ := hI
    obtain ⟨p4, p5⟩ := p2 n hn
    have hb1 : mT M' b = (200, L) := i1.1.2.2.1
    have n4 : ¬ (4 : Int32) ≤ nI n := ge4 hn
    have a30 : (30 : Int32) + nI n = nI (n + 30) := add_l rfl
    have a34 : (34 : Int32) + nI n = nI (n + 34) := add_l rfl
    obtain ⟨z1, hz1, q1⟩ : ∃ z, z < 21 ∧ ∀ Q, CaP 189 [.ref b, .int (nI (n + 30)), .int 21] M' Q = Q (M', .inl (some (.int (nI z)))) := ⟨_, inN_lt (by decide), fun Q => sp189 (i := n + 30) (n := 21) hb1 (by omega) (by omega) (by decide) (by decide)⟩
    obtain ⟨v1, hv1⟩ : ∃ v, nI z1 - 10 = v := ⟨_, rfl⟩
    have A2 : EvP 190 532 [(0, .ref b), (1, .ref B), (4, .int 1), (6, .ref (B + 26)), (8, .ref (B + 27)), (9, .int (nI n))] [] M' Q = EvP 190 559 [(0, .ref b), (1, .ref B), (4, .int 1), (6, .ref (B + 26)), (8, .ref (B + 27)), (9, .int (nI n))] [] (stI M' (B + 28 + n) (upd (mI M' (B + 28 + n)) 0 v1)) Q := by
      simp [lv_args, sStep, amStep, a_nx, a_ii, a_jj, a_ji, a_ld, a_st, a_if, a_ald, a_c1, a_c2, lkp, lput, lput2, lins, oP_none, oP_next, oP_call, oP_ret, oP_thr, outP_ite, aft_ret, aft_void, aft_thr, fHnd, List.isEmpty_nil, List.filter_cons, List.filter_nil, Value.category, csum, List.map_cons, List.map_nil, List.sum_cons, List.sum_nil, List.cons_append, List.nil_append, Option.toList, vp_nar_int, narrow_b1, narrow_b0, nc115, vc115, fc115, nc111, vc111, fc111, nc100, vc100, fc100, nc109, vc109, fc109, nc120, vc120, fc120, nc119, vc119, fc119, nc116, vc116, fc116, nc45, vc45, fc45, nc32, vc32, fc32, nc102, vc102, fc102, nc106, vc106, fc106, fin3, rf_some, rf_none, upd_ap, va_up_ap, nar_bi, fits_bi, nvp_bi, bi_t, bi_f, fval, fty, ftabs, wrv_0, wrv_1, wrv_2, wrv_3, wrv_5, mT_stI, mI_stI, mL_stI, mD_stI, mR_stI, mN_stI, mS_stI, mT_stL, mI_stL, mL_stL, mD_stL, mR_stL, mN_stL, mS_stL, mT_stD, mI_stD, mL_stD, mD_stD, mR_stD, mN_stD, mS_stD, mT_stR, mI_stR, mL_stR, mD_stR, mR_stR, mN_stR, mS_stR, mT_stN, mI_stN, mL_stN, mD_stN, mR_stN, mN_stN, mS_stN, e190_532, e190_534, e190_535, e190_538, e190_540, e190_542, e190_543, e190_544, e190_545, e190_547, e190_549, e190_550, e190_552, e190_555, e190_557, e190_558, rt190, hn190, nI_a1, n4, a30, p1, inb_nI hn, nI_clamp (show n < 2 ^ 31 by omega), p5, p4, cl189, q1, hv1, ib02, ic0]
    rw [A2]
    obtain ⟨Ma, hMa⟩ : ∃ Ma, Ma = stI M' (B + 28 + n) (upd (mI M' (B + 28 + n)) 0 v1) := ⟨_, rfl⟩
    rw [← hMa]
    have j1 : LB b B L xs R C o P T r' u' pl mk Ma := by rw [hMa]; exact LB_h i1 hb (by omega)
    have j2 : PA B Ma := by rw [hMa, PA_stI]; exact ⟨p1, p2⟩
    obtain ⟨jp4, jp5⟩ := j2.2 n hn
    have jb1 : mT Ma b = (200, L) := j1.1.2.2.1
    obtain ⟨z2, hz2, q2⟩ : ∃ z, z < 21 ∧ ∀ Q, CaP 189 [.ref b, .int (nI (n + 34)), .int 21] Ma Q = Q (Ma, .inl (some (.int (nI z)))) := ⟨_, inN_lt (by decide), fun Q => sp189 (i := n + 34) (n := 21) jb1 (by omega) (by omega) (by decide) (by decide)⟩
    obtain ⟨v2, hv2⟩ : ∃ v, nI z2 - 10 = v := ⟨_, rfl⟩
    have A3 : EvP 190 559 [(0, .ref b), (1, .ref B), (4, .int 1), (6, .ref (B + 26)), (8, .ref (B + 27)), (9, .int (nI n))] [] Ma Q = EvP 190 580 [(0, .ref b), (1, .ref B), (4, .int 1), (6, .ref (B + 26)), (8, .ref (B + 27)), (9, .int (nI n))] [] (stI Ma (B + 28 + n) (upd (mI Ma (B + 28 + n)) 1 v2)) Q := by
      simp [lv_args, sStep, amStep, a_nx, a_ii, a_jj, a_ji, a_ld, a_st, a_if, a_ald, a_c1, a_c2, lkp, lput, lput2, lins, oP_none, oP_next, oP_call, oP_ret, oP_thr, outP_ite, aft_ret, aft_void, aft_thr, fHnd, List.isEmpty_nil, List.filter_cons, List.filter_nil, Value.category, csum, List.map_cons, List.map_nil, List.sum_cons, List.sum_nil, List.cons_append, List.nil_append, Option.toList, vp_nar_int, narrow_b1, narrow_b0, nc115, vc115, fc115, nc111, vc111, fc111, nc100, vc100, fc100, nc109, vc109, fc109, nc120, vc120, fc120, nc119, vc119, fc119, nc116, vc116, fc116, nc45, vc45, fc45, nc32, vc32, fc32, nc102, vc102, fc102, nc106, vc106, fc106, fin3, rf_some, rf_none, upd_ap, va_up_ap, nar_bi, fits_bi, nvp_bi, bi_t, bi_f, fval, fty, ftabs, wrv_0, wrv_1, wrv_2, wrv_3, wrv_5, mT_stI, mI_stI, mL_stI, mD_stI, mR_stI, mN_stI, mS_stI, mT_stL, mI_stL, mL_stL, mD_stL, mR_stL, mN_stL, mS_stL, mT_stD, mI_stD, mL_stD, mD_stD, mR_stD, mN_stD, mS_stD, mT_stR, mI_stR, mL_stR, mD_stR, mR_stR, mN_stR, mS_stR, mT_stN, mI_stN, mL_stN, mD_stN, mR_stN, mN_stN, mS_stN, e190_559, e190_561, e190_563, e190_564, e190_565, e190_566, e190_568, e190_570, e190_571, e190_573, e190_576, e190_578, e190_579, rt190, hn190, nI_a1, a34, j2.1, inb_nI hn, nI_clamp (show n < 2 ^ 31 by omega), jp5, jp4, cl189, q2, hv2, ib12, ic1]
    rw [A3]
    obtain ⟨Mb, hMb⟩ : ∃ Mb, Mb = stI Ma (B + 28 + n) (upd (mI Ma (B + 28 + n)) 1 v2) := ⟨_, rfl⟩
    rw [← hMb]
    have k1 : LB b B L xs R C o P T r' u' pl mk Mb := by rw [hMb]; exact LB_h j1 hb (by omega)
    have k2 : PA B Mb := by rw [hMb, PA_stI]; exact j2
    obtain ⟨kp4, kp5⟩ := k2.2 n hn
    have k3 : ∀ a, ¬ a = B + 28 + n → mI Mb a = mI M' a := fun a ha => by rw [hMb, mI_stI, va_up_ap, if_neg ha, hMa, mI_stI, va_up_ap, if_neg ha]
    have k4 : mI Mb (B + 28 + n) 0 = v1 := by rw [hMb, mI_stI, va_up_ap, if_pos rfl, upd_ap, if_neg (by decide), hMa, mI_stI, va_up_ap, if_pos rfl, upd_ap, if_pos rfl]
    have k5 : mI Mb (B + 28 + n) 1 = v2 := by rw [hMb, mI_stI, va_up_ap, if_pos rfl, upd_ap, if_pos rfl]
    obtain ⟨⟨w, -⟩, -, -, -, -, -, hr', hu'⟩ := id k1
    have v1r : rg v1 := ⟨z1, by omega, hv1.symm⟩
    have v2r : rg v2 := ⟨z2, by omega, hv2.symm⟩
    obtain ⟨Mc, hMc, x1⟩ : ∃ Mc, Mc = stI (stI Mb (B + 18) (upd r' n v1)) (B + 19) (upd u' n v2) ∧ ∀ Q, CaP 175 [.ref B, .int 0, .int (nI n), .int v1, .int v2] Mb Q = Q (Mc, .inl (some (.int (ocO (upd r' n v1) (upd u' n v2) 4)))) := by
      refine ⟨_, rfl, fun Q => ?_⟩
      have := @w175_ok B 0 (nI n) v1 v2 _ Mb _ Q w.1 (fun Q => d49 w hn (rg_40 v1r) (rg_40 v2r))
      rw [hr', hu'] at this
      exact this
    have l1 : LB b B L xs R C o P T (upd r' n v1) (upd u' n v2) pl mk Mc := by rw [hMc]; exact LB_ru k1 hb
    obtain ⟨⟨wc, -⟩, -, -, -, -, -, hrc, huc⟩ := id l1
    have x2 : ∀ Q, CaP 176 [.ref B, .int 0] Mc Q = Q (Mc, .inl (some (.int (ocO (upd r' n v1) (upd u' n v2) 4)))) := fun Q => by
      have := @w176_ok B 0 _ Mc _ Q wc.1 (fun Q => d50 wc)
      rw [hrc, huc] at this
      exact this
    have k6 : ∀ a, B + 20 ≤ a → mI Mc a = mI Mb a := fun a ha => by rw [hMc, mI_stI, va_up_ap, if_neg (by omega), mI_stI, va_up_ap, if_neg (by omega)]
    simp [lv_args, sStep, amStep, a_nx, a_ii, a_jj, a_ji, a_ld, a_st, a_if, a_ald, a_c1, a_c2, lkp, lput, lput2, lins, oP_none, oP_next, oP_call, oP_ret, oP_thr, outP_ite, aft_ret, aft_void, aft_thr, fHnd, List.isEmpty_nil, List.filter_cons, List.filter_nil, Value.category, csum, List.map_cons, List.map_nil, List.sum_cons, List.sum_nil, List.cons_append, List.nil_append, Option.toList, vp_nar_int, narrow_b1, narrow_b0, nc115, vc115, fc115, nc111, vc111, fc111, nc100, vc100, fc100, nc109, vc109, fc109, nc120, vc120, fc120, nc119, vc119, fc119, nc116, vc116, fc116, nc45, vc45, fc45, nc32, vc32, fc32, nc102, vc102, fc102, nc106, vc106, fc106, fin3, rf_some, rf_none, upd_ap, va_up_ap, nar_bi, fits_bi, nvp_bi, bi_t, bi_f, fval, fty, ftabs, wrv_0, wrv_1, wrv_2, wrv_3, wrv_5, mT_stI, mI_stI, mL_stI, mD_stI, mR_stI, mN_stI, mS_stI, mT_stL, mI_stL, mL_stL, mD_stL, mR_stL, mN_stL, mS_stL, mT_stD, mI_stD, mL_stD, mD_stD, mR_stD, mN_stD, mS_stD, mT_stR, mI_stR, mL_stR, mD_stR, mR_stR, mN_stR, mS_stR, mT_stN, mI_stN, mL_stN, mD_stN, mR_stN, mN_stN, mS_stN, e190_580, e190_581, e190_582, e190_584, e190_586, e190_588, e190_589, e190_590, e190_591, e190_593, e190_595, e190_596, e190_597, e190_598, e190_601, e190_603, e190_605, e190_607, e190_608, e190_609, e190_612, e190_615, e190_616, e190_619, e190_620, e190_621, e190_623, e190_626, rt190, hn190, nI_a1, k2.1, inb_nI hn, nI_clamp (show n < 2 ^ 31 by omega), kp4, kp5, ib02, ib12, ic0, ic1, k4, k5, cl175, x1, cl176, x2, nI_1]
    refine EvP_drop [(0, .ref b), (1, .ref B), (4, .int 1), (6, .ref (B + 26)), (8, .ref (B + 27)), (9, .int (nI (n + 1)))] (by simp [gdL]) (by simp) (kk _ ⟨upd r' n v1, upd u' n v2, fun j hj => ?_, ⟨l1, ?_, ?_, ?_, fun c hc => ?_⟩, ?_, fun j hj => ?_⟩)
    · rw [upd_ap, upd_ap]
      by_cases e : j = n
      · rw [if_pos e, if_pos e]; exact ⟨v1r, v2r⟩
      · rw [if_neg e, if_neg e]; exact hR j hj
    · rw [hMc, mN_stI, mN_stI, hMb, mN_stI, hMa, mN_stI]; exact i2
    · rw [hMc, mS_stI, mS_stI, hMb, mS_stI, hMa, mS_stI]; exact i3
    · rw [hMc, mT_stI, mT_stI, hMb, mT_stI, hMa, mT_stI]; exact i4
    · rw [k6 _ (by omega), k3 _ (by omega)]; exact i5 c hc
    · rw [hMc, PA_stI, PA_stI]; exact k2
    · rw [k6 _ (by omega), upd_ap, upd_ap]
      by_cases e : j = n
      · rw [if_pos e, if_pos e, e]; exact ⟨k4, k5⟩
      · rw [if_neg e, if_neg e, k3 _ (by omega)]; exact p3 j (by omega)
  · obtain ⟨r', u', hR, hQ, hPA, hPV⟩ := hI
    have n4 : (4 : Int32) ≤ nI 4 := Int32.le_refl 4
    rw [e190_532]
    simp [lv_args, sStep, amStep, a_nx, a_ii, a_jj, a_ji, a_ld, a_st, a_if, a_ald, a_c1, a_c2, lkp, lput, lput2, lins, oP_none, oP_next, oP_call, oP_ret, oP_thr, outP_ite, aft_ret, aft_void, aft_thr, fHnd, List.isEmpty_nil, List.filter_cons, List.filter_nil, Value.category, csum, List.map_cons, List.map_nil, List.sum_cons, List.sum_nil, List.cons_append, List.nil_append, Option.toList, vp_nar_int, narrow_b1, narrow_b0, nc115, vc115, fc115, nc111, vc111, fc111, nc100, vc100, fc100, nc109, vc109, fc109, nc120, vc120, fc120, nc119, vc119, fc119, nc116, vc116, fc116, nc45, vc45, fc45, nc32, vc32, fc32, nc102, vc102, fc102, nc106, vc106, fc106, fin3, rf_some, rf_none, upd_ap, va_up_ap, nar_bi, fits_bi, nvp_bi, bi_t, bi_f, fval, fty, ftabs, wrv_0, wrv_1, wrv_2, wrv_3, wrv_5, mT_stI, mI_stI, mL_stI, mD_stI, mR_stI, mN_stI, mS_stI, mT_stL, mI_stL, mL_stL, mD_stL, mR_stL, mN_stL, mS_stL, mT_stD, mI_stD, mL_stD, mD_stD, mR_stD, mN_stD, mS_stD, mT_stR, mI_stR, mL_stR, mD_stR, mR_stR, mN_stR, mS_stR, mT_stN, mI_stN, mL_stN, mD_stN, mR_stN, mN_stN, mS_stN, e190_534, e190_535, e190_538, e190_540, e190_542, e190_543, e190_544, e190_545, e190_547, e190_549, e190_550, e190_552, e190_555, e190_557, e190_558, e190_559, e190_561, e190_563, e190_564, e190_565, e190_566, e190_568, e190_570, e190_571, e190_573, e190_576, e190_578, e190_579, e190_580, e190_581, e190_582, e190_584, e190_586, e190_588, e190_589, e190_590, e190_591, e190_593, e190_595, e190_596, e190_597, e190_598, e190_601, e190_603, e190_605, e190_607, e190_608, e190_609, e190_612, e190_615, e190_616, e190_619, e190_620, e190_621, e190_623, e190_626, rt190, hn190, nI_a1, n4]
    exact EvP_drop [(0, .ref b), (1, .ref B), (4, .int 1), (6, .ref (B + 26)), (8, .ref (B + 27))] (by simp [gdL]) (by simp) (k r' u' M' hR hQ hPA hPV)
theorem segH (hrg : RGs r u) (hA : PA B M) (hV : PV B 4 r u M) (k : EvP 190 786 [(0, .ref b), (1, .ref B), (4, .int 1), (6, .ref (B + 26)), (9, .int (offO r u 4))] [] M Q) :
    EvP 190 629 [(0, .ref b), (1, .ref B), (4, .int 1), (6, .ref (B + 26)), (8, .ref (B + 27))] [] M Q := by
  obtain ⟨p1, p2⟩ := hA
  have i4 : Int32.ofNat 4 = 4 := rfl
  have A1 : EvP 190 629 [(0, .ref b), (1, .ref B), (4, .int 1), (6, .ref (B + 26)), (8, .ref (B + 27))] [] M Q = EvP 190 644 [(0, .ref b), (1, .ref B), (4, .int 1), (6, .ref (B + 26)), (8, .ref (B + 27)), (9, .int 0), (10, .ref (B + 27)), (11, .int 4), (12, .int 0)] [] M Q := by
    simp [lv_args, sStep, amStep, a_nx, a_ii, a_jj, a_ji, a_ld, a_st, a_if, a_ald, a_c1, a_c2, lkp, lput, lput2, lins, oP_none, oP_next, oP_call, oP_ret, oP_thr, outP_ite, aft_ret, aft_void, aft_thr, fHnd, List.isEmpty_nil, List.filter_cons, List.filter_nil, Value.category, csum, List.map_cons, List.map_nil, List.sum_cons, List.sum_nil, List.cons_append, List.nil_append, Option.toList, vp_nar_int, narrow_b1, narrow_b0, nc115, vc115, fc115, nc111, vc111, fc111, nc100, vc100, fc100, nc109, vc109, fc109, nc120, vc120, fc120, nc119, vc119, fc119, nc116, vc116, fc116, nc45, vc45, fc45, nc32, vc32, fc32, nc102, vc102, fc102, nc106, vc106, fc106, fin3, rf_some, rf_none, upd_ap, va_up_ap, nar_bi, fits_bi, nvp_bi, bi_t, bi_f, fval, fty, ftabs, wrv_0, wrv_1, wrv_2, wrv_3, wrv_5, mT_stI, mI_stI, mL_stI, mD_stI, mR_stI, mN_stI, mS_stI, mT_stL, mI_stL, mL_stL, mD_stL, mR_stL, mN_stL, mS_stL, mT_stD, mI_stD, mL_stD, mD_stD, mR_stD, mN_stD, mS_stD, mT_stR, mI_stR, mL_stR, mD_stR, mR_stR, mN_stR, mS_stR, mT_stN, mI_stN, mL_stN, mD_stN, mR_stN, mN_stN, mS_stN, e190_629, e190_630, e190_632, e190_634, e190_636, e190_638, e190_639, e190_641, e190_642, rt190, hn190, nI_a1, p1, i4]
  rw [A1]
  refine loopK (m := 190) (pc := 644) (Q := Q) 4 (fun a => [(0, .ref b), (1, .ref B), (4, .int 1), (6, .ref (B + 26)), (8, .ref (B + 27)), (9, .int (offO r u a)), (10, .ref (B + 27)), (11, .int 4), (12, .int (nI a))]) (fun _ M' => M' = M) (fun a ha M' hM kk => ?_) (fun M' hM => ?_) M rfl
  · subst hM
    obtain ⟨p4, p5⟩ := p2 a ha
    obtain ⟨v1, v2⟩ := hV a ha
    obtain ⟨rg1, rg2⟩ := hrg a ha
    have A2 : EvP 190 644 [(0, .ref b), (1, .ref B), (4, .int 1), (6, .ref (B + 26)), (8, .ref (B + 27)), (9, .int (offO r u a)), (10, .ref (B + 27)), (11, .int 4), (12, .int (nI a))] [] M' Q = EvP 190 670 [(0, .ref b), (1, .ref B), (4, .int 1), (6, .ref (B + 26)), (8, .ref (B + 27)), (9, .int (offO r u a)), (10, .ref (B + 27)), (11, .int 4), (12, .int (nI a)), (13, .ref (B + 28 + a)), (14, .ref (B + 27)), (15, .int 4), (16, .int 0)] [] M' Q := by
      simp [lv_args, sStep, amStep, a_nx, a_ii, a_jj, a_ji, a_ld, a_st, a_if, a_ald, a_c1, a_c2, lkp, lput, lput2, lins, oP_none, oP_next, oP_call, oP_ret, oP_thr, outP_ite, aft_ret, aft_void, aft_thr, fHnd, List.isEmpty_nil, List.filter_cons, List.filter_nil, Value.category, csum, List.map_cons, List.map_nil, List.sum_cons, List.sum_nil, List.cons_append, List.nil_append, Option.toList, vp_nar_int, narrow_b1, narrow_b0, nc115, vc115, fc115, nc111, vc111, fc111, nc100, vc100, fc100, nc109, vc109, fc109, nc120, vc120, fc120, nc119, vc119, fc119, nc116, vc116, fc116, nc45, vc45, fc45, nc32, vc32, fc32, nc102, vc102, fc102, nc106, vc106, fc106, fin3, rf_some, rf_none, upd_ap, va_up_ap, nar_bi, fits_bi, nvp_bi, bi_t, bi_f, fval, fty, ftabs, wrv_0, wrv_1, wrv_2, wrv_3, wrv_5, mT_stI, mI_stI, mL_stI, mD_stI, mR_stI, mN_stI, mS_stI, mT_stL, mI_stL, mL_stL, mD_stL, mR_stL, mN_stL, mS_stL, mT_stD, mI_stD, mL_stD, mD_stD, mR_stD, mN_stD, mS_stD, mT_stR, mI_stR, mL_stR, mD_stR, mR_stR, mN_stR, mS_stR, mT_stN, mI_stN, mL_stN, mD_stN, mR_stN, mN_stN, mS_stN, e190_644, e190_646, e190_648, e190_651, e190_653, e190_655, e190_656, e190_658, e190_660, e190_662, e190_664, e190_665, e190_667, e190_668, rt190, hn190, nI_a1, ge4 ha, p1, i4, inb_nI ha, nI_clamp (show a < 2 ^ 31 by omega), p5]
    rw [A2]
    refine loopK (m := 190) (pc := 670) (Q := Q) 4 (fun j => [(0, .ref b), (1, .ref B), (4, .int 1), (6, .ref (B + 26)), (8, .ref (B + 27)), (9, .int (offI r u a (offO r u a) j)), (10, .ref (B + 27)), (11, .int 4), (12, .int (nI a)), (13, .ref (B + 28 + a)), (14, .ref (B + 27)), (15, .int 4), (16, .int (nI j))]) (fun _ M'' => M'' = M') (fun j hj M'' hM2 kk2 => ?_) (fun M'' hM2 => ?_) M' rfl
    · subst hM2
      obtain ⟨s4, s5⟩ := p2 j hj
      obtain ⟨y1, y2⟩ := hV j hj
      obtain ⟨sg1, sg2⟩ := hrg j hj
      obtain ⟨t1, t2⟩ := rg_amt rg1 sg1
      obtain ⟨t3, t4⟩ := rg_amt rg2 sg2
      have kk3 := kk2 M'' rfl
      have eo : offI r u a (offO r u a) (j + 1) = if amt (r a - r j) + amt (u a - u j) ≤ offI r u a (offO r u a) j then offI r u a (offO r u a) j else amt (r a - r j) + amt (u a - u j) := rfl
      rw [eo] at kk3
      generalize amt (r a - r j) = X at t1 t2 kk3
      generalize amt (u a - u j) = Y at t3 t4 kk3
      generalize offI r u a (offO r u a) j = Z at kk3 ⊢
      have A3 : EvP 190 670 [(0, .ref b), (1, .ref B), (4, .int 1), (6, .ref (B + 26)), (8, .ref (B + 27)), (9, .int Z), (10, .ref (B + 27)), (11, .int 4), (12, .int (nI a)), (13, .ref (B + 28 + a)), (14, .ref (B + 27)), (15, .int 4), (16, .int (nI j))] [] M'' Q = EvP 190 752 [(0, .ref b), (1, .ref B), (4, .int 1), (6, .ref (B + 26)), (8, .ref (B + 27)), (9, .int Z), (10, .ref (B + 27)), (11, .int 4), (12, .int (nI a)), (13, .ref (B + 28 + a)), (14, .ref (B + 27)), (15, .int 4), (16, .int (nI j)), (17, .ref (B + 28 + j)), (18, .int X), (19, .int Y)] [] M'' Q := by
        rw [e190_670]
        by_cases c1 : r a < r j <;> by_cases c2 : u a < u j
        · have u1 := t1 c1
          have u2 := t3 c2
          simp [lv_args, sStep, amStep, a_nx, a_ii, a_jj, a_ji, a_ld, a_st, a_if, a_ald, a_c1, a_c2, lkp, lput, lput2, lins, oP_none, oP_next, oP_call, oP_ret, oP_thr, outP_ite, aft_ret, aft_void, aft_thr, fHnd, List.isEmpty_nil, List.filter_cons, List.filter_nil, Value.category, csum, List.map_cons, List.map_nil, List.sum_cons, List.sum_nil, List.cons_append, List.nil_append, Option.toList, vp_nar_int, narrow_b1, narrow_b0, nc115, vc115, fc115, nc111, vc111, fc111, nc100, vc100, fc100, nc109, vc109, fc109, nc120, vc120, fc120, nc119, vc119, fc119, nc116, vc116, fc116, nc45, vc45, fc45, nc32, vc32, fc32, nc102, vc102, fc102, nc106, vc106, fc106, fin3, rf_some, rf_none, upd_ap, va_up_ap, nar_bi, fits_bi, nvp_bi, bi_t, bi_f, fval, fty, ftabs, wrv_0, wrv_1, wrv_2, wrv_3, wrv_5, mT_stI, mI_stI, mL_stI, mD_stI, mR_stI, mN_stI, mS_stI, mT_stL, mI_stL, mL_stL, mD_stL, mR_stL, mN_stL, mS_stL, mT_stD, mI_stD, mL_stD, mD_stD, mR_stD, mN_stD, mS_stD, mT_stR, mI_stR, mL_stR, mD_stR, mR_stR, mN_stR, mS_stR, mT_stN, mI_stN, mL_stN, mD_stN, mR_stN, mN_stN, mS_stN, e190_672, e190_674, e190_677, e190_679, e190_681, e190_682, e190_684, e190_686, e190_687, e190_688, e190_690, e190_691, e190_692, e190_695, e190_697, e190_698, e190_699, e190_701, e190_702, e190_703, e190_704, e190_707, e190_709, e190_710, e190_711, e190_713, e190_714, e190_715, e190_716, e190_718, e190_720, e190_721, e190_722, e190_724, e190_725, e190_726, e190_729, e190_731, e190_732, e190_733, e190_735, e190_736, e190_737, e190_738, e190_741, e190_743, e190_744, e190_745, e190_747, e190_748, e190_749, e190_750, rt190, hn190, nI_a1, ge4 hj, p1, inb_nI hj, nI_clamp (show j < 2 ^ 31 by omega), s4, s5, p4, ib02, ib12, ic0, ic1, v1, v2, y1, y2, Int32.not_le.mpr c1, Int32.not_le.mpr c2, u1, u2]
        · have u1 := t1 c1
          have u2 := t4 c2
          simp [lv_args, sStep, amStep, a_nx, a_ii, a_jj, a_ji, a_ld, a_st, a_if, a_ald, a_c1, a_c2, lkp, lput, lput2, lins, oP_none, oP_next, oP_call, oP_ret, oP_thr, outP_ite, aft_ret, aft_void, aft_thr, fHnd, List.isEmpty_nil, List.filter_cons, List.filter_nil, Value.category, csum, List.map_cons, List.map_nil, List.sum_cons, List.sum_nil, List.cons_append, List.nil_append, Option.toList, vp_nar_int, narrow_b1, narrow_b0, nc115, vc115, fc115, nc111, vc111, fc111, nc100, vc100, fc100, nc109, vc109, fc109, nc120, vc120, fc120, nc119, vc119, fc119, nc116, vc116, fc116, nc45, vc45, fc45, nc32, vc32, fc32, nc102, vc102, fc102, nc106, vc106, fc106, fin3, rf_some, rf_none, upd_ap, va_up_ap, nar_bi, fits_bi, nvp_bi, bi_t, bi_f, fval, fty, ftabs, wrv_0, wrv_1, wrv_2, wrv_3, wrv_5, mT_stI, mI_stI, mL_stI, mD_stI, mR_stI, mN_stI, mS_stI, mT_stL, mI_stL, mL_stL, mD_stL, mR_stL, mN_stL, mS_stL, mT_stD, mI_stD, mL_stD, mD_stD, mR_stD, mN_stD, mS_stD, mT_stR, mI_stR, mL_stR, mD_stR, mR_stR, mN_stR, mS_stR, mT_stN, mI_stN, mL_stN, mD_stN, mR_stN, mN_stN, mS_stN, e190_672, e190_674, e190_677, e190_679, e190_681, e190_682, e190_684, e190_686, e190_687, e190_688, e190_690, e190_691, e190_692, e190_695, e190_697, e190_698, e190_699, e190_701, e190_702, e190_703, e190_704, e190_707, e190_709, e190_710, e190_711, e190_713, e190_714, e190_715, e190_716, e190_718, e190_720, e190_721, e190_722, e190_724, e190_725, e190_726, e190_729, e190_731, e190_732, e190_733, e190_735, e190_736, e190_737, e190_738, e190_741, e190_743, e190_744, e190_745, e190_747, e190_748, e190_749, e190_750, rt190, hn190, nI_a1, ge4 hj, p1, inb_nI hj, nI_clamp (show j < 2 ^ 31 by omega), s4, s5, p4, ib02, ib12, ic0, ic1, v1, v2, y1, y2, Int32.not_le.mpr c1, Int32.not_lt.mp c2, u1, u2]
        · have u1 := t2 c1
          have u2 := t3 c2
          simp [lv_args, sStep, amStep, a_nx, a_ii, a_jj, a_ji, a_ld, a_st, a_if, a_ald, a_c1, a_c2, lkp, lput, lput2, lins, oP_none, oP_next, oP_call, oP_ret, oP_thr, outP_ite, aft_ret, aft_void, aft_thr, fHnd, List.isEmpty_nil, List.filter_cons, List.filter_nil, Value.category, csum, List.map_cons, List.map_nil, List.sum_cons, List.sum_nil, List.cons_append, List.nil_append, Option.toList, vp_nar_int, narrow_b1, narrow_b0, nc115, vc115, fc115, nc111, vc111, fc111, nc100, vc100, fc100, nc109, vc109, fc109, nc120, vc120, fc120, nc119, vc119, fc119, nc116, vc116, fc116, nc45, vc45, fc45, nc32, vc32, fc32, nc102, vc102, fc102, nc106, vc106, fc106, fin3, rf_some, rf_none, upd_ap, va_up_ap, nar_bi, fits_bi, nvp_bi, bi_t, bi_f, fval, fty, ftabs, wrv_0, wrv_1, wrv_2, wrv_3, wrv_5, mT_stI, mI_stI, mL_stI, mD_stI, mR_stI, mN_stI, mS_stI, mT_stL, mI_stL, mL_stL, mD_stL, mR_stL, mN_stL, mS_stL, mT_stD, mI_stD, mL_stD, mD_stD, mR_stD, mN_stD, mS_stD, mT_stR, mI_stR, mL_stR, mD_stR, mR_stR, mN_stR, mS_stR, mT_stN, mI_stN, mL_stN, mD_stN, mR_stN, mN_stN, mS_stN, e190_672, e190_674, e190_677, e190_679, e190_681, e190_682, e190_684, e190_686, e190_687, e190_688, e190_690, e190_691, e190_692, e190_695, e190_697, e190_698, e190_699, e190_701, e190_702, e190_703, e190_704, e190_707, e190_709, e190_710, e190_711, e190_713, e190_714, e190_715, e190_716, e190_718, e190_720, e190_721, e190_722, e190_724, e190_725, e190_726, e190_729, e190_731, e190_732, e190_733, e190_735, e190_736, e190_737, e190_738, e190_741, e190_743, e190_744, e190_745, e190_747, e190_748, e190_749, e190_750, rt190, hn190, nI_a1, ge4 hj, p1, inb_nI hj, nI_clamp (show j < 2 ^ 31 by omega), s4, s5, p4, ib02, ib12, ic0, ic1, v1, v2, y1, y2, Int32.not_lt.mp c1, Int32.not_le.mpr c2, u1, u2]
        · have u1 := t2 c1
          have u2 := t4 c2
          simp [lv_args, sStep, amStep, a_nx, a_ii, a_jj, a_ji, a_ld, a_st, a_if, a_ald, a_c1, a_c2, lkp, lput, lput2, lins, oP_none, oP_next, oP_call, oP_ret, oP_thr, outP_ite, aft_ret, aft_void, aft_thr, fHnd, List.isEmpty_nil, List.filter_cons, List.filter_nil, Value.category, csum, List.map_cons, List.map_nil, List.sum_cons, List.sum_nil, List.cons_append, List.nil_append, Option.toList, vp_nar_int, narrow_b1, narrow_b0, nc115, vc115, fc115, nc111, vc111, fc111, nc100, vc100, fc100, nc109, vc109, fc109, nc120, vc120, fc120, nc119, vc119, fc119, nc116, vc116, fc116, nc45, vc45, fc45, nc32, vc32, fc32, nc102, vc102, fc102, nc106, vc106, fc106, fin3, rf_some, rf_none, upd_ap, va_up_ap, nar_bi, fits_bi, nvp_bi, bi_t, bi_f, fval, fty, ftabs, wrv_0, wrv_1, wrv_2, wrv_3, wrv_5, mT_stI, mI_stI, mL_stI, mD_stI, mR_stI, mN_stI, mS_stI, mT_stL, mI_stL, mL_stL, mD_stL, mR_stL, mN_stL, mS_stL, mT_stD, mI_stD, mL_stD, mD_stD, mR_stD, mN_stD, mS_stD, mT_stR, mI_stR, mL_stR, mD_stR, mR_stR, mN_stR, mS_stR, mT_stN, mI_stN, mL_stN, mD_stN, mR_stN, mN_stN, mS_stN, e190_672, e190_674, e190_677, e190_679, e190_681, e190_682, e190_684, e190_686, e190_687, e190_688, e190_690, e190_691, e190_692, e190_695, e190_697, e190_698, e190_699, e190_701, e190_702, e190_703, e190_704, e190_707, e190_709, e190_710, e190_711, e190_713, e190_714, e190_715, e190_716, e190_718, e190_720, e190_721, e190_722, e190_724, e190_725, e190_726, e190_729, e190_731, e190_732, e190_733, e190_735, e190_736, e190_737, e190_738, e190_741, e190_743, e190_744, e190_745, e190_747, e190_748, e190_749, e190_750, rt190, hn190, nI_a1, ge4 hj, p1, inb_nI hj, nI_clamp (show j < 2 ^ 31 by omega), s4, s5, p4, ib02, ib12, ic0, ic1, v1, v2, y1, y2, Int32.not_lt.mp c1, Int32.not_lt.mp c2, u1, u2]
      rw [A3]
      by_cases c3 : X + Y ≤ Z
      · rw [if_pos c3] at kk3
        simp [lv_args, sStep, amStep, a_nx, a_ii, a_jj, a_ji, a_ld, a_st, a_if, a_ald, a_c1, a_c2, lkp, lput, lput2, lins, oP_none, oP_next, oP_call, oP_ret, oP_thr, outP_ite, aft_ret, aft_void, aft_thr, fHnd, List.isEmpty_nil, List.filter_cons, List.filter_nil, Value.category, csum, List.map_cons, List.map_nil, List.sum_cons, List.sum_nil, List.cons_append, List.nil_append, Option.toList, vp_nar_int, narrow_b1, narrow_b0, nc115, vc115, fc115, nc111, vc111, fc111, nc100, vc100, fc100, nc109, vc109, fc109, nc120, vc120, fc120, nc119, vc119, fc119, nc116, vc116, fc116, nc45, vc45, fc45, nc32, vc32, fc32, nc102, vc102, fc102, nc106, vc106, fc106, fin3, rf_some, rf_none, upd_ap, va_up_ap, nar_bi, fits_bi, nvp_bi, bi_t, bi_f, fval, fty, ftabs, wrv_0, wrv_1, wrv_2, wrv_3, wrv_5, mT_stI, mI_stI, mL_stI, mD_stI, mR_stI, mN_stI, mS_stI, mT_stL, mI_stL, mL_stL, mD_stL, mR_stL, mN_stL, mS_stL, mT_stD, mI_stD, mL_stD, mD_stD, mR_stD, mN_stD, mS_stD, mT_stR, mI_stR, mL_stR, mD_stR, mR_stR, mN_stR, mS_stR, mT_stN, mI_stN, mL_stN, mD_stN, mR_stN, mN_stN, mS_stN, e190_752, e190_754, e190_756, e190_757, e190_759, e190_762, e190_764, e190_766, e190_767, e190_770, e190_772, e190_774, e190_777, rt190, hn190, nI_a1, c3, nI_1]
        exact EvP_drop _ (by simp [gdL]) (by simp) kk3
      · rw [if_neg c3] at kk3
        simp [lv_args, sStep, amStep, a_nx, a_ii, a_jj, a_ji, a_ld, a_st, a_if, a_ald, a_c1, a_c2, lkp, lput, lput2, lins, oP_none, oP_next, oP_call, oP_ret, oP_thr, outP_ite, aft_ret, aft_void, aft_thr, fHnd, List.isEmpty_nil, List.filter_cons, List.filter_nil, Value.category, csum, List.map_cons, List.map_nil, List.sum_cons, List.sum_nil, List.cons_append, List.nil_append, Option.toList, vp_nar_int, narrow_b1, narrow_b0, nc115, vc115, fc115, nc111, vc111, fc111, nc100, vc100, fc100, nc109, vc109, fc109, nc120, vc120, fc120, nc119, vc119, fc119, nc116, vc116, fc116, nc45, vc45, fc45, nc32, vc32, fc32, nc102, vc102, fc102, nc106, vc106, fc106, fin3, rf_some, rf_none, upd_ap, va_up_ap, nar_bi, fits_bi, nvp_bi, bi_t, bi_f, fval, fty, ftabs, wrv_0, wrv_1, wrv_2, wrv_3, wrv_5, mT_stI, mI_stI, mL_stI, mD_stI, mR_stI, mN_stI, mS_stI, mT_stL, mI_stL, mL_stL, mD_stL, mR_stL, mN_stL, mS_stL, mT_stD, mI_stD, mL_stD, mD_stD, mR_stD, mN_stD, mS_stD, mT_stR, mI_stR, mL_stR, mD_stR, mR_stR, mN_stR, mS_stR, mT_stN, mI_stN, mL_stN, mD_stN, mR_stN, mN_stN, mS_stN, e190_752, e190_754, e190_756, e190_757, e190_759, e190_762, e190_764, e190_766, e190_767, e190_770, e190_772, e190_774, e190_777, rt190, hn190, nI_a1, c3, nI_1]
        exact EvP_drop _ (by simp [gdL]) (by simp) kk3
    · subst hM2
      rw [e190_670]
      have n4 : (4 : Int32) ≤ nI 4 := Int32.le_refl 4
      simp [lv_args, sStep, amStep, a_nx, a_ii, a_jj, a_ji, a_ld, a_st, a_if, a_ald, a_c1, a_c2, lkp, lput, lput2, lins, oP_none, oP_next, oP_call, oP_ret, oP_thr, outP_ite, aft_ret, aft_void, aft_thr, fHnd, List.isEmpty_nil, List.filter_cons, List.filter_nil, Value.category, csum, List.map_cons, List.map_nil, List.sum_cons, List.sum_nil, List.cons_append, List.nil_append, Option.toList, vp_nar_int, narrow_b1, narrow_b0, nc115, vc115, fc115, nc111, vc111, fc111, nc100, vc100, fc100, nc109, vc109, fc109, nc120, vc120, fc120, nc119, vc119, fc119, nc116, vc116, fc116, nc45, vc45, fc45, nc32, vc32, fc32, nc102, vc102, fc102, nc106, vc106, fc106, fin3, rf_some, rf_none, upd_ap, va_up_ap, nar_bi, fits_bi, nvp_bi, bi_t, bi_f, fval, fty, ftabs, wrv_0, wrv_1, wrv_2, wrv_3, wrv_5, mT_stI, mI_stI, mL_stI, mD_stI, mR_stI, mN_stI, mS_stI, mT_stL, mI_stL, mL_stL, mD_stL, mR_stL, mN_stL, mS_stL, mT_stD, mI_stD, mL_stD, mD_stD, mR_stD, mN_stD, mS_stD, mT_stR, mI_stR, mL_stR, mD_stR, mR_stR, mN_stR, mS_stR, mT_stN, mI_stN, mL_stN, mD_stN, mR_stN, mN_stN, mS_stN, e190_672, e190_674, e190_677, e190_679, e190_681, e190_682, e190_684, e190_686, e190_687, e190_688, e190_690, e190_691, e190_692, e190_695, e190_697, e190_698, e190_699, e190_701, e190_702, e190_703, e190_704, e190_707, e190_709, e190_710, e190_711, e190_713, e190_714, e190_715, e190_716, e190_718, e190_720, e190_721, e190_722, e190_724, e190_725, e190_726, e190_729, e190_731, e190_732, e190_733, e190_735, e190_736, e190_737, e190_738, e190_741, e190_743, e190_744, e190_745, e190_747, e190_748, e190_749, e190_750, e190_752, e190_754, e190_756, e190_757, e190_759, e190_762, e190_764, e190_766, e190_767, e190_770, e190_772, e190_774, e190_777, e190_780, e190_783, rt190, hn190, nI_a1, n4, nI_1]
      exact EvP_drop [(0, .ref b), (1, .ref B), (4, .int 1), (6, .ref (B + 26)), (8, .ref (B + 27)), (9, .int (offO r u (a + 1))), (10, .ref (B + 27)), (11, .int 4), (12, .int (nI (a + 1)))] (by simp [gdL]) (by simp [offO]) (kk M'' rfl)
  · subst hM
    rw [e190_644]
    have n4 : (4 : Int32) ≤ nI 4 := Int32.le_refl 4
    simp [lv_args, sStep, amStep, a_nx, a_ii, a_jj, a_ji, a_ld, a_st, a_if, a_ald, a_c1, a_c2, lkp, lput, lput2, lins, oP_none, oP_next, oP_call, oP_ret, oP_thr, outP_ite, aft_ret, aft_void, aft_thr, fHnd, List.isEmpty_nil, List.filter_cons, List.filter_nil, Value.category, csum, List.map_cons, List.map_nil, List.sum_cons, List.sum_nil, List.cons_append, List.nil_append, Option.toList, vp_nar_int, narrow_b1, narrow_b0, nc115, vc115, fc115, nc111, vc111, fc111, nc100, vc100, fc100, nc109, vc109, fc109, nc120, vc120, fc120, nc119, vc119, fc119, nc116, vc116, fc116, nc45, vc45, fc45, nc32, vc32, fc32, nc102, vc102, fc102, nc106, vc106, fc106, fin3, rf_some, rf_none, upd_ap, va_up_ap, nar_bi, fits_bi, nvp_bi, bi_t, bi_f, fval, fty, ftabs, wrv_0, wrv_1, wrv_2, wrv_3, wrv_5, mT_stI, mI_stI, mL_stI, mD_stI, mR_stI, mN_stI, mS_stI, mT_stL, mI_stL, mL_stL, mD_stL, mR_stL, mN_stL, mS_stL, mT_stD, mI_stD, mL_stD, mD_stD, mR_stD, mN_stD, mS_stD, mT_stR, mI_stR, mL_stR, mD_stR, mR_stR, mN_stR, mS_stR, mT_stN, mI_stN, mL_stN, mD_stN, mR_stN, mN_stN, mS_stN, e190_646, e190_648, e190_651, e190_653, e190_655, e190_656, e190_658, e190_660, e190_662, e190_664, e190_665, e190_667, e190_668, e190_670, e190_672, e190_674, e190_677, e190_679, e190_681, e190_682, e190_684, e190_686, e190_687, e190_688, e190_690, e190_691, e190_692, e190_695, e190_697, e190_698, e190_699, e190_701, e190_702, e190_703, e190_704, e190_707, e190_709, e190_710, e190_711, e190_713, e190_714, e190_715, e190_716, e190_718, e190_720, e190_721, e190_722, e190_724, e190_725, e190_726, e190_729, e190_731, e190_732, e190_733, e190_735, e190_736, e190_737, e190_738, e190_741, e190_743, e190_744, e190_745, e190_747, e190_748, e190_749, e190_750, e190_752, e190_754, e190_756, e190_757, e190_759, e190_762, e190_764, e190_766, e190_767, e190_770, e190_772, e190_774, e190_777, e190_780, e190_783, rt190, hn190, nI_a1, n4]
    exact EvP_drop [(0, .ref b), (1, .ref B), (4, .int 1), (6, .ref (B + 26)), (9, .int (offO r u 4))] (by simp [gdL]) (by simp) k
/-- the rows of piles -/
def PZ (B : Nat) (M : AMem) : Prop := mT M (B + 35) = (108, 54) ∧ ∀ c, c < 54 → mT M (B + 36 + c) = (100, 2) ∧ mR M (B + 35) c = some (B + 36 + c)
theorem PZ_stI {B a : Nat} {M : AMem} {f : Nat → Int32} : PZ B (stI M a f) = PZ B M := of_eq_true (eq_true rfl)
theorem PZ_N {k n sl : Nat} (h : PZ B M) (hN : B + 90 ≤ mN M) : PZ B (stN M k n sl) := by
  obtain ⟨h1, h2⟩ := h
  refine ⟨by rw [mT_stN, va_up_ap, if_neg (by omega)]; exact h1, fun c hc => ⟨?_, ?_⟩⟩
  · rw [mT_stN, va_up_ap, if_neg (by omega)]; exact (h2 c hc).1
  · rw [mR_stN, va_up_ap, if_neg (by omega)]; exact (h2 c hc).2
theorem segI {S : Nat} (hb : b < B) (hrg : RGs r u) (h : LQq b B L xs R C o P T r u pl mk T (B + 32) S M) (k : ∀ M', LQq b B L xs R C o P T r u pl mk T (B + 90) (S + 180) M' → PZ B M' → (∀ c, c < 54 → mI M' (B + 36 + c) = fun _ => 0) → EvP 190 865 [(0, .ref b), (1, .ref B), (4, .int 1), (6, .ref (B + 26)), (9, .int (ocO r u 4)), (10, .ref (B + 35)), (11, .int 0), (12, .int 10), (13, .int 0), (14, .int 0)] [] M' Q) :
    EvP 190 786 [(0, .ref b), (1, .ref B), (4, .int 1), (6, .ref (B + 26)), (9, .int (offO r u 4))] [] M Q := by
  rw [← off_oc (fun k hk => rg_40 (hrg k hk).1) (fun k hk => rg_40 (hrg k hk).2)]
  obtain ⟨g1, g2, g3, g4, g5⟩ := h
  obtain ⟨⟨w, -⟩, -, -, -, -, -, hr', hu'⟩ := id g1
  have x1 : ∀ Q, CaP 176 [.ref B, .int 0] M Q = Q (M, .inl (some (.int (ocO r u 4)))) := fun Q => by
    have := @w176_ok B 0 _ M _ Q w.1 (fun Q => d50 w)
    rw [hr', hu'] at this
    exact this
  have w2 : WS B (stN M 0 0 6) := WS_N w
  have w3 : WS B (stN (stN M 0 0 6) 0 0 6) := WS_N w2
  have x2 := fun Q => @w175_t0 B 0 4 0 0 M _ Q w.1 (fun Q => d49x w)
  have x3 := fun Q => @w175_t0 B 0 0 41 0 (stN M 0 0 6) _ Q w2.1 (fun Q => d49y w2)
  have x4 := fun Q => @w176_t2 B 1 (stN (stN M 0 0 6) 0 0 6) _ Q w3.1 (fun Q => d50x w3)
  have A1 : EvP 190 786 [(0, .ref b), (1, .ref B), (4, .int 1), (6, .ref (B + 26)), (9, .int (ocO r u 4))] [] M Q = EvP 190 843 [(0, .ref b), (1, .ref B), (4, .int 1), (6, .ref (B + 26)), (9, .int (ocO r u 4))] [] (stN (stN (stN M 0 0 6) 0 0 6) 0 0 6) Q := by
    simp [lv_args, sStep, amStep, a_nx, a_ii, a_jj, a_ji, a_ld, a_st, a_if, a_ald, a_c1, a_c2, lkp, lput, lput2, lins, oP_none, oP_next, oP_call, oP_ret, oP_thr, outP_ite, aft_ret, aft_void, aft_thr, fHnd, List.isEmpty_nil, List.filter_cons, List.filter_nil, Value.category, csum, List.map_cons, List.map_nil, List.sum_cons, List.sum_nil, List.cons_append, List.nil_append, Option.toList, vp_nar_int, narrow_b1, narrow_b0, nc115, vc115, fc115, nc111, vc111, fc111, nc100, vc100, fc100, nc109, vc109, fc109, nc120, vc120, fc120, nc119, vc119, fc119, nc116, vc116, fc116, nc45, vc45, fc45, nc32, vc32, fc32, nc102, vc102, fc102, nc106, vc106, fc106, fin3, rf_some, rf_none, upd_ap, va_up_ap, nar_bi, fits_bi, nvp_bi, bi_t, bi_f, fval, fty, ftabs, wrv_0, wrv_1, wrv_2, wrv_3, wrv_5, mT_stI, mI_stI, mL_stI, mD_stI, mR_stI, mN_stI, mS_stI, mT_stL, mI_stL, mL_stL, mD_stL, mR_stL, mN_stL, mS_stL, mT_stD, mI_stD, mL_stD, mD_stD, mR_stD, mN_stD, mS_stD, mT_stR, mI_stR, mL_stR, mD_stR, mR_stR, mN_stR, mS_stR, mT_stN, mI_stN, mL_stN, mD_stN, mR_stN, mN_stN, mS_stN, e190_786, e190_788, e190_789, e190_790, e190_793, e190_795, e190_798, e190_799, e190_800, e190_801, e190_802, e190_803, e190_806, e190_808, e190_811, e190_812, e190_813, e190_814, e190_816, e190_817, e190_820, e190_822, e190_825, e190_826, e190_827, e190_830, e190_832, e190_835, e190_836, e190_839, e190_840, e190_841, rt190, hn190, nI_a1, cl176, x1, cl175, x2, x3, x4, jv1, jv2]
  rw [A1]
  obtain ⟨M3, hM3⟩ : ∃ M3, M3 = stN (stN (stN M 0 0 6) 0 0 6) 0 0 6 := ⟨_, rfl⟩
  rw [← hM3]
  have n3 : mN M3 = B + 35 := by rw [hM3]; simp only [mN_stN, g2]
  have s3 : mS M3 = mS M + 18 := by rw [hM3]; simp only [mS_stN, Nat.add_assoc]
  have l3 : LB b B L xs R C o P T r u pl mk M3 := by rw [hM3]; exact LB_N (LB_N (LB_N g1 hb) hb) hb
  have e3 : mT M3 (B + 26) = mT M (B + 26) ∧ mI M3 (B + 26) = mI M (B + 26) := by
    rw [hM3]
    simp only [mT_stN, mI_stN, mN_stN, va_up_ap, g2]
    rw [if_neg (by omega), if_neg (by omega), if_neg (by omega), if_neg (by omega), if_neg (by omega), if_neg (by omega)]
    exact ⟨rfl, rfl⟩
  have A2 : EvP 190 843 [(0, .ref b), (1, .ref B), (4, .int 1), (6, .ref (B + 26)), (9, .int (ocO r u 4))] [] M3 Q = EvP 190 865 [(0, .ref b), (1, .ref B), (4, .int 1), (6, .ref (B + 26)), (9, .int (ocO r u 4)), (10, .ref (B + 35)), (11, .int 0), (12, .int 10), (13, .int 0), (14, .int 0)] [] (stM M3 54 2 54) Q := by
    simp [lv_args, sStep, amStep, a_nx, a_ii, a_jj, a_ji, a_ld, a_st, a_if, a_ald, a_c1, a_c2, lkp, lput, lput2, lins, oP_none, oP_next, oP_call, oP_ret, oP_thr, outP_ite, aft_ret, aft_void, aft_thr, fHnd, List.isEmpty_nil, List.filter_cons, List.filter_nil, Value.category, csum, List.map_cons, List.map_nil, List.sum_cons, List.sum_nil, List.cons_append, List.nil_append, Option.toList, vp_nar_int, narrow_b1, narrow_b0, nc115, vc115, fc115, nc111, vc111, fc111, nc100, vc100, fc100, nc109, vc109, fc109, nc120, vc120, fc120, nc119, vc119, fc119, nc116, vc116, fc116, nc45, vc45, fc45, nc32, vc32, fc32, nc102, vc102, fc102, nc106, vc106, fc106, fin3, rf_some, rf_none, upd_ap, va_up_ap, nar_bi, fits_bi, nvp_bi, bi_t, bi_f, fval, fty, ftabs, wrv_0, wrv_1, wrv_2, wrv_3, wrv_5, mT_stI, mI_stI, mL_stI, mD_stI, mR_stI, mN_stI, mS_stI, mT_stL, mI_stL, mL_stL, mD_stL, mR_stL, mN_stL, mS_stL, mT_stD, mI_stD, mL_stD, mD_stD, mR_stD, mN_stD, mS_stD, mT_stR, mI_stR, mL_stR, mD_stR, mR_stR, mN_stR, mS_stR, mT_stN, mI_stN, mL_stN, mD_stN, mR_stN, mN_stN, mS_stN, e190_843, e190_845, e190_846, e190_850, e190_852, e190_853, e190_855, e190_857, e190_859, e190_860, e190_862, e190_863, rt190, hn190, nI_a1, ia54, ic54, ia2, ic2, n3]
  rw [A2]
  obtain ⟨f1, f2, f3⟩ := stM_facts M3 54 2 54
  have f4 := stM_old M3 54 2 54
  obtain ⟨f5, f6⟩ := stM_in M3 54 2 54
  have hM1 := @LB_M b B L R C xs M3 o P T r u pl mk 54 2 l3 hb 54
  generalize stM M3 54 2 54 = M4 at f1 f2 f3 f4 f5 f6 hM1 ⊢
  rw [n3] at f1 f3 f4 f5 f6
  refine k M4 ⟨hM1, by omega, by omega, by rw [(f4 _ (by omega)).1, e3.1]; exact g4, fun c hc => by rw [(f4 _ (by omega)).2.1, e3.2]; exact g5 c hc⟩ ⟨f3, fun j hj => ⟨(f5 j hj).1, f6 j hj⟩⟩ (fun c hc => (f5 c hc).2)
end LE
