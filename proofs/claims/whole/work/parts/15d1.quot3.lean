/-! ===== the law's two quotients ===== -/
theorem ca40 {B s L i : Nat} {T : ALs} {M : AMem} (hI : Inv B s L M) (hi : i + 5 ≤ L) (hL : L ≤ 2560) (hT : tl T) : CA B s L i 2556 T M := by
  obtain ⟨ns, np, no, nl, p, q, o, h⟩ := hI
  have h0 := INV_ST h
  have hsB := h.1.1.2.1
  obtain ⟨e3, e4, e5⟩ := iv_3 h
  obtain ⟨-, -, ⟨a5, a6⟩, -⟩ := h.2.1
  have hr := h.1.2.1.2.2
  have hq : ∀ i, i < no → mT M (o i) = (3, 0) := fun i hi => (iv_ro h hi).2.2
  by_cases ha : sumF (fun c => mI M (B + 20) c + mI M (B + 21) c) 54 = 0
  · have hc : ∀ Q, CaP 84 [.ref B] M Q = Q (stN M 0 0 6, .inr 4) := fun Q => sp84x h0 (by rw [e3, e4]; exact ha)
    have i2 := @INV_stN B s L 0 0 6 M ns np no nl p q o h
    have hN := ad_N h.1
    have qk : ∀ k, k < 45 → mI (stN M 0 0 6) (B + k) = mI M (B + k) := fun k hk => by rw [mI_stN, va_up_ap, if_neg (by omega)]
    have hw := fun Q => w203_t4 (Q := Q) h0 hc
    have hm := fun Q => sp165x (B := B) (M := stN M 0 0 6) (Q := Q) (INV_ST i2) (by rw [qk 20 (by decide), qk 21 (by decide)]; exact ha)
    have t2 := tT14 (INV_ST i2)
    have t3 : mT (thr B (stN M 0 0 6) 1) (B + 14) = (9, 0) := t2
    have h36 : mI (thr B (stN M 0 0 6) 1) (B + 14) 36 = 1 := thr_36
    have s104 := fun Q => sp104 (a := B + 14) (M := thr B (stN M 0 0 6) 1) (Q := Q) (by show (mT (stN M 0 0 6) (B + 14)).1 = 9; rw [t2])
    refine ⟨thr B (stN M 0 0 6) 1, [(6, .int 1), (7, .float FP.fconst0)], ⟨⟨ns, np, no, nl, p, q, o, INV_thr i2⟩, Nat.le_trans (Nat.le_of_eq (show _ = mN M + 1 from rfl)) (by omega), Nat.le_trans (Nat.le_of_eq (show _ = mS M + 6 from rfl)) (by omega)⟩, Or.inr ⟨_, _, rfl⟩, fun Q => ?_⟩
    simp only [LL, List.cons_append, List.nil_append]
    rcases hT with rfl | ⟨v, w, rfl⟩ <;>
    simp [lv_args, sStep, amStep, a_nx, a_ii, a_jj, a_ji, a_ld, a_st, a_if, a_ald, a_c1, a_c2, lkp, lput, lput2, lins, oP_none, oP_next, oP_call, oP_ret, oP_thr, outP_ite, aft_ret, aft_void, aft_thr, fHnd, List.isEmpty_nil, List.filter_cons, List.filter_nil, Value.category, csum, List.map_cons, List.map_nil, List.sum_cons, List.sum_nil, List.cons_append, List.nil_append, Option.toList, vp_nar_int, narrow_b1, narrow_b0, nc115, vc115, fc115, nc111, vc111, fc111, nc100, vc100, fc100, nc109, vc109, fc109, nc120, vc120, fc120, nc119, vc119, fc119, nc116, vc116, fc116, nc45, vc45, fc45, nc32, vc32, fc32, nc102, vc102, fc102, nc106, vc106, fc106, fin3, rf_some, rf_none, upd_ap, va_up_ap, nar_bi, fits_bi, nvp_bi, bi_t, bi_f, fval, fty, ftabs, wrv_0, wrv_1, wrv_2, wrv_3, wrv_5, mT_stI, mI_stI, mL_stI, mD_stI, mR_stI, mN_stI, mS_stI, mT_stL, mI_stL, mL_stL, mD_stL, mR_stL, mN_stL, mS_stL, mT_stD, mI_stD, mL_stD, mD_stD, mR_stD, mN_stD, mS_stD, mT_stR, mI_stR, mL_stR, mD_stR, mR_stR, mN_stR, mS_stR, mT_stN, mI_stN, mL_stN, mD_stN, mR_stN, mN_stN, mS_stN, e205_2556, e205_2557, e205_2559, e205_2562, e205_2564, e205_2565, e205_2568, e205_2570, e205_2571, e205_2574, e205_2576, e205_2579, e205_2580, e205_2581, e205_2583, e205_2586, e205_2588, e205_2589, e205_2590, e205_2592, e205_2593, e205_2594, e205_2597, e205_2599, e205_2600, e205_2601, e205_2603, e205_2604, e205_2605, e205_2606, e205_2609, e205_2611, e205_2613, e205_2614, e205_2617, e205_2618, e205_2619, rt205, cl203, cl165, cl104, tT14 h0, tT44 h0, inb01, hw, hm, t2, t3, s104, h36]
  · have hx := q32 (a := sumF (mI M (B + 20)) 54) ha
    have hc : ∀ Q, CaP 84 [.ref B] M Q = Q (M, .inl (some (.float (FP.fdiv (FP.i2f (sumF (mI M (B + 20)) 54)) (FP.i2f (sumF (fun c => mI M (B + 20) c + mI M (B + 21) c) 54)))))) := fun Q => by
      rw [sp84 h0 (by rw [e3, e4]; exact ha), e3, e4]
    have hy := w32 hx
    have hw := fun Q => w203_ok (Q := Q) h0 hc hx
    generalize hX : FP.fdiv (FP.i2f (sumF (mI M (B + 20)) 54)) (FP.i2f (sumF (fun c => mI M (B + 20) c + mI M (B + 21) c) 54)) = X at hc hw hx hy
    have hS : ST B (stD M (B + 44) (va_up (mD M (B + 44)) 0 (FP.f2d X))) := by rw [ST_stD]; exact h0
    have hm := fun Q => sp165 (B := B) (M := stD M (B + 44) (va_up (mD M (B + 44)) 0 (FP.f2d X))) (Q := Q) hS (by rw [mI_stD]; exact ha) (by rw [mI_stD, hX]; exact le32 hx)
    rw [mI_stD, hX] at hm
    have dc := dc_self hy
    generalize hM1 : stD M (B + 44) (va_up (mD M (B + 44)) 0 (FP.f2d X)) = M1 at hw hS hm
    have hD : mD M1 (B + 44) 0 = FP.f2d X := by rw [← hM1, mD_stD, va_up_ap, if_pos rfl, va_up_ap, if_pos rfl]
    have hInv : INV B s L M1 ns np no nl p q o := by rw [← hM1]; exact INV_stD h
    have hN1 : mN M1 = mN M := by rw [← hM1, mN_stD]
    have hS1 : mS M1 = mS M := by rw [← hM1, mS_stD]
    have h36 : mI (thr B M1 0) (B + 14) 36 = 0 := thr_36
    have hDt : mD (thr B M1 0) = mD M1 := rfl
    have hTt : mT (thr B M1 0) = mT M1 := rfl
    have s104 := fun Q => sp104 (a := B + 14) (M := thr B M1 0) (Q := Q) (by rw [hTt, tT14 hS])
    refine ⟨thr B M1 0, [(6, .int 0), (7, .float X)], ⟨⟨ns, np, no, nl, p, q, o, INV_thr hInv⟩, Nat.le_trans (Nat.le_of_eq (show _ = mN M1 from rfl)) (by omega), Nat.le_trans (Nat.le_of_eq (show _ = mS M1 from rfl)) (by omega)⟩, Or.inr ⟨_, _, rfl⟩, fun Q => ?_⟩
    simp only [LL, List.cons_append, List.nil_append]
    rcases hT with rfl | ⟨v, w, rfl⟩ <;>
    simp [lv_args, sStep, amStep, a_nx, a_ii, a_jj, a_ji, a_ld, a_st, a_if, a_ald, a_c1, a_c2, lkp, lput, lput2, lins, oP_none, oP_next, oP_call, oP_ret, oP_thr, outP_ite, aft_ret, aft_void, aft_thr, fHnd, List.isEmpty_nil, List.filter_cons, List.filter_nil, Value.category, csum, List.map_cons, List.map_nil, List.sum_cons, List.sum_nil, List.cons_append, List.nil_append, Option.toList, vp_nar_int, narrow_b1, narrow_b0, nc115, vc115, fc115, nc111, vc111, fc111, nc100, vc100, fc100, nc109, vc109, fc109, nc120, vc120, fc120, nc119, vc119, fc119, nc116, vc116, fc116, nc45, vc45, fc45, nc32, vc32, fc32, nc102, vc102, fc102, nc106, vc106, fc106, fin3, rf_some, rf_none, upd_ap, va_up_ap, nar_bi, fits_bi, nvp_bi, bi_t, bi_f, fval, fty, ftabs, wrv_0, wrv_1, wrv_2, wrv_3, wrv_5, mT_stI, mI_stI, mL_stI, mD_stI, mR_stI, mN_stI, mS_stI, mT_stL, mI_stL, mL_stL, mD_stL, mR_stL, mN_stL, mS_stL, mT_stD, mI_stD, mL_stD, mD_stD, mR_stD, mN_stD, mS_stD, mT_stR, mI_stR, mL_stR, mD_stR, mR_stR, mN_stR, mS_stR, mT_stN, mI_stN, mL_stN, mD_stN, mR_stN, mN_stN, mS_stN, e205_2556, e205_2557, e205_2559, e205_2562, e205_2564, e205_2565, e205_2568, e205_2570, e205_2571, e205_2574, e205_2576, e205_2579, e205_2580, e205_2581, e205_2583, e205_2586, e205_2588, e205_2589, e205_2590, e205_2592, e205_2593, e205_2594, e205_2597, e205_2599, e205_2600, e205_2601, e205_2603, e205_2604, e205_2605, e205_2606, e205_2609, e205_2611, e205_2613, e205_2614, e205_2617, e205_2618, e205_2619, rt205, cl203, cl165, cl104, tT14 h0, tT44 h0, inb01, hw, hm, tT14 hS, tT44 hS, s104, h36, hDt, hTt, hD, le64 hy, dc, Op.cmpValue]
theorem ca41 {B s L i : Nat} {T : ALs} {M : AMem} (hI : Inv B s L M) (hi : i + 5 ≤ L) (hL : L ≤ 2560) (hT : tl T) : CA B s L i 2622 T M := by
  obtain ⟨ns, np, no, nl, p, q, o, h⟩ := hI
  have h0 := INV_ST h
  have hsB := h.1.1.2.1
  obtain ⟨e3, e4, e5⟩ := iv_3 h
  obtain ⟨-, -, ⟨a5, a6⟩, -⟩ := h.2.1
  have hr := h.1.2.1.2.2
  have hq : ∀ i, i < no → mT M (o i) = (3, 0) := fun i hi => (iv_ro h hi).2.2
  by_cases ha : mI M (B + 14) 31 = 0
  · have hc : ∀ Q, CaP 85 [.ref B] M Q = Q (stN M 0 0 6, .inr 4) := fun Q => sp85x h0 hr hq (by rw [a5, ← a6]; exact ha)
    have i2 := @INV_stN B s L 0 0 6 M ns np no nl p q o h
    have hN := ad_N h.1
    have qk : ∀ k, k < 45 → mI (stN M 0 0 6) (B + k) = mI M (B + k) := fun k hk => by rw [mI_stN, va_up_ap, if_neg (by omega)]
    have hw := fun Q => w204_t4 (Q := Q) h0 hc
    have hm := fun Q => sp166x (B := B) (M := stN M 0 0 6) (Q := Q) (INV_ST i2) (by rw [qk 14 (by decide)]; exact ha)
    have t2 := tT14 (INV_ST i2)
    have t3 : mT (thr B (stN M 0 0 6) 1) (B + 14) = (9, 0) := t2
    have h36 : mI (thr B (stN M 0 0 6) 1) (B + 14) 36 = 1 := thr_36
    have s104 := fun Q => sp104 (a := B + 14) (M := thr B (stN M 0 0 6) 1) (Q := Q) (by show (mT (stN M 0 0 6) (B + 14)).1 = 9; rw [t2])
    refine ⟨thr B (stN M 0 0 6) 1, [(6, .int 1), (7, .double FP.dconst0)], ⟨⟨ns, np, no, nl, p, q, o, INV_thr i2⟩, Nat.le_trans (Nat.le_of_eq (show _ = mN M + 1 from rfl)) (by omega), Nat.le_trans (Nat.le_of_eq (show _ = mS M + 6 from rfl)) (by omega)⟩, Or.inr ⟨_, _, rfl⟩, fun Q => ?_⟩
    simp only [LL, List.cons_append, List.nil_append]
    rcases hT with rfl | ⟨v, w, rfl⟩ <;>
    simp [lv_args, sStep, amStep, a_nx, a_ii, a_jj, a_ji, a_ld, a_st, a_if, a_ald, a_c1, a_c2, lkp, lput, lput2, lins, oP_none, oP_next, oP_call, oP_ret, oP_thr, outP_ite, aft_ret, aft_void, aft_thr, fHnd, List.isEmpty_nil, List.filter_cons, List.filter_nil, Value.category, csum, List.map_cons, List.map_nil, List.sum_cons, List.sum_nil, List.cons_append, List.nil_append, Option.toList, vp_nar_int, narrow_b1, narrow_b0, nc115, vc115, fc115, nc111, vc111, fc111, nc100, vc100, fc100, nc109, vc109, fc109, nc120, vc120, fc120, nc119, vc119, fc119, nc116, vc116, fc116, nc45, vc45, fc45, nc32, vc32, fc32, nc102, vc102, fc102, nc106, vc106, fc106, fin3, rf_some, rf_none, upd_ap, va_up_ap, nar_bi, fits_bi, nvp_bi, bi_t, bi_f, fval, fty, ftabs, wrv_0, wrv_1, wrv_2, wrv_3, wrv_5, mT_stI, mI_stI, mL_stI, mD_stI, mR_stI, mN_stI, mS_stI, mT_stL, mI_stL, mL_stL, mD_stL, mR_stL, mN_stL, mS_stL, mT_stD, mI_stD, mL_stD, mD_stD, mR_stD, mN_stD, mS_stD, mT_stR, mI_stR, mL_stR, mD_stR, mR_stR, mN_stR, mS_stR, mT_stN, mI_stN, mL_stN, mD_stN, mR_stN, mN_stN, mS_stN, e205_2622, e205_2623, e205_2625, e205_2628, e205_2630, e205_2631, e205_2634, e205_2636, e205_2637, e205_2640, e205_2642, e205_2645, e205_2646, e205_2647, e205_2649, e205_2652, e205_2654, e205_2655, e205_2656, e205_2658, e205_2659, e205_2662, e205_2664, e205_2665, e205_2666, e205_2668, e205_2669, e205_2670, e205_2671, e205_2674, e205_2676, e205_2678, e205_2679, e205_2682, e205_2683, e205_2684, rt205, cl204, cl166, cl104, tT14 h0, tT44 h0, inb01, hw, hm, t2, t3, s104, h36]
  · have hn0 : ¬ nI no = 0 := fun e => ha (by rw [a6]; exact e)
    have hno : 0 < no := Nat.pos_of_ne_zero (fun e => hn0 (by rw [e]; rfl))
    have hx := q64 (a := sumF (mI M (B + 39)) no) hn0
    have hp : sumF (prC M no o) 12 = sumF (mI M (B + 39)) no := by
      rw [sumF_cut (iv_no h).2 (fun k h1 h2 => by unfold prC; rw [if_neg (by omega)])]
      refine sumF_ext no (fun k hk => ?_)
      obtain ⟨w, m, z, Kd, b, -, -, -, -, ⟨o3, o3'⟩, -⟩ := iv_OD h hk
      unfold prC
      rw [if_pos hk, o3, o3']
    have hc : ∀ Q, CaP 85 [.ref B] M Q = Q (M, .inl (some (.double (FP.ddiv (FP.i2d (sumF (mI M (B + 39)) no)) (FP.i2d (nI no)))))) := fun Q => by
      rw [sp85 h0 hr hq (by rw [a5]; exact hn0), hp, a5]
    have hy := hx
    have hw := fun Q => w204_ok (Q := Q) h0 hc
    generalize hX : FP.ddiv (FP.i2d (sumF (mI M (B + 39)) no)) (FP.i2d (nI no)) = X at hc hw hx hy
    have hS : ST B (stD M (B + 44) (va_up (mD M (B + 44)) 0 (X))) := by rw [ST_stD]; exact h0
    have hm := fun Q => sp166 (B := B) (M := stD M (B + 44) (va_up (mD M (B + 44)) 0 (X))) (Q := Q) hS (by rw [mI_stD]; exact a6) (iv_no h).2 hno (by rw [mI_stD, hX]; exact le64 hx)
    rw [mI_stD, hX] at hm
    have dc := dc_self hy
    generalize hM1 : stD M (B + 44) (va_up (mD M (B + 44)) 0 (X)) = M1 at hw hS hm
    have hD : mD M1 (B + 44) 0 = X := by rw [← hM1, mD_stD, va_up_ap, if_pos rfl, va_up_ap, if_pos rfl]
    have hInv : INV B s L M1 ns np no nl p q o := by rw [← hM1]; exact INV_stD h
    have hN1 : mN M1 = mN M := by rw [← hM1, mN_stD]
    have hS1 : mS M1 = mS M := by rw [← hM1, mS_stD]
    have h36 : mI (thr B M1 0) (B + 14) 36 = 0 := thr_36
    have hDt : mD (thr B M1 0) = mD M1 := rfl
    have hTt : mT (thr B M1 0) = mT M1 := rfl
    have s104 := fun Q => sp104 (a := B + 14) (M := thr B M1 0) (Q := Q) (by rw [hTt, tT14 hS])
    refine ⟨thr B M1 0, [(6, .int 0), (7, .double X)], ⟨⟨ns, np, no, nl, p, q, o, INV_thr hInv⟩, Nat.le_trans (Nat.le_of_eq (show _ = mN M1 from rfl)) (by omega), Nat.le_trans (Nat.le_of_eq (show _ = mS M1 from rfl)) (by omega)⟩, Or.inr ⟨_, _, rfl⟩, fun Q => ?_⟩
    simp only [LL, List.cons_append, List.nil_append]
    rcases hT with rfl | ⟨v, w, rfl⟩ <;>
    simp [lv_args, sStep, amStep, a_nx, a_ii, a_jj, a_ji, a_ld, a_st, a_if, a_ald, a_c1, a_c2, lkp, lput, lput2, lins, oP_none, oP_next, oP_call, oP_ret, oP_thr, outP_ite, aft_ret, aft_void, aft_thr, fHnd, List.isEmpty_nil, List.filter_cons, List.filter_nil, Value.category, csum, List.map_cons, List.map_nil, List.sum_cons, List.sum_nil, List.cons_append, List.nil_append, Option.toList, vp_nar_int, narrow_b1, narrow_b0, nc115, vc115, fc115, nc111, vc111, fc111, nc100, vc100, fc100, nc109, vc109, fc109, nc120, vc120, fc120, nc119, vc119, fc119, nc116, vc116, fc116, nc45, vc45, fc45, nc32, vc32, fc32, nc102, vc102, fc102, nc106, vc106, fc106, fin3, rf_some, rf_none, upd_ap, va_up_ap, nar_bi, fits_bi, nvp_bi, bi_t, bi_f, fval, fty, ftabs, wrv_0, wrv_1, wrv_2, wrv_3, wrv_5, mT_stI, mI_stI, mL_stI, mD_stI, mR_stI, mN_stI, mS_stI, mT_stL, mI_stL, mL_stL, mD_stL, mR_stL, mN_stL, mS_stL, mT_stD, mI_stD, mL_stD, mD_stD, mR_stD, mN_stD, mS_stD, mT_stR, mI_stR, mL_stR, mD_stR, mR_stR, mN_stR, mS_stR, mT_stN, mI_stN, mL_stN, mD_stN, mR_stN, mN_stN, mS_stN, e205_2622, e205_2623, e205_2625, e205_2628, e205_2630, e205_2631, e205_2634, e205_2636, e205_2637, e205_2640, e205_2642, e205_2645, e205_2646, e205_2647, e205_2649, e205_2652, e205_2654, e205_2655, e205_2656, e205_2658, e205_2659, e205_2662, e205_2664, e205_2665, e205_2666, e205_2668, e205_2669, e205_2670, e205_2671, e205_2674, e205_2676, e205_2678, e205_2679, e205_2682, e205_2683, e205_2684, rt205, cl204, cl166, cl104, tT14 h0, tT44 h0, inb01, hw, hm, tT14 hS, tT44 hS, s104, h36, hDt, hTt, hD, le64 hy, dc, Op.cmpValue]
