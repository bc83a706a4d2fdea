/-! ===== the cases of the law, each a step ===== -/
def CA (B s L i pc : Nat) (T : ALs) (M : AMem) : Prop := ∃ M2 T1, CS B s L M M2 ∧ tl T1 ∧ ∀ Q, EvP 205 pc (LL B s i T) [] M Q = EvP 205 2700 (LL B s i T1) [] M2 Q
theorem ca0 {B s L i : Nat} {T : ALs} {M : AMem} (hI : Inv B s L M) (hi : i + 5 ≤ L) (hL : L ≤ 2560) (hT : tl T) : CA B s L i 232 T M := by
  obtain ⟨ns, np, no, nl, p, q, o, h⟩ := hI
  have hs := h.1.1.2.2.1
  obtain ⟨M2, hc, hp⟩ := op0 h (mI M s (i + 1)) (mI M s (i + 2))
  rcases hp with hp | ⟨e, he, hp⟩
  · obtain ⟨T1, t1, e1⟩ := lc0_ok (INV_ST h) hs hi hL hT hp
    exact ⟨M2, T1, hc, t1, e1⟩
  · simp only [List.mem_cons, List.not_mem_nil, or_false] at he
    rcases he with rfl | rfl
    · obtain ⟨T1, t1, e1⟩ := lc0_t0 (INV_ST h) hs hi hL hT hp
      exact ⟨M2, T1, hc, t1, e1⟩
    · obtain ⟨T1, t1, e1⟩ := lc0_t1 (INV_ST h) hs hi hL hT hp
      exact ⟨M2, T1, hc, t1, e1⟩
theorem ca1 {B s L i : Nat} {T : ALs} {M : AMem} (hI : Inv B s L M) (hi : i + 5 ≤ L) (hL : L ≤ 2560) (hT : tl T) : CA B s L i 300 T M := by
  obtain ⟨ns, np, no, nl, p, q, o, h⟩ := hI
  have hs := h.1.1.2.2.1
  obtain ⟨M2, hc, hp⟩ := op1 h (mI M s (i + 1)) (mI M s (i + 2)) (mI M s (i + 3)) (mI M s (i + 4))
  rcases hp with hp | ⟨e, he, hp⟩
  · obtain ⟨T1, t1, e1⟩ := lc1_ok (INV_ST h) hs hi hL hT hp
    exact ⟨M2, T1, hc, t1, e1⟩
  · simp only [List.mem_cons, List.not_mem_nil, or_false] at he
    rcases he with rfl | rfl
    · obtain ⟨T1, t1, e1⟩ := lc1_t2 (INV_ST h) hs hi hL hT hp
      exact ⟨M2, T1, hc, t1, e1⟩
    · obtain ⟨T1, t1, e1⟩ := lc1_t0 (INV_ST h) hs hi hL hT hp
      exact ⟨M2, T1, hc, t1, e1⟩
theorem ca2 {B s L i : Nat} {T : ALs} {M : AMem} (hI : Inv B s L M) (hi : i + 5 ≤ L) (hL : L ≤ 2560) (hT : tl T) : CA B s L i 392 T M := by
  obtain ⟨ns, np, no, nl, p, q, o, h⟩ := hI
  have hs := h.1.1.2.2.1
  obtain ⟨M2, hc, hp⟩ := op2 h (mI M s (i + 1)) (mI M s (i + 2)) (mI M s (i + 3))
  rcases hp with hp | ⟨e, he, hp⟩
  · obtain ⟨T1, t1, e1⟩ := lc2_ok (INV_ST h) hs hi hL hT hp
    exact ⟨M2, T1, hc, t1, e1⟩
  · simp only [List.mem_cons, List.not_mem_nil, or_false] at he
    rcases he with rfl | rfl
    · obtain ⟨T1, t1, e1⟩ := lc2_t2 (INV_ST h) hs hi hL hT hp
      exact ⟨M2, T1, hc, t1, e1⟩
    · obtain ⟨T1, t1, e1⟩ := lc2_t0 (INV_ST h) hs hi hL hT hp
      exact ⟨M2, T1, hc, t1, e1⟩
theorem ca3 {B s L i : Nat} {T : ALs} {M : AMem} (hI : Inv B s L M) (hi : i + 5 ≤ L) (hL : L ≤ 2560) (hT : tl T) : CA B s L i 472 T M := by
  obtain ⟨ns, np, no, nl, p, q, o, h⟩ := hI
  have hs := h.1.1.2.2.1
  obtain ⟨M2, hc, hp⟩ := op3 h (mI M s (i + 1)) (mI M s (i + 2))
  rcases hp with hp | ⟨e, he, hp⟩
  · obtain ⟨T1, t1, e1⟩ := lc3_ok (INV_ST h) hs hi hL hT hp
    exact ⟨M2, T1, hc, t1, e1⟩
  · simp only [List.mem_cons, List.not_mem_nil, or_false] at he
    rcases he with rfl | rfl
    · obtain ⟨T1, t1, e1⟩ := lc3_t2 (INV_ST h) hs hi hL hT hp
      exact ⟨M2, T1, hc, t1, e1⟩
    · obtain ⟨T1, t1, e1⟩ := lc3_t0 (INV_ST h) hs hi hL hT hp
      exact ⟨M2, T1, hc, t1, e1⟩
theorem ca4 {B s L i : Nat} {T : ALs} {M : AMem} (hI : Inv B s L M) (hi : i + 5 ≤ L) (hL : L ≤ 2560) (hT : tl T) : CA B s L i 540 T M := by
  obtain ⟨ns, np, no, nl, p, q, o, h⟩ := hI
  have hs := h.1.1.2.2.1
  obtain ⟨M2, hc, hp⟩ := op4 h (mI M s (i + 1))
  rcases hp with hp | ⟨e, he, hp⟩
  · obtain ⟨T1, t1, e1⟩ := lc4_ok (INV_ST h) hs hi hL hT hp
    exact ⟨M2, T1, hc, t1, e1⟩
  · simp only [List.mem_cons, List.not_mem_nil, or_false] at he
    subst he
    obtain ⟨T1, t1, e1⟩ := lc4_t2 (INV_ST h) hs hi hL hT hp
    exact ⟨M2, T1, hc, t1, e1⟩
theorem ca5 {B s L i : Nat} {T : ALs} {M : AMem} (hI : Inv B s L M) (hi : i + 5 ≤ L) (hL : L ≤ 2560) (hT : tl T) : CA B s L i 603 T M := by
  obtain ⟨ns, np, no, nl, p, q, o, h⟩ := hI
  have hs := h.1.1.2.2.1
  obtain ⟨M2, hc, hp⟩ := op5 h (mI M s (i + 1)) (mI M s (i + 2)) (mI M s (i + 3)) (mI M s (i + 4))
  rcases hp with hp | ⟨e, he, hp⟩
  · obtain ⟨T1, t1, e1⟩ := lc5_ok (INV_ST h) hs hi hL hT hp
    exact ⟨M2, T1, hc, t1, e1⟩
  · simp only [List.mem_cons, List.not_mem_nil, or_false] at he
    rcases he with rfl | rfl
    · obtain ⟨T1, t1, e1⟩ := lc5_t2 (INV_ST h) hs hi hL hT hp
      exact ⟨M2, T1, hc, t1, e1⟩
    · obtain ⟨T1, t1, e1⟩ := lc5_t0 (INV_ST h) hs hi hL hT hp
      exact ⟨M2, T1, hc, t1, e1⟩
theorem ca6 {B s L i : Nat} {T : ALs} {M : AMem} (hI : Inv B s L M) (hi : i + 5 ≤ L) (hL : L ≤ 2560) (hT : tl T) : CA B s L i 695 T M := by
  obtain ⟨ns, np, no, nl, p, q, o, h⟩ := hI
  have hs := h.1.1.2.2.1
  obtain ⟨M2, hc, hp⟩ := op6 h (mI M s (i + 1))
  rcases hp with hp | ⟨e, he, hp⟩
  · obtain ⟨T1, t1, e1⟩ := lc6_ok (INV_ST h) hs hi hL hT hp
    exact ⟨M2, T1, hc, t1, e1⟩
  · simp only [List.mem_cons, List.not_mem_nil, or_false] at he
    subst he
    obtain ⟨T1, t1, e1⟩ := lc6_t2 (INV_ST h) hs hi hL hT hp
    exact ⟨M2, T1, hc, t1, e1⟩
theorem ca7 {B s L i : Nat} {T : ALs} {M : AMem} (hI : Inv B s L M) (hi : i + 5 ≤ L) (hL : L ≤ 2560) (hT : tl T) : CA B s L i 751 T M := by
  obtain ⟨ns, np, no, nl, p, q, o, h⟩ := hI
  have hs := h.1.1.2.2.1
  obtain ⟨M2, hc, hp⟩ := op7 h (mI M s (i + 1))
  rcases hp with hp | ⟨e, he, hp⟩
  · obtain ⟨T1, t1, e1⟩ := lc7_ok (INV_ST h) hs hi hL hT hp
    exact ⟨M2, T1, hc, t1, e1⟩
  · simp only [List.mem_cons, List.not_mem_nil, or_false] at he
    subst he
    obtain ⟨T1, t1, e1⟩ := lc7_t0 (INV_ST h) hs hi hL hT hp
    exact ⟨M2, T1, hc, t1, e1⟩
theorem ca8 {B s L i : Nat} {T : ALs} {M : AMem} (hI : Inv B s L M) (hi : i + 5 ≤ L) (hL : L ≤ 2560) (hT : tl T) : CA B s L i 807 T M := by
  obtain ⟨ns, np, no, nl, p, q, o, h⟩ := hI
  have hs := h.1.1.2.2.1
  obtain ⟨M2, hc, hp⟩ := op8 h (mI M s (i + 1)) (mI M s (i + 2))
  rcases hp with hp | ⟨e, he, hp⟩
  · obtain ⟨T1, t1, e1⟩ := lc8_ok (INV_ST h) hs hi hL hT hp
    exact ⟨M2, T1, hc, t1, e1⟩
  · simp only [List.mem_cons, List.not_mem_nil, or_false] at he
    subst he
    obtain ⟨T1, t1, e1⟩ := lc8_t0 (INV_ST h) hs hi hL hT hp
    exact ⟨M2, T1, hc, t1, e1⟩
theorem ca9 {B s L i : Nat} {T : ALs} {M : AMem} (hI : Inv B s L M) (hi : i + 5 ≤ L) (hL : L ≤ 2560) (hT : tl T) : CA B s L i 875 T M := by
  obtain ⟨ns, np, no, nl, p, q, o, h⟩ := hI
  have hs := h.1.1.2.2.1
  obtain ⟨M2, hc, hp⟩ := op9 h (mI M s (i + 1)) (mI M s (i + 2))
  rcases hp with hp | ⟨e, he, hp⟩
  · obtain ⟨T1, t1, e1⟩ := lc9_ok (INV_ST h) hs hi hL hT hp
    exact ⟨M2, T1, hc, t1, e1⟩
  · simp only [List.mem_cons, List.not_mem_nil, or_false] at he
    rcases he with rfl | rfl | rfl
    · obtain ⟨T1, t1, e1⟩ := lc9_t2 (INV_ST h) hs hi hL hT hp
      exact ⟨M2, T1, hc, t1, e1⟩
    · obtain ⟨T1, t1, e1⟩ := lc9_t0 (INV_ST h) hs hi hL hT hp
      exact ⟨M2, T1, hc, t1, e1⟩
    · obtain ⟨T1, t1, e1⟩ := lc9_t1 (INV_ST h) hs hi hL hT hp
      exact ⟨M2, T1, hc, t1, e1⟩
theorem ld10 {B s i : Nat} {T : ALs} {M M2 : AMem} (hS : ST B M) (h : Pdi B s 54 125 M M2) : ∀ Q, EvP 205 943 (LL B s i T) [] M Q = EvP 205 2700 (LL B s i T) [] M2 Q := by
  intro Q
  obtain ⟨M1, r, h1, k1, h2, k2⟩ := h
  simp only [LL, List.cons_append, List.nil_append]
  simp [lv_args, sStep, amStep, a_nx, a_ii, a_jj, a_ji, a_ld, a_st, a_if, a_ald, a_c1, a_c2, lkp, lput, lput2, lins, oP_none, oP_next, oP_call, oP_ret, oP_thr, outP_ite, aft_ret, aft_void, aft_thr, fHnd, List.isEmpty_nil, List.filter_cons, List.filter_nil, Value.category, csum, List.map_cons, List.map_nil, List.sum_cons, List.sum_nil, List.cons_append, List.nil_append, Option.toList, vp_nar_int, narrow_b1, narrow_b0, nc115, vc115, fc115, nc111, vc111, fc111, nc100, vc100, fc100, nc109, vc109, fc109, nc120, vc120, fc120, nc119, vc119, fc119, nc116, vc116, fc116, nc45, vc45, fc45, nc32, vc32, fc32, nc102, vc102, fc102, nc106, vc106, fc106, fin3, rf_some, rf_none, upd_ap, va_up_ap, nar_bi, fits_bi, nvp_bi, bi_t, bi_f, fval, fty, ftabs, wrv_0, wrv_1, wrv_2, wrv_3, wrv_5, mT_stI, mI_stI, mL_stI, mD_stI, mR_stI, mN_stI, mS_stI, mT_stL, mI_stL, mL_stL, mD_stL, mR_stL, mN_stL, mS_stL, mT_stD, mI_stD, mL_stD, mD_stD, mR_stD, mN_stD, mS_stD, mT_stR, mI_stR, mL_stR, mD_stR, mR_stR, mN_stR, mS_stR, mT_stN, mI_stN, mL_stN, mD_stN, mR_stN, mN_stN, mS_stN, e205_943, e205_944, e205_947, e205_948, e205_951, e205_954, e205_955, rt205, cl54, cl125, h1, h2, tT0 hS, tT14 k1.1]
theorem ca10 {B s L i : Nat} {T : ALs} {M : AMem} (hI : Inv B s L M) (hi : i + 5 ≤ L) (hL : L ≤ 2560) (hT : tl T) : CA B s L i 943 T M := by
  obtain ⟨ns, np, no, nl, p, q, o, h⟩ := hI
  obtain ⟨M2, hc, hp⟩ := op10 h
  exact ⟨M2, T, hc, hT, ld10 (INV_ST h) hp⟩
theorem ca11 {B s L i : Nat} {T : ALs} {M : AMem} (hI : Inv B s L M) (hi : i + 5 ≤ L) (hL : L ≤ 2560) (hT : tl T) : CA B s L i 956 T M := by
  obtain ⟨ns, np, no, nl, p, q, o, h⟩ := hI
  have hs := h.1.1.2.2.1
  obtain ⟨M2, hc, hp⟩ := op11 h (mI M s (i + 1)) (!decide (mI M s (i + 2) = 0))
  rcases hp with hp | ⟨e, he, hp⟩
  · obtain ⟨T1, t1, e1⟩ := lc11_ok (INV_ST h) hs hi hL hT hp
    exact ⟨M2, T1, hc, t1, e1⟩
  · simp only [List.mem_cons, List.not_mem_nil, or_false] at he
    subst he
    obtain ⟨T1, t1, e1⟩ := lc11_t0 (INV_ST h) hs hi hL hT hp
    exact ⟨M2, T1, hc, t1, e1⟩
theorem ca12 {B s L i : Nat} {T : ALs} {M : AMem} (hI : Inv B s L M) (hi : i + 5 ≤ L) (hL : L ≤ 2560) (hT : tl T) : CA B s L i 1040 T M := by
  obtain ⟨ns, np, no, nl, p, q, o, h⟩ := hI
  have hs := h.1.1.2.2.1
  obtain ⟨M2, hc, hp⟩ := op12 h (mI M s (i + 1))
  rcases hp with hp | ⟨e, he, hp⟩
  · obtain ⟨T1, t1, e1⟩ := lc12_ok (INV_ST h) hs hi hL hT hp
    exact ⟨M2, T1, hc, t1, e1⟩
  · simp only [List.mem_cons, List.not_mem_nil, or_false] at he
    subst he
    obtain ⟨T1, t1, e1⟩ := lc12_t0 (INV_ST h) hs hi hL hT hp
    exact ⟨M2, T1, hc, t1, e1⟩
theorem ca13 {B s L i : Nat} {T : ALs} {M : AMem} (hI : Inv B s L M) (hi : i + 5 ≤ L) (hL : L ≤ 2560) (hT : tl T) : CA B s L i 1096 T M := by
  obtain ⟨ns, np, no, nl, p, q, o, h⟩ := hI
  have hs := h.1.1.2.2.1
  obtain ⟨M2, hc, hp⟩ := op13 h (mI M s (i + 1)) (mI M s (i + 2)) (!decide (mI M s (i + 3) = 0))
  rcases hp with hp | ⟨e, he, hp⟩
  · obtain ⟨T1, t1, e1⟩ := lc13_ok (INV_ST h) hs hi hL hT hp
    exact ⟨M2, T1, hc, t1, e1⟩
  · simp only [List.mem_cons, List.not_mem_nil, or_false] at he
    rcases he with rfl | rfl
    · obtain ⟨T1, t1, e1⟩ := lc13_t0 (INV_ST h) hs hi hL hT hp
      exact ⟨M2, T1, hc, t1, e1⟩
    · obtain ⟨T1, t1, e1⟩ := lc13_t1 (INV_ST h) hs hi hL hT hp
      exact ⟨M2, T1, hc, t1, e1⟩
theorem ld14 {B s i : Nat} {T : ALs} {M M2 : AMem} (hS : ST B M) (h : Pdi B s 58 131 M M2) : ∀ Q, EvP 205 1192 (LL B s i T) [] M Q = EvP 205 2700 (LL B s i T) [] M2 Q := by
  intro Q
  obtain ⟨M1, r, h1, k1, h2, k2⟩ := h
  simp only [LL, List.cons_append, List.nil_append]
  simp [lv_args, sStep, amStep, a_nx, a_ii, a_jj, a_ji, a_ld, a_st, a_if, a_ald, a_c1, a_c2, lkp, lput, lput2, lins, oP_none, oP_next, oP_call, oP_ret, oP_thr, outP_ite, aft_ret, aft_void, aft_thr, fHnd, List.isEmpty_nil, List.filter_cons, List.filter_nil, Value.category, csum, List.map_cons, List.map_nil, List.sum_cons, List.sum_nil, List.cons_append, List.nil_append, Option.toList, vp_nar_int, narrow_b1, narrow_b0, nc115, vc115, fc115, nc111, vc111, fc111, nc100, vc100, fc100, nc109, vc109, fc109, nc120, vc120, fc120, nc119, vc119, fc119, nc116, vc116, fc116, nc45, vc45, fc45, nc32, vc32, fc32, nc102, vc102, fc102, nc106, vc106, fc106, fin3, rf_some, rf_none, upd_ap, va_up_ap, nar_bi, fits_bi, nvp_bi, bi_t, bi_f, fval, fty, ftabs, wrv_0, wrv_1, wrv_2, wrv_3, wrv_5, mT_stI, mI_stI, mL_stI, mD_stI, mR_stI, mN_stI, mS_stI, mT_stL, mI_stL, mL_stL, mD_stL, mR_stL, mN_stL, mS_stL, mT_stD, mI_stD, mL_stD, mD_stD, mR_stD, mN_stD, mS_stD, mT_stR, mI_stR, mL_stR, mD_stR, mR_stR, mN_stR, mS_stR, mT_stN, mI_stN, mL_stN, mD_stN, mR_stN, mN_stN, mS_stN, e205_1192, e205_1193, e205_1196, e205_1197, e205_1200, e205_1203, e205_1204, rt205, cl58, cl131, h1, h2, tT0 hS, tT14 k1.1]
theorem ca14 {B s L i : Nat} {T : ALs} {M : AMem} (hI : Inv B s L M) (hi : i + 5 ≤ L) (hL : L ≤ 2560) (hT : tl T) : CA B s L i 1192 T M := by
  obtain ⟨ns, np, no, nl, p, q, o, h⟩ := hI
  obtain ⟨M2, hc, hp⟩ := op14 h
  exact ⟨M2, T, hc, hT, ld14 (INV_ST h) hp⟩
theorem ld15 {B s i : Nat} {T : ALs} {M M2 : AMem} (hS : ST B M) (h : Pdi B s 59 132 M M2) : ∀ Q, EvP 205 1205 (LL B s i T) [] M Q = EvP 205 2700 (LL B s i T) [] M2 Q := by
  intro Q
  obtain ⟨M1, r, h1, k1, h2, k2⟩ := h
  simp only [LL, List.cons_append, List.nil_append]
  simp [lv_args, sStep, amStep, a_nx, a_ii, a_jj, a_ji, a_ld, a_st, a_if, a_ald, a_c1, a_c2, lkp, lput, lput2, lins, oP_none, oP_next, oP_call, oP_ret, oP_thr, outP_ite, aft_ret, aft_void, aft_thr, fHnd, List.isEmpty_nil, List.filter_cons, List.filter_nil, Value.category, csum, List.map_cons, List.map_nil, List.sum_cons, List.sum_nil, List.cons_append, List.nil_append, Option.toList, vp_nar_int, narrow_b1, narrow_b0, nc115, vc115, fc115, nc111, vc111, fc111, nc100, vc100, fc100, nc109, vc109, fc109, nc120, vc120, fc120, nc119, vc119, fc119, nc116, vc116, fc116, nc45, vc45, fc45, nc32, vc32, fc32, nc102, vc102, fc102, nc106, vc106, fc106, fin3, rf_some, rf_none, upd_ap, va_up_ap, nar_bi, fits_bi, nvp_bi, bi_t, bi_f, fval, fty, ftabs, wrv_0, wrv_1, wrv_2, wrv_3, wrv_5, mT_stI, mI_stI, mL_stI, mD_stI, mR_stI, mN_stI, mS_stI, mT_stL, mI_stL, mL_stL, mD_stL, mR_stL, mN_stL, mS_stL, mT_stD, mI_stD, mL_stD, mD_stD, mR_stD, mN_stD, mS_stD, mT_stR, mI_stR, mL_stR, mD_stR, mR_stR, mN_stR, mS_stR, mT_stN, mI_stN, mL_stN, mD_stN, mR_stN, mN_stN, mS_stN, e205_1205, e205_1206, e205_1209, e205_1210, e205_1213, e205_1216, e205_1217, rt205, cl59, cl132, h1, h2, tT0 hS, tT14 k1.1]
theorem ca15 {B s L i : Nat} {T : ALs} {M : AMem} (hI : Inv B s L M) (hi : i + 5 ≤ L) (hL : L ≤ 2560) (hT : tl T) : CA B s L i 1205 T M := by
  obtain ⟨ns, np, no, nl, p, q, o, h⟩ := hI
  obtain ⟨M2, hc, hp⟩ := op15 h
  exact ⟨M2, T, hc, hT, ld15 (INV_ST h) hp⟩
theorem ld16 {B s i : Nat} {T : ALs} {M M2 : AMem} (hS : ST B M) (h : Pdi B s 60 133 M M2) : ∀ Q, EvP 205 1218 (LL B s i T) [] M Q = EvP 205 2700 (LL B s i T) [] M2 Q := by
  intro Q
  obtain ⟨M1, r, h1, k1, h2, k2⟩ := h
  simp only [LL, List.cons_append, List.nil_append]
  simp [lv_args, sStep, amStep, a_nx, a_ii, a_jj, a_ji, a_ld, a_st, a_if, a_ald, a_c1, a_c2, lkp, lput, lput2, lins, oP_none, oP_next, oP_call, oP_ret, oP_thr, outP_ite, aft_ret, aft_void, aft_thr, fHnd, List.isEmpty_nil, List.filter_cons, List.filter_nil, Value.category, csum, List.map_cons, List.map_nil, List.sum_cons, List.sum_nil, List.cons_append, List.nil_append, Option.toList, vp_nar_int, narrow_b1, narrow_b0, nc115, vc115, fc115, nc111, vc111, fc111, nc100, vc100, fc100, nc109, vc109, fc109, nc120, vc120, fc120, nc119, vc119, fc119, nc116, vc116, fc116, nc45, vc45, fc45, nc32, vc32, fc32, nc102, vc102, fc102, nc106, vc106, fc106, fin3, rf_some, rf_none, upd_ap, va_up_ap, nar_bi, fits_bi, nvp_bi, bi_t, bi_f, fval, fty, ftabs, wrv_0, wrv_1, wrv_2, wrv_3, wrv_5, mT_stI, mI_stI, mL_stI, mD_stI, mR_stI, mN_stI, mS_stI, mT_stL, mI_stL, mL_stL, mD_stL, mR_stL, mN_stL, mS_stL, mT_stD, mI_stD, mL_stD, mD_stD, mR_stD, mN_stD, mS_stD, mT_stR, mI_stR, mL_stR, mD_stR, mR_stR, mN_stR, mS_stR, mT_stN, mI_stN, mL_stN, mD_stN, mR_stN, mN_stN, mS_stN, e205_1218, e205_1219, e205_1222, e205_1223, e205_1226, e205_1229, e205_1230, rt205, cl60, cl133, h1, h2, tT0 hS, tT14 k1.1]
theorem ca16 {B s L i : Nat} {T : ALs} {M : AMem} (hI : Inv B s L M) (hi : i + 5 ≤ L) (hL : L ≤ 2560) (hT : tl T) : CA B s L i 1218 T M := by
  obtain ⟨ns, np, no, nl, p, q, o, h⟩ := hI
  obtain ⟨M2, hc, hp⟩ := op16 h
  exact ⟨M2, T, hc, hT, ld16 (INV_ST h) hp⟩
theorem ca17 {B s L i : Nat} {T : ALs} {M : AMem} (hI : Inv B s L M) (hi : i + 5 ≤ L) (hL : L ≤ 2560) (hT : tl T) : CA B s L i 1231 T M := by
  obtain ⟨ns, np, no, nl, p, q, o, h⟩ := hI
  have hs := h.1.1.2.2.1
  obtain ⟨M2, hc, hp⟩ := op17 h (mI M s (i + 1)) (mI M s (i + 2)) (mI M s (i + 3))
  rcases hp with hp | ⟨e, he, hp⟩
  · obtain ⟨T1, t1, e1⟩ := lc17_ok (INV_ST h) hs hi hL hT hp
    exact ⟨M2, T1, hc, t1, e1⟩
  · simp only [List.mem_cons, List.not_mem_nil, or_false] at he
    subst he
    obtain ⟨T1, t1, e1⟩ := lc17_t0 (INV_ST h) hs hi hL hT hp
    exact ⟨M2, T1, hc, t1, e1⟩
theorem ld18 {B s i : Nat} {T : ALs} {M M2 : AMem} (hS : ST B M) (h : Pdi B s 62 136 M M2) : ∀ Q, EvP 205 1311 (LL B s i T) [] M Q = EvP 205 2700 (LL B s i T) [] M2 Q := by
  intro Q
  obtain ⟨M1, r, h1, k1, h2, k2⟩ := h
  simp only [LL, List.cons_append, List.nil_append]
  simp [lv_args, sStep, amStep, a_nx, a_ii, a_jj, a_ji, a_ld, a_st, a_if, a_ald, a_c1, a_c2, lkp, lput, lput2, lins, oP_none, oP_next, oP_call, oP_ret, oP_thr, outP_ite, aft_ret, aft_void, aft_thr, fHnd, List.isEmpty_nil, List.filter_cons, List.filter_nil, Value.category, csum, List.map_cons, List.map_nil, List.sum_cons, List.sum_nil, List.cons_append, List.nil_append, Option.toList, vp_nar_int, narrow_b1, narrow_b0, nc115, vc115, fc115, nc111, vc111, fc111, nc100, vc100, fc100, nc109, vc109, fc109, nc120, vc120, fc120, nc119, vc119, fc119, nc116, vc116, fc116, nc45, vc45, fc45, nc32, vc32, fc32, nc102, vc102, fc102, nc106, vc106, fc106, fin3, rf_some, rf_none, upd_ap, va_up_ap, nar_bi, fits_bi, nvp_bi, bi_t, bi_f, fval, fty, ftabs, wrv_0, wrv_1, wrv_2, wrv_3, wrv_5, mT_stI, mI_stI, mL_stI, mD_stI, mR_stI, mN_stI, mS_stI, mT_stL, mI_stL, mL_stL, mD_stL, mR_stL, mN_stL, mS_stL, mT_stD, mI_stD, mL_stD, mD_stD, mR_stD, mN_stD, mS_stD, mT_stR, mI_stR, mL_stR, mD_stR, mR_stR, mN_stR, mS_stR, mT_stN, mI_stN, mL_stN, mD_stN, mR_stN, mN_stN, mS_stN, e205_1311, e205_1312, e205_1315, e205_1316, e205_1319, e205_1322, e205_1323, rt205, cl62, cl136, h1, h2, tT0 hS, tT14 k1.1]
theorem ca18 {B s L i : Nat} {T : ALs} {M : AMem} (hI : Inv B s L M) (hi : i + 5 ≤ L) (hL : L ≤ 2560) (hT : tl T) : CA B s L i 1311 T M := by
  obtain ⟨ns, np, no, nl, p, q, o, h⟩ := hI
  obtain ⟨M2, hc, hp⟩ := op18 h
  exact ⟨M2, T, hc, hT, ld18 (INV_ST h) hp⟩
theorem ca19 {B s L i : Nat} {T : ALs} {M : AMem} (hI : Inv B s L M) (hi : i + 5 ≤ L) (hL : L ≤ 2560) (hT : tl T) : CA B s L i 1324 T M := by
  obtain ⟨ns, np, no, nl, p, q, o, h⟩ := hI
  have hs := h.1.1.2.2.1
  obtain ⟨M2, hc, hp⟩ := op19 h (toC (mI M s (i + 1)))
  rcases hp with hp | ⟨e, he, hp⟩
  · obtain ⟨T1, t1, e1⟩ := lc19_ok (INV_ST h) hs hi hL hT hp
    exact ⟨M2, T1, hc, t1, e1⟩
  · simp only [List.mem_cons, List.not_mem_nil, or_false] at he
    rcases he with rfl | rfl | rfl
    · obtain ⟨T1, t1, e1⟩ := lc19_t0 (INV_ST h) hs hi hL hT hp
      exact ⟨M2, T1, hc, t1, e1⟩
    · obtain ⟨T1, t1, e1⟩ := lc19_t3 (INV_ST h) hs hi hL hT hp
      exact ⟨M2, T1, hc, t1, e1⟩
    · obtain ⟨T1, t1, e1⟩ := lc19_t1 (INV_ST h) hs hi hL hT hp
      exact ⟨M2, T1, hc, t1, e1⟩
theorem ca20 {B s L i : Nat} {T : ALs} {M : AMem} (hI : Inv B s L M) (hi : i + 5 ≤ L) (hL : L ≤ 2560) (hT : tl T) : CA B s L i 1382 T M := by
  obtain ⟨ns, np, no, nl, p, q, o, h⟩ := hI
  have hs := h.1.1.2.2.1
  obtain ⟨M2, hc, hp⟩ := op20 h (toC (mI M s (i + 1)))
  rcases hp with hp | ⟨e, he, hp⟩
  · obtain ⟨T1, t1, e1⟩ := lc20_ok (INV_ST h) hs hi hL hT hp
    exact ⟨M2, T1, hc, t1, e1⟩
  · simp only [List.mem_cons, List.not_mem_nil, or_false] at he
    rcases he with rfl | rfl
    · obtain ⟨T1, t1, e1⟩ := lc20_t0 (INV_ST h) hs hi hL hT hp
      exact ⟨M2, T1, hc, t1, e1⟩
    · obtain ⟨T1, t1, e1⟩ := lc20_t4 (INV_ST h) hs hi hL hT hp
      exact ⟨M2, T1, hc, t1, e1⟩
theorem ca21 {B s L i : Nat} {T : ALs} {M : AMem} (hI : Inv B s L M) (hi : i + 5 ≤ L) (hL : L ≤ 2560) (hT : tl T) : CA B s L i 1440 T M := by
  obtain ⟨ns, np, no, nl, p, q, o, h⟩ := hI
  have hs := h.1.1.2.2.1
  obtain ⟨M2, hc, hp⟩ := op21 h (toC (mI M s (i + 1)))
  rcases hp with hp | ⟨e, he, hp⟩
  · obtain ⟨T1, t1, e1⟩ := lc21_ok (INV_ST h) hs hi hL hT hp
    exact ⟨M2, T1, hc, t1, e1⟩
  · simp only [List.mem_cons, List.not_mem_nil, or_false] at he
    subst he
    obtain ⟨T1, t1, e1⟩ := lc21_t0 (INV_ST h) hs hi hL hT hp
    exact ⟨M2, T1, hc, t1, e1⟩
theorem ca22 {B s L i : Nat} {T : ALs} {M : AMem} (hI : Inv B s L M) (hi : i + 5 ≤ L) (hL : L ≤ 2560) (hT : tl T) : CA B s L i 1498 T M := by
  obtain ⟨ns, np, no, nl, p, q, o, h⟩ := hI
  have hs := h.1.1.2.2.1
  obtain ⟨M2, hc, hp⟩ := op22 h (mI M s (i + 1))
  rcases hp with hp | ⟨e, he, hp⟩
  · obtain ⟨T1, t1, e1⟩ := lc22_ok (INV_ST h) hs hi hL hT hp
    exact ⟨M2, T1, hc, t1, e1⟩
  · simp only [List.mem_cons, List.not_mem_nil, or_false] at he
    subst he
    obtain ⟨T1, t1, e1⟩ := lc22_t2 (INV_ST h) hs hi hL hT hp
    exact ⟨M2, T1, hc, t1, e1⟩
theorem ca23 {B s L i : Nat} {T : ALs} {M : AMem} (hI : Inv B s L M) (hi : i + 5 ≤ L) (hL : L ≤ 2560) (hT : tl T) : CA B s L i 1554 T M := by
  obtain ⟨ns, np, no, nl, p, q, o, h⟩ := hI
  have hs := h.1.1.2.2.1
  obtain ⟨M2, hc, hp⟩ := op23 h (mI M s (i + 1))
  rcases hp with hp | ⟨e, he, hp⟩
  · obtain ⟨T1, t1, e1⟩ := lc23_ok (INV_ST h) hs hi hL hT hp
    exact ⟨M2, T1, hc, t1, e1⟩
  · simp only [List.mem_cons, List.not_mem_nil, or_false] at he
    subst he
    obtain ⟨T1, t1, e1⟩ := lc23_t2 (INV_ST h) hs hi hL hT hp
    exact ⟨M2, T1, hc, t1, e1⟩
theorem ca24 {B s L i : Nat} {T : ALs} {M : AMem} (hI : Inv B s L M) (hi : i + 5 ≤ L) (hL : L ≤ 2560) (hT : tl T) : CA B s L i 1610 T M := by
  obtain ⟨ns, np, no, nl, p, q, o, h⟩ := hI
  have hs := h.1.1.2.2.1
  obtain ⟨M2, hc, hp⟩ := op24 h (mI M s (i + 1))
  rcases hp with hp | ⟨e, he, hp⟩
  · obtain ⟨T1, t1, e1⟩ := lc24_ok (INV_ST h) hs hi hL hT hp
    exact ⟨M2, T1, hc, t1, e1⟩
  · simp only [List.mem_cons, List.not_mem_nil, or_false] at he
    subst he
    obtain ⟨T1, t1, e1⟩ := lc24_t2 (INV_ST h) hs hi hL hT hp
    exact ⟨M2, T1, hc, t1, e1⟩
theorem ca25 {B s L i : Nat} {T : ALs} {M : AMem} (hI : Inv B s L M) (hi : i + 5 ≤ L) (hL : L ≤ 2560) (hT : tl T) : CA B s L i 1666 T M := by
  obtain ⟨ns, np, no, nl, p, q, o, h⟩ := hI
  have hs := h.1.1.2.2.1
  obtain ⟨M2, hc, hp⟩ := op25 h (mI M s (i + 1)) (mI M s (i + 2))
  rcases hp with hp | ⟨e, he, hp⟩
  · obtain ⟨T1, t1, e1⟩ := lc25_ok (INV_ST h) hs hi hL hT hp
    exact ⟨M2, T1, hc, t1, e1⟩
  · simp only [List.mem_cons, List.not_mem_nil, or_false] at he
    rcases he with rfl | rfl
    · obtain ⟨T1, t1, e1⟩ := lc25_t2 (INV_ST h) hs hi hL hT hp
      exact ⟨M2, T1, hc, t1, e1⟩
    · obtain ⟨T1, t1, e1⟩ := lc25_t4 (INV_ST h) hs hi hL hT hp
      exact ⟨M2, T1, hc, t1, e1⟩
theorem ca26 {B s L i : Nat} {T : ALs} {M : AMem} (hI : Inv B s L M) (hi : i + 5 ≤ L) (hL : L ≤ 2560) (hT : tl T) : CA B s L i 1734 T M := by
  obtain ⟨ns, np, no, nl, p, q, o, h⟩ := hI
  have hs := h.1.1.2.2.1
  obtain ⟨M2, hc, hp⟩ := op26 h (mI M s (i + 1))
  rcases hp with hp | ⟨e, he, hp⟩
  · obtain ⟨T1, t1, e1⟩ := lc26_ok (INV_ST h) hs hi hL hT hp
    exact ⟨M2, T1, hc, t1, e1⟩
  · simp only [List.mem_cons, List.not_mem_nil, or_false] at he
    rcases he with rfl | rfl
    · obtain ⟨T1, t1, e1⟩ := lc26_t2 (INV_ST h) hs hi hL hT hp
      exact ⟨M2, T1, hc, t1, e1⟩
    · obtain ⟨T1, t1, e1⟩ := lc26_t3 (INV_ST h) hs hi hL hT hp
      exact ⟨M2, T1, hc, t1, e1⟩
theorem ca27 {B s L i : Nat} {T : ALs} {M : AMem} (hI : Inv B s L M) (hi : i + 5 ≤ L) (hL : L ≤ 2560) (hT : tl T) : CA B s L i 1797 T M := by
  obtain ⟨ns, np, no, nl, p, q, o, h⟩ := hI
  have hs := h.1.1.2.2.1
  obtain ⟨M2, hc, hp⟩ := op27 h (mI M s (i + 1))
  rcases hp with hp | ⟨e, he, hp⟩
  · obtain ⟨T1, t1, e1⟩ := lc27_ok (INV_ST h) hs hi hL hT hp
    exact ⟨M2, T1, hc, t1, e1⟩
  · simp only [List.mem_cons, List.not_mem_nil, or_false] at he
    rcases he with rfl | rfl
    · obtain ⟨T1, t1, e1⟩ := lc27_t2 (INV_ST h) hs hi hL hT hp
      exact ⟨M2, T1, hc, t1, e1⟩
    · obtain ⟨T1, t1, e1⟩ := lc27_t3 (INV_ST h) hs hi hL hT hp
      exact ⟨M2, T1, hc, t1, e1⟩
theorem ca28 {B s L i : Nat} {T : ALs} {M : AMem} (hI : Inv B s L M) (hi : i + 5 ≤ L) (hL : L ≤ 2560) (hT : tl T) : CA B s L i 1860 T M := by
  obtain ⟨ns, np, no, nl, p, q, o, h⟩ := hI
  have hs := h.1.1.2.2.1
  obtain ⟨M2, hc, hp⟩ := op28 h (mI M s (i + 1)) (mI M s (i + 2))
  rcases hp with hp | ⟨e, he, hp⟩
  · obtain ⟨T1, t1, e1⟩ := lc28_ok (INV_ST h) hs hi hL hT hp
    exact ⟨M2, T1, hc, t1, e1⟩
  · simp only [List.mem_cons, List.not_mem_nil, or_false] at he
    rcases he with rfl | rfl | rfl
    · obtain ⟨T1, t1, e1⟩ := lc28_t2 (INV_ST h) hs hi hL hT hp
      exact ⟨M2, T1, hc, t1, e1⟩
    · obtain ⟨T1, t1, e1⟩ := lc28_t3 (INV_ST h) hs hi hL hT hp
      exact ⟨M2, T1, hc, t1, e1⟩
    · obtain ⟨T1, t1, e1⟩ := lc28_t4 (INV_ST h) hs hi hL hT hp
      exact ⟨M2, T1, hc, t1, e1⟩
theorem ca29 {B s L i : Nat} {T : ALs} {M : AMem} (hI : Inv B s L M) (hi : i + 5 ≤ L) (hL : L ≤ 2560) (hT : tl T) : CA B s L i 1928 T M := by
  obtain ⟨ns, np, no, nl, p, q, o, h⟩ := hI
  have hs := h.1.1.2.2.1
  obtain ⟨M2, hc, hp⟩ := op29 h (mI M s (i + 1)) (mI M s (i + 2))
  rcases hp with hp | ⟨e, he, hp⟩
  · obtain ⟨T1, t1, e1⟩ := lc29_ok (INV_ST h) hs hi hL hT hp
    exact ⟨M2, T1, hc, t1, e1⟩
  · simp only [List.mem_cons, List.not_mem_nil, or_false] at he
    rcases he with rfl | rfl | rfl | rfl
    · obtain ⟨T1, t1, e1⟩ := lc29_t2 (INV_ST h) hs hi hL hT hp
      exact ⟨M2, T1, hc, t1, e1⟩
    · obtain ⟨T1, t1, e1⟩ := lc29_t0 (INV_ST h) hs hi hL hT hp
      exact ⟨M2, T1, hc, t1, e1⟩
    · obtain ⟨T1, t1, e1⟩ := lc29_t3 (INV_ST h) hs hi hL hT hp
      exact ⟨M2, T1, hc, t1, e1⟩
    · obtain ⟨T1, t1, e1⟩ := lc29_t1 (INV_ST h) hs hi hL hT hp
      exact ⟨M2, T1, hc, t1, e1⟩
theorem ca30 {B s L i : Nat} {T : ALs} {M : AMem} (hI : Inv B s L M) (hi : i + 5 ≤ L) (hL : L ≤ 2560) (hT : tl T) : CA B s L i 1996 T M := by
  obtain ⟨ns, np, no, nl, p, q, o, h⟩ := hI
  have hs := h.1.1.2.2.1
  obtain ⟨M2, hc, hp⟩ := op30 h (mI M s (i + 1)) (!decide (mI M s (i + 2) = 0))
  rcases hp with hp | ⟨e, he, hp⟩
  · obtain ⟨T1, t1, e1⟩ := lc30_ok (INV_ST h) hs hi hL hT hp
    exact ⟨M2, T1, hc, t1, e1⟩
  · simp only [List.mem_cons, List.not_mem_nil, or_false] at he
    rcases he with rfl | rfl
    · obtain ⟨T1, t1, e1⟩ := lc30_t2 (INV_ST h) hs hi hL hT hp
      exact ⟨M2, T1, hc, t1, e1⟩
    · obtain ⟨T1, t1, e1⟩ := lc30_t3 (INV_ST h) hs hi hL hT hp
      exact ⟨M2, T1, hc, t1, e1⟩
theorem ca31 {B s L i : Nat} {T : ALs} {M : AMem} (hI : Inv B s L M) (hi : i + 5 ≤ L) (hL : L ≤ 2560) (hT : tl T) : CA B s L i 2080 T M := by
  obtain ⟨ns, np, no, nl, p, q, o, h⟩ := hI
  have hs := h.1.1.2.2.1
  obtain ⟨M2, hc, hp⟩ := op31 h (mI M s (i + 1)) (mI M s (i + 2))
  rcases hp with hp | ⟨e, he, hp⟩
  · obtain ⟨T1, t1, e1⟩ := lc31_ok (INV_ST h) hs hi hL hT hp
    exact ⟨M2, T1, hc, t1, e1⟩
  · simp only [List.mem_cons, List.not_mem_nil, or_false] at he
    rcases he with rfl | rfl | rfl
    · obtain ⟨T1, t1, e1⟩ := lc31_t2 (INV_ST h) hs hi hL hT hp
      exact ⟨M2, T1, hc, t1, e1⟩
    · obtain ⟨T1, t1, e1⟩ := lc31_t0 (INV_ST h) hs hi hL hT hp
      exact ⟨M2, T1, hc, t1, e1⟩
    · obtain ⟨T1, t1, e1⟩ := lc31_t3 (INV_ST h) hs hi hL hT hp
      exact ⟨M2, T1, hc, t1, e1⟩
theorem ca32 {B s L i : Nat} {T : ALs} {M : AMem} (hI : Inv B s L M) (hi : i + 5 ≤ L) (hL : L ≤ 2560) (hT : tl T) : CA B s L i 2148 T M := by
  obtain ⟨ns, np, no, nl, p, q, o, h⟩ := hI
  have hs := h.1.1.2.2.1
  obtain ⟨M2, hc, hp⟩ := op32 h (mI M s (i + 1))
  rcases hp with hp | ⟨e, he, hp⟩
  · obtain ⟨T1, t1, e1⟩ := lc32_ok (INV_ST h) hs hi hL hT hp
    exact ⟨M2, T1, hc, t1, e1⟩
  · simp only [List.mem_cons, List.not_mem_nil, or_false] at he
    subst he
    obtain ⟨T1, t1, e1⟩ := lc32_t2 (INV_ST h) hs hi hL hT hp
    exact ⟨M2, T1, hc, t1, e1⟩
theorem ca33 {B s L i : Nat} {T : ALs} {M : AMem} (hI : Inv B s L M) (hi : i + 5 ≤ L) (hL : L ≤ 2560) (hT : tl T) : CA B s L i 2204 T M := by
  obtain ⟨ns, np, no, nl, p, q, o, h⟩ := hI
  have hs := h.1.1.2.2.1
  obtain ⟨M2, hc, hp⟩ := op33 h (mI M s (i + 1))
  rcases hp with hp | ⟨e, he, hp⟩
  · obtain ⟨T1, t1, e1⟩ := lc33_ok (INV_ST h) hs hi hL hT hp
    exact ⟨M2, T1, hc, t1, e1⟩
  · simp only [List.mem_cons, List.not_mem_nil, or_false] at he
    rcases he with rfl | rfl
    · obtain ⟨T1, t1, e1⟩ := lc33_t2 (INV_ST h) hs hi hL hT hp
      exact ⟨M2, T1, hc, t1, e1⟩
    · obtain ⟨T1, t1, e1⟩ := lc33_t3 (INV_ST h) hs hi hL hT hp
      exact ⟨M2, T1, hc, t1, e1⟩
theorem ca34 {B s L i : Nat} {T : ALs} {M : AMem} (hI : Inv B s L M) (hi : i + 5 ≤ L) (hL : L ≤ 2560) (hT : tl T) : CA B s L i 2260 T M := by
  obtain ⟨ns, np, no, nl, p, q, o, h⟩ := hI
  have hs := h.1.1.2.2.1
  obtain ⟨M2, hc, hp⟩ := op34 h (mI M s (i + 1)) (toC (mI M s (i + 2))) (mI M s (i + 3)) (mI M s (i + 4))
  rcases hp with hp | ⟨e, he, hp⟩
  · obtain ⟨T1, t1, e1⟩ := lc34_ok (INV_ST h) hs hi hL hT hp
    exact ⟨M2, T1, hc, t1, e1⟩
  · simp only [List.mem_cons, List.not_mem_nil, or_false] at he
    rcases he with rfl | rfl
    · obtain ⟨T1, t1, e1⟩ := lc34_t0 (INV_ST h) hs hi hL hT hp
      exact ⟨M2, T1, hc, t1, e1⟩
    · obtain ⟨T1, t1, e1⟩ := lc34_t1 (INV_ST h) hs hi hL hT hp
      exact ⟨M2, T1, hc, t1, e1⟩
theorem ca36 {B s L i : Nat} {T : ALs} {M : AMem} (hI : Inv B s L M) (hi : i + 5 ≤ L) (hL : L ≤ 2560) (hT : tl T) : CA B s L i 2367 T M := by
  obtain ⟨ns, np, no, nl, p, q, o, h⟩ := hI
  have hs := h.1.1.2.2.1
  obtain ⟨M2, hc, hp⟩ := op36 h (mI M s (i + 1))
  rcases hp with hp | ⟨e, he, hp⟩
  · obtain ⟨T1, t1, e1⟩ := lc36_ok (INV_ST h) hs hi hL hT hp
    exact ⟨M2, T1, hc, t1, e1⟩
  · simp only [List.mem_cons, List.not_mem_nil, or_false] at he
    subst he
    obtain ⟨T1, t1, e1⟩ := lc36_t2 (INV_ST h) hs hi hL hT hp
    exact ⟨M2, T1, hc, t1, e1⟩
theorem ca37 {B s L i : Nat} {T : ALs} {M : AMem} (hI : Inv B s L M) (hi : i + 5 ≤ L) (hL : L ≤ 2560) (hT : tl T) : CA B s L i 2430 T M := by
  obtain ⟨ns, np, no, nl, p, q, o, h⟩ := hI
  have hs := h.1.1.2.2.1
  obtain ⟨M2, hc, hp⟩ := op37 h (mI M s (i + 1))
  rcases hp with hp | ⟨e, he, hp⟩
  · obtain ⟨T1, t1, e1⟩ := lc37_ok (INV_ST h) hs hi hL hT hp
    exact ⟨M2, T1, hc, t1, e1⟩
  · simp only [List.mem_cons, List.not_mem_nil, or_false] at he
    rcases he with rfl | rfl
    · obtain ⟨T1, t1, e1⟩ := lc37_t2 (INV_ST h) hs hi hL hT hp
      exact ⟨M2, T1, hc, t1, e1⟩
    · obtain ⟨T1, t1, e1⟩ := lc37_t4 (INV_ST h) hs hi hL hT hp
      exact ⟨M2, T1, hc, t1, e1⟩
theorem ca38 {B s L i : Nat} {T : ALs} {M : AMem} (hI : Inv B s L M) (hi : i + 5 ≤ L) (hL : L ≤ 2560) (hT : tl T) : CA B s L i 2486 T M := by
  obtain ⟨ns, np, no, nl, p, q, o, h⟩ := hI
  have hs := h.1.1.2.2.1
  obtain ⟨M2, hc, hp⟩ := op38 h (mI M s (i + 1))
  rcases hp with hp | ⟨e, he, hp⟩
  · obtain ⟨T1, t1, e1⟩ := lc38_ok (INV_ST h) hs hi hL hT hp
    exact ⟨M2, T1, hc, t1, e1⟩
  · simp only [List.mem_cons, List.not_mem_nil, or_false] at he
    subst he
    obtain ⟨T1, t1, e1⟩ := lc38_t0 (INV_ST h) hs hi hL hT hp
    exact ⟨M2, T1, hc, t1, e1⟩
theorem ld39 {B s i : Nat} {T : ALs} {M M2 : AMem} (hS : ST B M) (h : Pdl B s 83 164 M M2) : ∀ Q, EvP 205 2542 (LL B s i T) [] M Q = EvP 205 2700 (LL B s i T) [] M2 Q := by
  intro Q
  obtain ⟨M1, r, h1, k1, h2, k2⟩ := h
  simp only [LL, List.cons_append, List.nil_append]
  simp [lv_args, sStep, amStep, a_nx, a_ii, a_jj, a_ji, a_ld, a_st, a_if, a_ald, a_c1, a_c2, lkp, lput, lput2, lins, oP_none, oP_next, oP_call, oP_ret, oP_thr, outP_ite, aft_ret, aft_void, aft_thr, fHnd, List.isEmpty_nil, List.filter_cons, List.filter_nil, Value.category, csum, List.map_cons, List.map_nil, List.sum_cons, List.sum_nil, List.cons_append, List.nil_append, Option.toList, vp_nar_int, narrow_b1, narrow_b0, nc115, vc115, fc115, nc111, vc111, fc111, nc100, vc100, fc100, nc109, vc109, fc109, nc120, vc120, fc120, nc119, vc119, fc119, nc116, vc116, fc116, nc45, vc45, fc45, nc32, vc32, fc32, nc102, vc102, fc102, nc106, vc106, fc106, fin3, rf_some, rf_none, upd_ap, va_up_ap, nar_bi, fits_bi, nvp_bi, bi_t, bi_f, fval, fty, ftabs, wrv_0, wrv_1, wrv_2, wrv_3, wrv_5, mT_stI, mI_stI, mL_stI, mD_stI, mR_stI, mN_stI, mS_stI, mT_stL, mI_stL, mL_stL, mD_stL, mR_stL, mN_stL, mS_stL, mT_stD, mI_stD, mL_stD, mD_stD, mR_stD, mN_stD, mS_stD, mT_stR, mI_stR, mL_stR, mD_stR, mR_stR, mN_stR, mS_stR, mT_stN, mI_stN, mL_stN, mD_stN, mR_stN, mN_stN, mS_stN, e205_2542, e205_2543, e205_2546, e205_2547, e205_2550, e205_2551, e205_2554, e205_2555, rt205, cl83, cl164, h1, h2, tT0 hS, tT14 k1.1, lgc0]
theorem ca39 {B s L i : Nat} {T : ALs} {M : AMem} (hI : Inv B s L M) (hi : i + 5 ≤ L) (hL : L ≤ 2560) (hT : tl T) : CA B s L i 2542 T M := by
  obtain ⟨ns, np, no, nl, p, q, o, h⟩ := hI
  obtain ⟨M2, hc, hp⟩ := op39 h
  exact ⟨M2, T, hc, hT, ld39 (INV_ST h) hp⟩
theorem ld42 {B s i : Nat} {T : ALs} {M M2 : AMem} (hS : ST B M) (h : Pdi B s 86 167 M M2) : ∀ Q, EvP 205 2687 (LL B s i T) [] M Q = EvP 205 2700 (LL B s i T) [] M2 Q := by
  intro Q
  obtain ⟨M1, r, h1, k1, h2, k2⟩ := h
  simp only [LL, List.cons_append, List.nil_append]
  simp [lv_args, sStep, amStep, a_nx, a_ii, a_jj, a_ji, a_ld, a_st, a_if, a_ald, a_c1, a_c2, lkp, lput, lput2, lins, oP_none, oP_next, oP_call, oP_ret, oP_thr, outP_ite, aft_ret, aft_void, aft_thr, fHnd, List.isEmpty_nil, List.filter_cons, List.filter_nil, Value.category, csum, List.map_cons, List.map_nil, List.sum_cons, List.sum_nil, List.cons_append, List.nil_append, Option.toList, vp_nar_int, narrow_b1, narrow_b0, nc115, vc115, fc115, nc111, vc111, fc111, nc100, vc100, fc100, nc109, vc109, fc109, nc120, vc120, fc120, nc119, vc119, fc119, nc116, vc116, fc116, nc45, vc45, fc45, nc32, vc32, fc32, nc102, vc102, fc102, nc106, vc106, fc106, fin3, rf_some, rf_none, upd_ap, va_up_ap, nar_bi, fits_bi, nvp_bi, bi_t, bi_f, fval, fty, ftabs, wrv_0, wrv_1, wrv_2, wrv_3, wrv_5, mT_stI, mI_stI, mL_stI, mD_stI, mR_stI, mN_stI, mS_stI, mT_stL, mI_stL, mL_stL, mD_stL, mR_stL, mN_stL, mS_stL, mT_stD, mI_stD, mL_stD, mD_stD, mR_stD, mN_stD, mS_stD, mT_stR, mI_stR, mL_stR, mD_stR, mR_stR, mN_stR, mS_stR, mT_stN, mI_stN, mL_stN, mD_stN, mR_stN, mN_stN, mS_stN, e205_2687, e205_2688, e205_2691, e205_2692, e205_2695, e205_2698, e205_2699, rt205, cl86, cl167, h1, h2, tT0 hS, tT14 k1.1]
theorem ca42 {B s L i : Nat} {T : ALs} {M : AMem} (hI : Inv B s L M) (hi : i + 5 ≤ L) (hL : L ≤ 2560) (hT : tl T) : CA B s L i 2687 T M := by
  obtain ⟨ns, np, no, nl, p, q, o, h⟩ := hI
  obtain ⟨M2, hc, hp⟩ := op42 h
  exact ⟨M2, T, hc, hT, ld42 (INV_ST h) hp⟩
theorem sw0 {ls : ALs} {M : AMem} {Q : AR → Prop} : EvP 205 44 ls [.int (nI 0)] M Q = EvP 205 232 ls [] M Q := by
  rw [e205_44]
  rfl
theorem sw1 {ls : ALs} {M : AMem} {Q : AR → Prop} : EvP 205 44 ls [.int (nI 1)] M Q = EvP 205 300 ls [] M Q := by
  rw [e205_44]
  rfl
theorem sw2 {ls : ALs} {M : AMem} {Q : AR → Prop} : EvP 205 44 ls [.int (nI 2)] M Q = EvP 205 392 ls [] M Q := by
  rw [e205_44]
  rfl
theorem sw3 {ls : ALs} {M : AMem} {Q : AR → Prop} : EvP 205 44 ls [.int (nI 3)] M Q = EvP 205 472 ls [] M Q := by
  rw [e205_44]
  rfl
theorem sw4 {ls : ALs} {M : AMem} {Q : AR → Prop} : EvP 205 44 ls [.int (nI 4)] M Q = EvP 205 540 ls [] M Q := by
  rw [e205_44]
  rfl
theorem sw5 {ls : ALs} {M : AMem} {Q : AR → Prop} : EvP 205 44 ls [.int (nI 5)] M Q = EvP 205 603 ls [] M Q := by
  rw [e205_44]
  rfl
theorem sw6 {ls : ALs} {M : AMem} {Q : AR → Prop} : EvP 205 44 ls [.int (nI 6)] M Q = EvP 205 695 ls [] M Q := by
  rw [e205_44]
  rfl
theorem sw7 {ls : ALs} {M : AMem} {Q : AR → Prop} : EvP 205 44 ls [.int (nI 7)] M Q = EvP 205 751 ls [] M Q := by
  rw [e205_44]
  rfl
theorem sw8 {ls : ALs} {M : AMem} {Q : AR → Prop} : EvP 205 44 ls [.int (nI 8)] M Q = EvP 205 807 ls [] M Q := by
  rw [e205_44]
  rfl
theorem sw9 {ls : ALs} {M : AMem} {Q : AR → Prop} : EvP 205 44 ls [.int (nI 9)] M Q = EvP 205 875 ls [] M Q := by
  rw [e205_44]
  rfl
theorem sw10 {ls : ALs} {M : AMem} {Q : AR → Prop} : EvP 205 44 ls [.int (nI 10)] M Q = EvP 205 943 ls [] M Q := by
  rw [e205_44]
  rfl
theorem sw11 {ls : ALs} {M : AMem} {Q : AR → Prop} : EvP 205 44 ls [.int (nI 11)] M Q = EvP 205 956 ls [] M Q := by
  rw [e205_44]
  rfl
theorem sw12 {ls : ALs} {M : AMem} {Q : AR → Prop} : EvP 205 44 ls [.int (nI 12)] M Q = EvP 205 1040 ls [] M Q := by
  rw [e205_44]
  rfl
theorem sw13 {ls : ALs} {M : AMem} {Q : AR → Prop} : EvP 205 44 ls [.int (nI 13)] M Q = EvP 205 1096 ls [] M Q := by
  rw [e205_44]
  rfl
theorem sw14 {ls : ALs} {M : AMem} {Q : AR → Prop} : EvP 205 44 ls [.int (nI 14)] M Q = EvP 205 1192 ls [] M Q := by
  rw [e205_44]
  rfl
theorem sw15 {ls : ALs} {M : AMem} {Q : AR → Prop} : EvP 205 44 ls [.int (nI 15)] M Q = EvP 205 1205 ls [] M Q := by
  rw [e205_44]
  rfl
theorem sw16 {ls : ALs} {M : AMem} {Q : AR → Prop} : EvP 205 44 ls [.int (nI 16)] M Q = EvP 205 1218 ls [] M Q := by
  rw [e205_44]
  rfl
theorem sw17 {ls : ALs} {M : AMem} {Q : AR → Prop} : EvP 205 44 ls [.int (nI 17)] M Q = EvP 205 1231 ls [] M Q := by
  rw [e205_44]
  rfl
theorem sw18 {ls : ALs} {M : AMem} {Q : AR → Prop} : EvP 205 44 ls [.int (nI 18)] M Q = EvP 205 1311 ls [] M Q := by
  rw [e205_44]
  rfl
theorem sw19 {ls : ALs} {M : AMem} {Q : AR → Prop} : EvP 205 44 ls [.int (nI 19)] M Q = EvP 205 1324 ls [] M Q := by
  rw [e205_44]
  rfl
theorem sw20 {ls : ALs} {M : AMem} {Q : AR → Prop} : EvP 205 44 ls [.int (nI 20)] M Q = EvP 205 1382 ls [] M Q := by
  rw [e205_44]
  rfl
theorem sw21 {ls : ALs} {M : AMem} {Q : AR → Prop} : EvP 205 44 ls [.int (nI 21)] M Q = EvP 205 1440 ls [] M Q := by
  rw [e205_44]
  rfl
theorem sw22 {ls : ALs} {M : AMem} {Q : AR → Prop} : EvP 205 44 ls [.int (nI 22)] M Q = EvP 205 1498 ls [] M Q := by
  rw [e205_44]
  rfl
theorem sw23 {ls : ALs} {M : AMem} {Q : AR → Prop} : EvP 205 44 ls [.int (nI 23)] M Q = EvP 205 1554 ls [] M Q := by
  rw [e205_44]
  rfl
theorem sw24 {ls : ALs} {M : AMem} {Q : AR → Prop} : EvP 205 44 ls [.int (nI 24)] M Q = EvP 205 1610 ls [] M Q := by
  rw [e205_44]
  rfl
theorem sw25 {ls : ALs} {M : AMem} {Q : AR → Prop} : EvP 205 44 ls [.int (nI 25)] M Q = EvP 205 1666 ls [] M Q := by
  rw [e205_44]
  rfl
theorem sw26 {ls : ALs} {M : AMem} {Q : AR → Prop} : EvP 205 44 ls [.int (nI 26)] M Q = EvP 205 1734 ls [] M Q := by
  rw [e205_44]
  rfl
theorem sw27 {ls : ALs} {M : AMem} {Q : AR → Prop} : EvP 205 44 ls [.int (nI 27)] M Q = EvP 205 1797 ls [] M Q := by
  rw [e205_44]
  rfl
theorem sw28 {ls : ALs} {M : AMem} {Q : AR → Prop} : EvP 205 44 ls [.int (nI 28)] M Q = EvP 205 1860 ls [] M Q := by
  rw [e205_44]
  rfl
theorem sw29 {ls : ALs} {M : AMem} {Q : AR → Prop} : EvP 205 44 ls [.int (nI 29)] M Q = EvP 205 1928 ls [] M Q := by
  rw [e205_44]
  rfl
theorem sw30 {ls : ALs} {M : AMem} {Q : AR → Prop} : EvP 205 44 ls [.int (nI 30)] M Q = EvP 205 1996 ls [] M Q := by
  rw [e205_44]
  rfl
theorem sw31 {ls : ALs} {M : AMem} {Q : AR → Prop} : EvP 205 44 ls [.int (nI 31)] M Q = EvP 205 2080 ls [] M Q := by
  rw [e205_44]
  rfl
theorem sw32 {ls : ALs} {M : AMem} {Q : AR → Prop} : EvP 205 44 ls [.int (nI 32)] M Q = EvP 205 2148 ls [] M Q := by
  rw [e205_44]
  rfl
theorem sw33 {ls : ALs} {M : AMem} {Q : AR → Prop} : EvP 205 44 ls [.int (nI 33)] M Q = EvP 205 2204 ls [] M Q := by
  rw [e205_44]
  rfl
theorem sw34 {ls : ALs} {M : AMem} {Q : AR → Prop} : EvP 205 44 ls [.int (nI 34)] M Q = EvP 205 2260 ls [] M Q := by
  rw [e205_44]
  rfl
theorem sw35 {ls : ALs} {M : AMem} {Q : AR → Prop} : EvP 205 44 ls [.int (nI 35)] M Q = EvP 205 2354 ls [] M Q := by
  rw [e205_44]
  rfl
theorem sw36 {ls : ALs} {M : AMem} {Q : AR → Prop} : EvP 205 44 ls [.int (nI 36)] M Q = EvP 205 2367 ls [] M Q := by
  rw [e205_44]
  rfl
theorem sw37 {ls : ALs} {M : AMem} {Q : AR → Prop} : EvP 205 44 ls [.int (nI 37)] M Q = EvP 205 2430 ls [] M Q := by
  rw [e205_44]
  rfl
theorem sw38 {ls : ALs} {M : AMem} {Q : AR → Prop} : EvP 205 44 ls [.int (nI 38)] M Q = EvP 205 2486 ls [] M Q := by
  rw [e205_44]
  rfl
theorem sw39 {ls : ALs} {M : AMem} {Q : AR → Prop} : EvP 205 44 ls [.int (nI 39)] M Q = EvP 205 2542 ls [] M Q := by
  rw [e205_44]
  rfl
theorem sw40 {ls : ALs} {M : AMem} {Q : AR → Prop} : EvP 205 44 ls [.int (nI 40)] M Q = EvP 205 2556 ls [] M Q := by
  rw [e205_44]
  rfl
theorem sw41 {ls : ALs} {M : AMem} {Q : AR → Prop} : EvP 205 44 ls [.int (nI 41)] M Q = EvP 205 2622 ls [] M Q := by
  rw [e205_44]
  rfl
theorem sw42 {ls : ALs} {M : AMem} {Q : AR → Prop} : EvP 205 44 ls [.int (nI 42)] M Q = EvP 205 2687 ls [] M Q := by
  rw [e205_44]
  rfl
theorem sw43 {ls : ALs} {M : AMem} {Q : AR → Prop} : EvP 205 44 ls [.int (nI 43)] M Q = EvP 205 2700 ls [] M Q := by
  rw [e205_44]
  rfl
theorem sw44 {ls : ALs} {M : AMem} {Q : AR → Prop} : EvP 205 44 ls [.int (nI 44)] M Q = EvP 205 2700 ls [] M Q := by
  rw [e205_44]
  rfl
theorem sw45 {ls : ALs} {M : AMem} {Q : AR → Prop} : EvP 205 44 ls [.int (nI 45)] M Q = EvP 205 2700 ls [] M Q := by
  rw [e205_44]
  rfl
theorem sw46 {ls : ALs} {M : AMem} {Q : AR → Prop} : EvP 205 44 ls [.int (nI 46)] M Q = EvP 205 2700 ls [] M Q := by
  rw [e205_44]
  rfl
theorem sw47 {ls : ALs} {M : AMem} {Q : AR → Prop} : EvP 205 44 ls [.int (nI 47)] M Q = EvP 205 2700 ls [] M Q := by
  rw [e205_44]
  rfl
theorem sw48 {ls : ALs} {M : AMem} {Q : AR → Prop} : EvP 205 44 ls [.int (nI 48)] M Q = EvP 205 2700 ls [] M Q := by
  rw [e205_44]
  rfl
theorem sw49 {ls : ALs} {M : AMem} {Q : AR → Prop} : EvP 205 44 ls [.int (nI 49)] M Q = EvP 205 2700 ls [] M Q := by
  rw [e205_44]
  rfl
theorem sw50 {ls : ALs} {M : AMem} {Q : AR → Prop} : EvP 205 44 ls [.int (nI 50)] M Q = EvP 205 2700 ls [] M Q := by
  rw [e205_44]
  rfl
theorem sw51 {ls : ALs} {M : AMem} {Q : AR → Prop} : EvP 205 44 ls [.int (nI 51)] M Q = EvP 205 2700 ls [] M Q := by
  rw [e205_44]
  rfl
theorem sw52 {ls : ALs} {M : AMem} {Q : AR → Prop} : EvP 205 44 ls [.int (nI 52)] M Q = EvP 205 2700 ls [] M Q := by
  rw [e205_44]
  rfl
theorem sw53 {ls : ALs} {M : AMem} {Q : AR → Prop} : EvP 205 44 ls [.int (nI 53)] M Q = EvP 205 2700 ls [] M Q := by
  rw [e205_44]
  rfl
theorem sw54 {ls : ALs} {M : AMem} {Q : AR → Prop} : EvP 205 44 ls [.int (nI 54)] M Q = EvP 205 2700 ls [] M Q := by
  rw [e205_44]
  rfl
theorem sw55 {ls : ALs} {M : AMem} {Q : AR → Prop} : EvP 205 44 ls [.int (nI 55)] M Q = EvP 205 2700 ls [] M Q := by
  rw [e205_44]
  rfl
theorem sw56 {ls : ALs} {M : AMem} {Q : AR → Prop} : EvP 205 44 ls [.int (nI 56)] M Q = EvP 205 2700 ls [] M Q := by
  rw [e205_44]
  rfl
theorem sw57 {ls : ALs} {M : AMem} {Q : AR → Prop} : EvP 205 44 ls [.int (nI 57)] M Q = EvP 205 2700 ls [] M Q := by
  rw [e205_44]
  rfl
theorem sw58 {ls : ALs} {M : AMem} {Q : AR → Prop} : EvP 205 44 ls [.int (nI 58)] M Q = EvP 205 2700 ls [] M Q := by
  rw [e205_44]
  rfl
theorem sw59 {ls : ALs} {M : AMem} {Q : AR → Prop} : EvP 205 44 ls [.int (nI 59)] M Q = EvP 205 2700 ls [] M Q := by
  rw [e205_44]
  rfl
theorem sw60 {ls : ALs} {M : AMem} {Q : AR → Prop} : EvP 205 44 ls [.int (nI 60)] M Q = EvP 205 2700 ls [] M Q := by
  rw [e205_44]
  rfl
theorem sw61 {ls : ALs} {M : AMem} {Q : AR → Prop} : EvP 205 44 ls [.int (nI 61)] M Q = EvP 205 2700 ls [] M Q := by
  rw [e205_44]
  rfl
theorem sw62 {ls : ALs} {M : AMem} {Q : AR → Prop} : EvP 205 44 ls [.int (nI 62)] M Q = EvP 205 2700 ls [] M Q := by
  rw [e205_44]
  rfl
theorem sw63 {ls : ALs} {M : AMem} {Q : AR → Prop} : EvP 205 44 ls [.int (nI 63)] M Q = EvP 205 2700 ls [] M Q := by
  rw [e205_44]
  rfl
