/-! ===== the law: a kind's pack, and the end ===== -/
section LQs
variable {b B L R C : Nat} {xs : Nat → Int32} {M : AMem} {Q : AR → Prop} {o P T r u pl mk : Nat → Int32}
theorem BD9 (h : BD pl mk) : ∀ c, c < 54 → ∃ x, pl c = nI x ∧ x ≤ 9999 := fun c hc => by
  obtain ⟨x, y, e1, e2, e3⟩ := h c hc
  exact ⟨x, e1, by omega⟩
theorem segO2 {i N S : Nat} {K : Int32} (hx : KX i K) (hb : b < B) (h : LZ b B L xs R C o P T r u pl mk N S M) (hD : BD pl mk) (h10 : o 10 = 0) (k : ∀ M', LZ b B L xs R C o P T r u pl mk (N + 1) (S + 6) M' → EvP 190 1469 [(0, .ref b), (1, .ref B), (4, .int 1), (10, .ref (B + 35)), (16, .int (nI (i + 1)))] [] M' Q) (kQ : ∀ Mf, mN Mf ≤ N + 3 → mS Mf ≤ S + 75 → Q (Mf, .inl (some (.int 1)))) :
    EvP 190 1606 [(0, .ref b), (1, .ref B), (4, .int 1), (10, .ref (B + 35)), (16, .int (nI i)), (17, .int (poF pl K 54)), (18, .int (fiF pl K 54)), (19, .int (cnF K 54))] [] M Q := by
  have hkd := KX_kd hx
  have hch := KX_ch hx
  have hib : inb (nI i) 3 = true := inb_nI (KX_lt hx) (by decide)
  have hB := BD9 hD
  have h1 := LZ_N h hb
  have kk := k _ h1
  obtain ⟨⟨w, g2, g3, g4, g5, g6, g7, g8, g9⟩, ho, hpl, -⟩ := h.1
  rw [fi_dn 54 (Nat.le_refl _), cn_kc hkd]
  have x1 : ∀ Q, CaP 184 [.ref B, .int K] M Q = Q (M, .inl (some (.int (poF pl K 54)))) := fun Q => by
    have := @w184_ok B K _ M _ Q w.1 (fun Q => d65 w.1 hkd)
    rw [hpl] at this
    exact this
  by_cases c0 : poF pl K 54 = 0
  · have hl := (po_zero hB).mp c0
    have x2 : ∀ Q, CaP 183 [.ref B, .int K] M Q = Q (M, .inl (some (.int (dnF (lakF pl K) 54)))) := fun Q => by
      have := @w183_ok B K _ M _ Q w.1 (fun Q => d64 w.1 hkd (by rw [hpl]; exact hl))
      rw [hpl] at this
      exact this
    have x3 : ∀ Q, CaP 182 [.ref B, .int K] M Q = Q (stN M 0 0 6, .inl (some (.int (-900002)))) := fun Q => @w182_t3 B K M _ Q w.1 (fun Q => d63l w.1 hkd (by rw [hpl]; exact hl))
    rw [if_neg hl, c0]
    rw [c0] at x1
    generalize dnF (lakF pl K) 54 = D at x2 ⊢
    simp [lv_args, sStep, amStep, a_nx, a_ii, a_jj, a_ji, a_ld, a_st, a_if, a_ald, a_c1, a_c2, lkp, lput, lput2, lins, oP_none, oP_next, oP_call, oP_ret, oP_thr, outP_ite, aft_ret, aft_void, aft_thr, fHnd, List.isEmpty_nil, List.filter_cons, List.filter_nil, Value.category, csum, List.map_cons, List.map_nil, List.sum_cons, List.sum_nil, List.cons_append, List.nil_append, Option.toList, vp_nar_int, narrow_b1, narrow_b0, nc115, vc115, fc115, nc111, vc111, fc111, nc100, vc100, fc100, nc109, vc109, fc109, nc120, vc120, fc120, nc119, vc119, fc119, nc116, vc116, fc116, nc45, vc45, fc45, nc32, vc32, fc32, nc102, vc102, fc102, nc106, vc106, fc106, fin3, rf_some, rf_none, upd_ap, va_up_ap, nar_bi, fits_bi, nvp_bi, bi_t, bi_f, fval, fty, ftabs, wrv_0, wrv_1, wrv_2, wrv_3, wrv_5, mT_stI, mI_stI, mL_stI, mD_stI, mR_stI, mN_stI, mS_stI, mT_stL, mI_stL, mL_stL, mD_stL, mR_stL, mN_stL, mS_stL, mT_stD, mI_stD, mL_stD, mD_stD, mR_stD, mN_stD, mS_stD, mT_stR, mI_stR, mL_stR, mD_stR, mR_stR, mN_stR, mS_stR, mT_stN, mI_stN, mL_stN, mD_stN, mR_stN, mN_stN, mS_stN, e190_1606, e190_1613, e190_1615, e190_1617, e190_1618, e190_1620, e190_1623, e190_1625, e190_1628, e190_1629, e190_1631, e190_1634, e190_1636, e190_1639, e190_1640, e190_1642, e190_1645, e190_1647, e190_1650, e190_1652, e190_1655, e190_1656, e190_1659, e190_1660, e190_1663, e190_1664, e190_1665, e190_1667, e190_1669, e190_1672, e190_1674, e190_1675, e190_1676, e190_1679, e190_1681, e190_1684, e190_1685, e190_1687, e190_1690, e190_1692, e190_1693, e190_1694, e190_1697, e190_1698, e190_1701, e190_1702, e190_1703, e190_1705, e190_1707, e190_1710, e190_1711, e190_1712, e190_1715, e190_1717, e190_1720, e190_1721, e190_1722, e190_1725, e190_1727, e190_1730, e190_1731, e190_1734, e190_1737, e190_1738, e190_1741, e190_1742, e190_1743, e190_1746, rt190, hn190, nI_a1, hib, hch, cl182, cl183, cl184, x1, x2, x3, Int32.le_refl, nI_1]
    exact EvP_drop [(0, .ref b), (1, .ref B), (4, .int 1), (10, .ref (B + 35)), (16, .int (nI (i + 1)))] (by simp [gdL]) (by simp) kk
  · have hl : dnF (lakF pl K) 54 = -1 := Classical.byContradiction fun h => c0 ((po_zero hB).mpr h)
    have x2 : ∀ Q, CaP 183 [.ref B, .int K] M Q = Q (stN M 0 0 6, .inl (some (.int (-900002)))) := fun Q => @w183_t4 B K M _ Q w.1 (fun Q => d64n w.1 hkd (by rw [hpl]; exact hl))
    rw [if_pos hl]
    have hpg := po_gi hkd hB c0
    have c1 : ¬ poF pl K 54 ≤ 0 := by
      obtain ⟨z, hz, e⟩ := @po_nat pl K hB
      rw [e] at c0 ⊢
      rw [eq0 (by omega)] at c0
      rw [Int32.not_le, lt0 (by omega)]
      omega
    obtain ⟨l1, l2, l3, l4, l5, l6⟩ := h1
    obtain ⟨⟨w1, j2, j3, j4, j5, j6, j7, j8, j9⟩, jo, jpl, -⟩ := id l1
    obtain ⟨M2, e63, f1, f2, f3, f4, f5, f6, ⟨q4, q5, q6, q8, q1, q2⟩, fc, fl, fi, fg, ft⟩ := @d63 B K (stN M 0 0 6) w1 hkd (by rw [jpl]; exact hl) (by rw [jo]; exact h10) j2 j8 j7
    have x3 : ∀ Q, CaP 182 [.ref B, .int K] (stN M 0 0 6) Q = Q (M2, .inl (some (.int 0))) := fun Q => @w182_ok B K 0 (stN M 0 0 6) M2 Q w1.1 e63
    have hp0 : mR M2 (B + 8) 0 = some (mN (stN M 0 0 6)) := by rw [f4 0 (by decide), if_pos rfl]
    have h13 : ∀ k, k < 4 → mI M2 (B + 13) k = 0 := fun k _ => by rw [fi _ (by omega) (by omega) (by omega), j9]
    rw [jpl] at fg
    generalize mN (stN M 0 0 6) = q at *
    have hn60 : kcF K 54 ≤ 60 := Nat.le_trans kcF_le (by decide)
    obtain ⟨ks1, ks2⟩ := ksM_ok hkd
    have hc : csF (mI M2 (q + 1)) (kcF K 54) = ksF K := by rw [fc, cs_co, ks1]
    have x4 : ∀ Q, CaP 187 [.ref B, .int 0] M2 Q = Q (M2, .inl (some (.int (nI (kcF K 54))))) := fun Q => by
      have := @w187_ok B 0 _ M2 _ Q f1 (fun Q => d68 f1 hp0 f6)
      rw [q4] at this
      exact this
    have x5 : ∀ Q, CaP 184 [.ref B, .int K] M2 Q = Q (M2, .inl (some (.int (poF pl K 54 - 1)))) := fun Q => by
      have := @w184_ok B K _ M2 _ Q f1 (fun Q => d65 f1 hkd)
      rw [fg, hpg] at this
      exact this
    have x6 : ∀ Q, CaP 185 [.ref B, .int 0] M2 Q = Q (M2, .inl (some (.int 115))) := fun Q => @w185_ok B 0 _ M2 _ Q f1 (fun Q => d66 f1 hp0 f6 q5)
    have x7 : ∀ Q, CaP 186 [.ref B, .int 0] M2 Q = Q (M2, .inl (some (.int 116))) := fun Q => @w186_ok B 0 _ M2 _ Q f1 (fun Q => d67 f1 hp0 f6 q4 hn60 hkd fl hc ks2 q1 q2)
    have t0 : (mT M2 B).1 = 8 := by rw [tT0 f1]
    have x8 : ∀ Q, CaP 86 [.ref B] M2 Q = Q (M2, .inl (some (.int 1))) := fun Q => d86 (fun i => if i = 0 then some q else none) f1 f5 h13 f4 (fun i q' hi hq => by
      by_cases e : i = 0
      · simp only [if_pos e, Option.some.injEq] at hq
        subst hq
        refine ⟨by rw [pk0 f6], fun Q => sp17 f6 q4 hn60 hkd fl (fun k hk => ?_) (fun h => absurd q8 h) (fun _ => ⟨hc, ks2⟩)⟩
        rw [fc]
        exact coF_in 54 (Nat.le_refl _) k hk
      · simp only [if_neg e] at hq
        cases hq)
    have kq := kQ M2 (by omega) (by omega)
    generalize poF pl K 54 = X at x1 x5 c0 c1 ⊢
    generalize nI (kcF K 54) = Z at x4 ⊢
    simp [lv_args, sStep, amStep, a_nx, a_ii, a_jj, a_ji, a_ld, a_st, a_if, a_ald, a_c1, a_c2, lkp, lput, lput2, lins, oP_none, oP_next, oP_call, oP_ret, oP_thr, outP_ite, aft_ret, aft_void, aft_thr, fHnd, List.isEmpty_nil, List.filter_cons, List.filter_nil, Value.category, csum, List.map_cons, List.map_nil, List.sum_cons, List.sum_nil, List.cons_append, List.nil_append, Option.toList, vp_nar_int, narrow_b1, narrow_b0, nc115, vc115, fc115, nc111, vc111, fc111, nc100, vc100, fc100, nc109, vc109, fc109, nc120, vc120, fc120, nc119, vc119, fc119, nc116, vc116, fc116, nc45, vc45, fc45, nc32, vc32, fc32, nc102, vc102, fc102, nc106, vc106, fc106, fin3, rf_some, rf_none, upd_ap, va_up_ap, nar_bi, fits_bi, nvp_bi, bi_t, bi_f, fval, fty, ftabs, wrv_0, wrv_1, wrv_2, wrv_3, wrv_5, mT_stI, mI_stI, mL_stI, mD_stI, mR_stI, mN_stI, mS_stI, mT_stL, mI_stL, mL_stL, mD_stL, mR_stL, mN_stL, mS_stL, mT_stD, mI_stD, mL_stD, mD_stD, mR_stD, mN_stD, mS_stD, mT_stR, mI_stR, mL_stR, mD_stR, mR_stR, mN_stR, mS_stR, mT_stN, mI_stN, mL_stN, mD_stN, mR_stN, mN_stN, mS_stN, e190_1606, e190_1613, e190_1615, e190_1617, e190_1618, e190_1620, e190_1623, e190_1625, e190_1628, e190_1629, e190_1631, e190_1634, e190_1636, e190_1639, e190_1640, e190_1642, e190_1645, e190_1647, e190_1650, e190_1652, e190_1655, e190_1656, e190_1659, e190_1660, e190_1663, e190_1664, e190_1665, e190_1667, e190_1669, e190_1672, e190_1674, e190_1675, e190_1676, e190_1679, e190_1681, e190_1684, e190_1685, e190_1687, e190_1690, e190_1692, e190_1693, e190_1694, e190_1697, e190_1698, e190_1701, e190_1702, e190_1703, e190_1705, e190_1707, e190_1710, e190_1711, e190_1712, e190_1715, e190_1717, e190_1720, e190_1721, e190_1722, e190_1725, e190_1727, e190_1730, e190_1731, e190_1734, e190_1737, e190_1738, e190_1741, e190_1742, e190_1743, e190_1746, rt190, hn190, nI_a1, hib, hch, cl182, cl183, cl184, cl185, cl186, cl187, cl86, t0, x1, x2, x3, x4, x5, x6, x7, x8, c0, c1]
    exact kq
theorem segO {N S : Nat} (hb : b < B) (h : LZ b B L xs R C o P T r u pl mk N S M) (hD : BD pl mk) (h10 : o 10 = 0) (k : ∀ M', LZ b B L xs R C o P T r u pl mk (N + 3) (S + 18) M' → EvP 190 1749 [(0, .ref b), (1, .ref B), (4, .int 1), (10, .ref (B + 35))] [] M' Q) (kQ : ∀ Mf, mN Mf ≤ N + 6 → mS Mf ≤ S + 100 → Q (Mf, .inl (some (.int 1)))) :
    EvP 190 1466 [(0, .ref b), (1, .ref B), (4, .int 1), (10, .ref (B + 35))] [] M Q := by
  have A1 : EvP 190 1466 [(0, .ref b), (1, .ref B), (4, .int 1), (10, .ref (B + 35))] [] M Q = EvP 190 1469 [(0, .ref b), (1, .ref B), (4, .int 1), (10, .ref (B + 35)), (16, .int (nI 0))] [] M Q := by
    simp [lv_args, sStep, amStep, a_nx, a_ii, a_jj, a_ji, a_ld, a_st, a_if, a_ald, a_c1, a_c2, lkp, lput, lput2, lins, oP_none, oP_next, oP_call, oP_ret, oP_thr, outP_ite, aft_ret, aft_void, aft_thr, fHnd, List.isEmpty_nil, List.filter_cons, List.filter_nil, Value.category, csum, List.map_cons, List.map_nil, List.sum_cons, List.sum_nil, List.cons_append, List.nil_append, Option.toList, vp_nar_int, narrow_b1, narrow_b0, nc115, vc115, fc115, nc111, vc111, fc111, nc100, vc100, fc100, nc109, vc109, fc109, nc120, vc120, fc120, nc119, vc119, fc119, nc116, vc116, fc116, nc45, vc45, fc45, nc32, vc32, fc32, nc102, vc102, fc102, nc106, vc106, fc106, fin3, rf_some, rf_none, upd_ap, va_up_ap, nar_bi, fits_bi, nvp_bi, bi_t, bi_f, fval, fty, ftabs, wrv_0, wrv_1, wrv_2, wrv_3, wrv_5, mT_stI, mI_stI, mL_stI, mD_stI, mR_stI, mN_stI, mS_stI, mT_stL, mI_stL, mL_stL, mD_stL, mR_stL, mN_stL, mS_stL, mT_stD, mI_stD, mL_stD, mD_stD, mR_stD, mN_stD, mS_stD, mT_stR, mI_stR, mL_stR, mD_stR, mR_stR, mN_stR, mS_stR, mT_stN, mI_stN, mL_stN, mD_stN, mR_stN, mN_stN, mS_stN, e190_1466, e190_1467, rt190, hn190, nI_a1, nI_0]
  rw [A1]
  refine loopK (m := 190) (pc := 1469) (Q := Q) 3 (fun i => [(0, .ref b), (1, .ref B), (4, .int 1), (10, .ref (B + 35)), (16, .int (nI i))]) (fun i M' => LZ b B L xs R C o P T r u pl mk (N + i) (S + 6 * i) M') (fun i hi M' hI kk => ?_) (fun M' hI => ?_) M h
  · obtain ⟨K, hx⟩ : ∃ K, KX i K := by
      rcases (show i = 0 ∨ i = 1 ∨ i = 2 by omega) with e | e | e
      · exact ⟨102, Or.inl ⟨e, rfl⟩⟩
      · exact ⟨106, Or.inr (Or.inl ⟨e, rfl⟩)⟩
      · exact ⟨115, Or.inr (Or.inr ⟨e, rfl⟩)⟩
    refine segO1 hx hI.2.2.2.2.1 hI.2.2.2.2.2 (segO2 hx hb hI hD h10 (fun M2 h2 => kk M2 ?_) fun Mf q1 q2 => kQ Mf (by omega) (by omega))
    have e : S + 6 * (i + 1) = S + 6 * i + 6 := by omega
    rw [e]
    exact h2
  · have n3 : (3 : Int32) ≤ nI 3 := Int32.le_refl 3
    rw [e190_1469]
    simp [lv_args, sStep, amStep, a_nx, a_ii, a_jj, a_ji, a_ld, a_st, a_if, a_ald, a_c1, a_c2, lkp, lput, lput2, lins, oP_none, oP_next, oP_call, oP_ret, oP_thr, outP_ite, aft_ret, aft_void, aft_thr, fHnd, List.isEmpty_nil, List.filter_cons, List.filter_nil, Value.category, csum, List.map_cons, List.map_nil, List.sum_cons, List.sum_nil, List.cons_append, List.nil_append, Option.toList, vp_nar_int, narrow_b1, narrow_b0, nc115, vc115, fc115, nc111, vc111, fc111, nc100, vc100, fc100, nc109, vc109, fc109, nc120, vc120, fc120, nc119, vc119, fc119, nc116, vc116, fc116, nc45, vc45, fc45, nc32, vc32, fc32, nc102, vc102, fc102, nc106, vc106, fc106, fin3, rf_some, rf_none, upd_ap, va_up_ap, nar_bi, fits_bi, nvp_bi, bi_t, bi_f, fval, fty, ftabs, wrv_0, wrv_1, wrv_2, wrv_3, wrv_5, mT_stI, mI_stI, mL_stI, mD_stI, mR_stI, mN_stI, mS_stI, mT_stL, mI_stL, mL_stL, mD_stL, mR_stL, mN_stL, mS_stL, mT_stD, mI_stD, mL_stD, mD_stD, mR_stD, mN_stD, mS_stD, mT_stR, mI_stR, mL_stR, mD_stR, mR_stR, mN_stR, mS_stR, mT_stN, mI_stN, mL_stN, mD_stN, mR_stN, mN_stN, mS_stN, e190_1471, e190_1472, e190_1475, e190_1478, e190_1480, e190_1482, e190_1484, e190_1485, e190_1487, e190_1489, e190_1491, e190_1493, e190_1496, e190_1498, e190_1499, e190_1502, e190_1504, e190_1506, e190_1509, e190_1511, e190_1514, e190_1516, e190_1518, e190_1519, e190_1520, e190_1523, e190_1524, e190_1527, e190_1528, e190_1530, e190_1532, e190_1534, e190_1537, e190_1538, e190_1541, e190_1542, e190_1543, e190_1545, e190_1547, e190_1550, e190_1552, e190_1554, e190_1555, e190_1556, e190_1557, e190_1559, e190_1562, e190_1564, e190_1566, e190_1567, e190_1568, e190_1569, e190_1572, e190_1574, e190_1576, e190_1578, e190_1581, e190_1583, e190_1585, e190_1586, e190_1587, e190_1588, e190_1591, e190_1593, e190_1596, e190_1598, e190_1600, e190_1603, e190_1606, e190_1613, e190_1615, e190_1617, e190_1618, e190_1620, e190_1623, e190_1625, e190_1628, e190_1629, e190_1631, e190_1634, e190_1636, e190_1639, e190_1640, e190_1642, e190_1645, e190_1647, e190_1650, e190_1652, e190_1655, e190_1656, e190_1659, e190_1660, e190_1663, e190_1664, e190_1665, e190_1667, e190_1669, e190_1672, e190_1674, e190_1675, e190_1676, e190_1679, e190_1681, e190_1684, e190_1685, e190_1687, e190_1690, e190_1692, e190_1693, e190_1694, e190_1697, e190_1698, e190_1701, e190_1702, e190_1703, e190_1705, e190_1707, e190_1710, e190_1711, e190_1712, e190_1715, e190_1717, e190_1720, e190_1721, e190_1722, e190_1725, e190_1727, e190_1730, e190_1731, e190_1734, e190_1737, e190_1738, e190_1741, e190_1742, e190_1743, e190_1746, rt190, hn190, nI_a1, n3]
    exact EvP_drop [(0, .ref b), (1, .ref B), (4, .int 1), (10, .ref (B + 35))] (by simp [gdL]) (by simp) (k M' hI)
theorem LB_4 {f : Nat → Int32} (h : LB b B L xs R C o P T r u pl mk M) (hb : b < B) : LB b B L xs R C o P T r u pl f (stI M (B + 4) f) := LB_p4 h hb
theorem segP {N S : Nat} (hb : b < B) (hL : L ≤ 260) (h : LZ b B L xs R C o P T r u pl mk N S M) (kQ : ∀ Mf, mN Mf ≤ N + 3 → mS Mf ≤ S + 18 → Q (Mf, .inl (some (.int 1)))) :
    EvP 190 1749 [(0, .ref b), (1, .ref B), (4, .int 1), (10, .ref (B + 35))] [] M Q := by
  obtain ⟨g1, g2, g3, g4, ⟨p1, p2⟩, g6⟩ := h
  obtain ⟨⟨w, -, hb1, -⟩, -, hpl, hmk, -⟩ := id g1
  obtain ⟨z, hz, q1⟩ : ∃ z, z < 54 ∧ ∀ Q, CaP 189 [.ref b, .int 4, .int 54] M Q = Q (M, .inl (some (.int (nI z)))) := ⟨_, inN_lt (by decide), fun Q => sp189 (i := 4) (n := 54) hb1 (by omega) (by decide) (by decide) (by decide)⟩
  obtain ⟨r1, r2⟩ := p2 z hz
  obtain ⟨v1, v2⟩ := g6 z hz
  have x1 : ∀ Q, CaP 181 [.ref B, .int (nI z)] M Q = Q (stI M (B + 4) (upd mk z 0), .inl (some (.int (mk z)))) := fun Q => by
    have := @w181_ok B (nI z) _ M _ Q w.1 (fun Q => d56 w.1 hz)
    rw [hmk] at this
    exact this
  have A1 : EvP 190 1749 [(0, .ref b), (1, .ref B), (4, .int 1), (10, .ref (B + 35))] [] M Q = EvP 190 1779 [(0, .ref b), (1, .ref B), (4, .int 1), (10, .ref (B + 35)), (16, .int (nI z))] [] (stI M (B + 4) (upd mk z 0)) Q := by
    have n1 : mI (stI M (B + 4) (upd mk z 0)) (B + 36 + z) 1 = mk z := by rw [mI_stI, va_up_ap, if_neg (by omega)]; exact v2
    have n2 : mT (stI M (B + 4) (upd mk z 0)) = mT M := mT_stI
    have n3 : mR (stI M (B + 4) (upd mk z 0)) = mR M := mR_stI
    generalize stI M (B + 4) (upd mk z 0) = M1 at x1 n1 n2 n3 ⊢
    simp [lv_args, sStep, amStep, a_nx, a_ii, a_jj, a_ji, a_ld, a_st, a_if, a_ald, a_c1, a_c2, lkp, lput, lput2, lins, oP_none, oP_next, oP_call, oP_ret, oP_thr, outP_ite, aft_ret, aft_void, aft_thr, fHnd, List.isEmpty_nil, List.filter_cons, List.filter_nil, Value.category, csum, List.map_cons, List.map_nil, List.sum_cons, List.sum_nil, List.cons_append, List.nil_append, Option.toList, vp_nar_int, narrow_b1, narrow_b0, nc115, vc115, fc115, nc111, vc111, fc111, nc100, vc100, fc100, nc109, vc109, fc109, nc120, vc120, fc120, nc119, vc119, fc119, nc116, vc116, fc116, nc45, vc45, fc45, nc32, vc32, fc32, nc102, vc102, fc102, nc106, vc106, fc106, fin3, rf_some, rf_none, upd_ap, va_up_ap, nar_bi, fits_bi, nvp_bi, bi_t, bi_f, fval, fty, ftabs, wrv_0, wrv_1, wrv_2, wrv_3, wrv_5, mT_stI, mI_stI, mL_stI, mD_stI, mR_stI, mN_stI, mS_stI, mT_stL, mI_stL, mL_stL, mD_stL, mR_stL, mN_stL, mS_stL, mT_stD, mI_stD, mL_stD, mD_stD, mR_stD, mN_stD, mS_stD, mT_stR, mI_stR, mL_stR, mD_stR, mR_stR, mN_stR, mS_stR, mT_stN, mI_stN, mL_stN, mD_stN, mR_stN, mN_stN, mS_stN, e190_1749, e190_1750, e190_1751, e190_1753, e190_1756, e190_1758, e190_1760, e190_1763, e190_1764, e190_1766, e190_1769, e190_1771, e190_1773, e190_1774, e190_1775, e190_1776, rt190, hn190, nI_a1, cl189, q1, cl181, x1, n2, n3, p1, inb_nI hz, nI_clamp (show z < 2 ^ 31 by omega), r1, r2, ib12, ic1, n1]
  rw [A1]
  have h1 := LB_4 (f := upd mk z 0) g1 hb
  have b1 : mN (stI M (B + 4) (upd mk z 0)) = mN M := mN_stI ..
  have b2 : mS (stI M (B + 4) (upd mk z 0)) = mS M := mS_stI ..
  have zz : upd mk z 0 z = 0 := by rw [upd_ap, if_pos rfl]
  generalize upd mk z 0 = mk' at *
  generalize stI M (B + 4) mk' = M1 at *
  have h2 := @LB_N b B L R C xs M1 o P T r u pl mk' 0 0 6 h1 hb
  have h3 := @LB_N b B L R C xs _ o P T r u pl mk' 0 0 6 h2 hb
  have h4 := @LB_N b B L R C xs _ o P T r u pl mk' 0 0 6 h3 hb
  obtain ⟨⟨w1, s1, -⟩, -, -, m1, -⟩ := id h1
  obtain ⟨⟨w2, s2, -⟩, -⟩ := id h2
  obtain ⟨⟨w3, s3, -⟩, -⟩ := id h3
  obtain ⟨⟨w4, s4, _, _, _, _, _, _, y4⟩, -⟩ := id h4
  have x2 : ∀ Q, CaP 180 [.ref B, .int (nI z), .int 1] M1 Q = Q (M1, .inl (some (.int 0))) := fun Q => by
    have := @w180_ok B (nI z) 1 _ M1 _ Q w1.1 (fun Q => d55m w1.1 hz)
    rw [m1, zz] at this
    exact this
  have x3 := fun Q => @w185_t2 B 0 M1 _ Q w1.1 (fun Q => d66x w1.1 s1)
  have k120 : kdF 120 = false := by decide
  have x4 := fun Q => @w182_t0 B 120 _ _ Q w2.1 (fun Q => d63x w2.1 k120)
  have x5 := fun Q => @w184_t0 B 120 _ _ Q w3.1 (fun Q => d65x w3.1 k120)
  have t0 : (mT (stN (stN (stN M1 0 0 6) 0 0 6) 0 0 6) B).1 = 8 := by rw [tT0 w4.1]
  have x6 : ∀ Q, CaP 86 [.ref B] (stN (stN (stN M1 0 0 6) 0 0 6) 0 0 6) Q = Q (stN (stN (stN M1 0 0 6) 0 0 6) 0 0 6, .inl (some (.int 1))) := fun Q => d86 (fun _ => none) w4.1 w4.2.2.2.1 (fun k _ => by rw [y4]) s4 (fun i q hi hq => nomatch hq)
  have kq := kQ (stN (stN (stN M1 0 0 6) 0 0 6) 0 0 6) (by simp only [mN_stN]; omega) (by simp only [mS_stN]; omega)
  generalize hA : stN M1 0 0 6 = Ma at *
  generalize hBb : stN Ma 0 0 6 = Mb at *
  generalize hC : stN Mb 0 0 6 = Mc at *
  simp [lv_args, sStep, amStep, a_nx, a_ii, a_jj, a_ji, a_ld, a_st, a_if, a_ald, a_c1, a_c2, lkp, lput, lput2, lins, oP_none, oP_next, oP_call, oP_ret, oP_thr, outP_ite, aft_ret, aft_void, aft_thr, fHnd, List.isEmpty_nil, List.filter_cons, List.filter_nil, Value.category, csum, List.map_cons, List.map_nil, List.sum_cons, List.sum_nil, List.cons_append, List.nil_append, Option.toList, vp_nar_int, narrow_b1, narrow_b0, nc115, vc115, fc115, nc111, vc111, fc111, nc100, vc100, fc100, nc109, vc109, fc109, nc120, vc120, fc120, nc119, vc119, fc119, nc116, vc116, fc116, nc45, vc45, fc45, nc32, vc32, fc32, nc102, vc102, fc102, nc106, vc106, fc106, fin3, rf_some, rf_none, upd_ap, va_up_ap, nar_bi, fits_bi, nvp_bi, bi_t, bi_f, fval, fty, ftabs, wrv_0, wrv_1, wrv_2, wrv_3, wrv_5, mT_stI, mI_stI, mL_stI, mD_stI, mR_stI, mN_stI, mS_stI, mT_stL, mI_stL, mL_stL, mD_stL, mR_stL, mN_stL, mS_stL, mT_stD, mI_stD, mL_stD, mD_stD, mR_stD, mN_stD, mS_stD, mT_stR, mI_stR, mL_stR, mD_stR, mR_stR, mN_stR, mS_stR, mT_stN, mI_stN, mL_stN, mD_stN, mR_stN, mN_stN, mS_stN, e190_1779, e190_1780, e190_1782, e190_1783, e190_1786, e190_1789, e190_1790, e190_1791, e190_1794, e190_1796, e190_1799, e190_1800, e190_1802, e190_1805, e190_1807, e190_1810, e190_1811, e190_1813, e190_1816, e190_1818, e190_1821, e190_1822, e190_1825, e190_1828, e190_1829, e190_1832, e190_1833, rt190, hn190, nI_a1, cl180, cl185, cl182, cl184, cl86, x2, x3, x4, x5, t0, x6]
  exact kq
end LQs
