/-! ===== the law: the tally, what is refused, the sums, the yield ===== -/
theorem fc_self {y : UInt32} (h : FP.Core.fIsNaN y = false) : FP.fcmp y y = some .eq := FP.Core.fcmp_self ((FP.Core.notNaN_iff32 y).mp h)
section LO
variable {b B L R C : Nat} {xs : Nat → Int32} {M : AMem} {Q : AR → Prop} {o P T r u pl mk : Nat → Int32}
theorem PLs_N {k n sl : Nat} (h : PLs B pl mk M) (hN : B + 90 ≤ mN M) : PLs B pl mk (stN M k n sl) := fun c hc => by
  rw [mI_stN, va_up_ap, if_neg (by omega)]
  exact h c hc
/-- what the law keeps from the prints on -/
def LZ (b B L : Nat) (xs : Nat → Int32) (R C : Nat) (o P T r u pl mk : Nat → Int32) (N S : Nat) (M : AMem) : Prop := LB b B L xs R C o P T r u pl mk M ∧ B + 90 ≤ mN M ∧ mN M ≤ N ∧ mS M ≤ S ∧ PZ B M ∧ PLs B pl mk M
theorem LZ_N {N S : Nat} (h : LZ b B L xs R C o P T r u pl mk N S M) (hb : b < B) : LZ b B L xs R C o P T r u pl mk (N + 1) (S + 6) (stN M 0 0 6) := by
  obtain ⟨h1, h2, h3, h4, h5, h6⟩ := h
  exact ⟨LB_N h1 hb, by rw [mN_stN]; omega, by rw [mN_stN]; omega, by rw [mS_stN]; omega, PZ_N h5 h2, PLs_N h6 h2⟩
theorem segL {N S : Nat} (hb : b < B) (h : LZ b B L xs R C o P T r u pl mk N S M) (k : ∀ M', LZ b B L xs R C o P T r u pl mk (N + 5) (S + 30) M' → EvP 190 1375 [(0, .ref b), (1, .ref B), (4, .int 1), (10, .ref (B + 35)), (11, .int (o 5))] [] M' Q) :
    EvP 190 1298 [(0, .ref b), (1, .ref B), (4, .int 1), (10, .ref (B + 35)), (11, .int (o 5))] [] M Q := by
  have w := h.1.1.1
  have t0 : (mT M B).1 = 8 := by rw [tT0 w.1]
  have x0 : ∀ Q, CaP 54 [.ref B] M Q = Q (M, .inl (some (.int (o 5)))) := fun Q => by rw [d54 w.1, h.1.2.1]
  have h1 := LZ_N h hb
  have h2 := LZ_N h1 hb
  have h3 := LZ_N h2 hb
  have h4 := LZ_N h3 hb
  have h5 := LZ_N h4 hb
  have kk := k _ h5
  have w1 := h1.1.1.1
  have w2 := h2.1.1.1
  have w3 := h3.1.1.1
  have w4 := h4.1.1.1
  have x1 := fun Q => @w179_t0 B 0 100 M _ Q w.1 (fun Q => d53x w)
  have x2 := fun Q => @w179_t2 B 1 1 (stN M 0 0 6) _ Q w1.1 (fun Q => d53y w1)
  have x3 := fun Q => @w177_t0 B 81 (stN (stN M 0 0 6) 0 0 6) _ Q w2.1 (fun Q => d51x w2.1)
  have x4 := fun Q => @w178_t0 B 21 0 (stN (stN (stN M 0 0 6) 0 0 6) 0 0 6) _ Q w3.1 (fun Q => d52x w3.1)
  have x5 := fun Q => @w180_t0 B 54 1 (stN (stN (stN (stN M 0 0 6) 0 0 6) 0 0 6) 0 0 6) _ Q w4.1 (fun Q => d55x w4.1)
  simp [lv_args, sStep, amStep, a_nx, a_ii, a_jj, a_ji, a_ld, a_st, a_if, a_ald, a_c1, a_c2, lkp, lput, lput2, lins, oP_none, oP_next, oP_call, oP_ret, oP_thr, outP_ite, aft_ret, aft_void, aft_thr, fHnd, List.isEmpty_nil, List.filter_cons, List.filter_nil, Value.category, csum, List.map_cons, List.map_nil, List.sum_cons, List.sum_nil, List.cons_append, List.nil_append, Option.toList, vp_nar_int, narrow_b1, narrow_b0, nc115, vc115, fc115, nc111, vc111, fc111, nc100, vc100, fc100, nc109, vc109, fc109, nc120, vc120, fc120, nc119, vc119, fc119, nc116, vc116, fc116, nc45, vc45, fc45, nc32, vc32, fc32, nc102, vc102, fc102, nc106, vc106, fc106, fin3, rf_some, rf_none, upd_ap, va_up_ap, nar_bi, fits_bi, nvp_bi, bi_t, bi_f, fval, fty, ftabs, wrv_0, wrv_1, wrv_2, wrv_3, wrv_5, mT_stI, mI_stI, mL_stI, mD_stI, mR_stI, mN_stI, mS_stI, mT_stL, mI_stL, mL_stL, mD_stL, mR_stL, mN_stL, mS_stL, mT_stD, mI_stD, mL_stD, mD_stD, mR_stD, mN_stD, mS_stD, mT_stR, mI_stR, mL_stR, mD_stR, mR_stR, mN_stR, mS_stR, mT_stN, mI_stN, mL_stN, mD_stN, mR_stN, mN_stN, mS_stN, e190_1298, e190_1300, e190_1301, e190_1304, e190_1306, e190_1309, e190_1310, e190_1311, e190_1313, e190_1316, e190_1318, e190_1321, e190_1322, e190_1323, e190_1324, e190_1327, e190_1329, e190_1332, e190_1333, e190_1335, e190_1338, e190_1340, e190_1343, e190_1344, e190_1346, e190_1347, e190_1350, e190_1352, e190_1355, e190_1356, e190_1358, e190_1359, e190_1362, e190_1364, e190_1367, e190_1368, e190_1371, e190_1372, e190_1373, rt190, hn190, nI_a1, cl54, t0, x0, cl177, cl178, cl179, cl180, x1, x2, x3, x4, x5, jv1, jv2]
  exact kk
theorem segM (hZ : PZ B M) (hV : PLs B pl mk M) (k : EvP 190 1436 [(0, .ref b), (1, .ref B), (4, .int 1), (10, .ref (B + 35)), (14, .int (sumF pl 54)), (15, .int (sumF (fun c => pl c + mk c) 54))] [] M Q) {x : Int32} :
    EvP 190 1375 [(0, .ref b), (1, .ref B), (4, .int 1), (10, .ref (B + 35)), (11, .int x)] [] M Q := by
  obtain ⟨p1, p2⟩ := hZ
  have i54 : Int32.ofNat 54 = 54 := rfl
  have A1 : EvP 190 1375 [(0, .ref b), (1, .ref B), (4, .int 1), (10, .ref (B + 35)), (11, .int x)] [] M Q = EvP 190 1393 [(0, .ref b), (1, .ref B), (4, .int 1), (10, .ref (B + 35)), (11, .int x), (14, .int 0), (15, .int 0), (16, .ref (B + 35)), (17, .int 54), (18, .int 0)] [] M Q := by
    simp [lv_args, sStep, amStep, a_nx, a_ii, a_jj, a_ji, a_ld, a_st, a_if, a_ald, a_c1, a_c2, lkp, lput, lput2, lins, oP_none, oP_next, oP_call, oP_ret, oP_thr, outP_ite, aft_ret, aft_void, aft_thr, fHnd, List.isEmpty_nil, List.filter_cons, List.filter_nil, Value.category, csum, List.map_cons, List.map_nil, List.sum_cons, List.sum_nil, List.cons_append, List.nil_append, Option.toList, vp_nar_int, narrow_b1, narrow_b0, nc115, vc115, fc115, nc111, vc111, fc111, nc100, vc100, fc100, nc109, vc109, fc109, nc120, vc120, fc120, nc119, vc119, fc119, nc116, vc116, fc116, nc45, vc45, fc45, nc32, vc32, fc32, nc102, vc102, fc102, nc106, vc106, fc106, fin3, rf_some, rf_none, upd_ap, va_up_ap, nar_bi, fits_bi, nvp_bi, bi_t, bi_f, fval, fty, ftabs, wrv_0, wrv_1, wrv_2, wrv_3, wrv_5, mT_stI, mI_stI, mL_stI, mD_stI, mR_stI, mN_stI, mS_stI, mT_stL, mI_stL, mL_stL, mD_stL, mR_stL, mN_stL, mS_stL, mT_stD, mI_stD, mL_stD, mD_stD, mR_stD, mN_stD, mS_stD, mT_stR, mI_stR, mL_stR, mD_stR, mR_stR, mN_stR, mS_stR, mT_stN, mI_stN, mL_stN, mD_stN, mR_stN, mN_stN, mS_stN, e190_1375, e190_1376, e190_1378, e190_1379, e190_1381, e190_1383, e190_1385, e190_1387, e190_1388, e190_1390, e190_1391, rt190, hn190, nI_a1, p1, i54]
  rw [A1]
  have L0 : EvP 190 1393 [(0, .ref b), (1, .ref B), (4, .int 1), (10, .ref (B + 35)), (14, .int (sumF pl 0)), (15, .int (sumF (fun c => pl c + mk c) 0)), (16, .ref (B + 35)), (17, .int 54), (18, .int (nI 0))] [] M Q := by
    refine loopK (m := 190) (pc := 1393) (Q := Q) 54 (fun j => [(0, .ref b), (1, .ref B), (4, .int 1), (10, .ref (B + 35)), (14, .int (sumF pl j)), (15, .int (sumF (fun c => pl c + mk c) j)), (16, .ref (B + 35)), (17, .int 54), (18, .int (nI j))]) (fun _ M' => M' = M) (fun j hj M' hM kk => ?_) (fun M' hM => ?_) M rfl
    · subst hM
      obtain ⟨r1, r2⟩ := p2 j hj
      obtain ⟨v1, v2⟩ := hV j hj
      have kk3 := kk M' rfl
      have e1 : sumF pl (j + 1) = sumF pl j + pl j := rfl
      have e2 : sumF (fun c => pl c + mk c) (j + 1) = sumF (fun c => pl c + mk c) j + (pl j + mk j) := rfl
      rw [e1, e2] at kk3
      generalize sumF pl j = X at kk3 ⊢
      generalize sumF (fun c => pl c + mk c) j = Y at kk3 ⊢
      rw [e190_1393]
      simp [lv_args, sStep, amStep, a_nx, a_ii, a_jj, a_ji, a_ld, a_st, a_if, a_ald, a_c1, a_c2, lkp, lput, lput2, lins, oP_none, oP_next, oP_call, oP_ret, oP_thr, outP_ite, aft_ret, aft_void, aft_thr, fHnd, List.isEmpty_nil, List.filter_cons, List.filter_nil, Value.category, csum, List.map_cons, List.map_nil, List.sum_cons, List.sum_nil, List.cons_append, List.nil_append, Option.toList, vp_nar_int, narrow_b1, narrow_b0, nc115, vc115, fc115, nc111, vc111, fc111, nc100, vc100, fc100, nc109, vc109, fc109, nc120, vc120, fc120, nc119, vc119, fc119, nc116, vc116, fc116, nc45, vc45, fc45, nc32, vc32, fc32, nc102, vc102, fc102, nc106, vc106, fc106, fin3, rf_some, rf_none, upd_ap, va_up_ap, nar_bi, fits_bi, nvp_bi, bi_t, bi_f, fval, fty, ftabs, wrv_0, wrv_1, wrv_2, wrv_3, wrv_5, mT_stI, mI_stI, mL_stI, mD_stI, mR_stI, mN_stI, mS_stI, mT_stL, mI_stL, mL_stL, mD_stL, mR_stL, mN_stL, mS_stL, mT_stD, mI_stD, mL_stD, mD_stD, mR_stD, mN_stD, mS_stD, mT_stR, mI_stR, mL_stR, mD_stR, mR_stR, mN_stR, mS_stR, mT_stN, mI_stN, mL_stN, mD_stN, mR_stN, mN_stN, mS_stN, e190_1395, e190_1397, e190_1400, e190_1402, e190_1404, e190_1405, e190_1407, e190_1409, e190_1411, e190_1412, e190_1413, e190_1414, e190_1416, e190_1418, e190_1420, e190_1421, e190_1422, e190_1424, e190_1425, e190_1426, e190_1427, e190_1428, e190_1430, e190_1433, rt190, hn190, nI_a1, ge54 hj, p1, inb_nI hj, nI_clamp (show j < 2 ^ 31 by omega), r1, r2, ib02, ib12, ic0, ic1, v1, v2, nI_1]
      exact EvP_drop [(0, .ref b), (1, .ref B), (4, .int 1), (10, .ref (B + 35)), (14, .int (X + pl j)), (15, .int (Y + (pl j + mk j))), (16, .ref (B + 35)), (17, .int 54), (18, .int (nI (j + 1)))] (by simp [gdL]) (by simp) kk3
    · subst hM
      rw [e190_1393]
      simp [lv_args, sStep, amStep, a_nx, a_ii, a_jj, a_ji, a_ld, a_st, a_if, a_ald, a_c1, a_c2, lkp, lput, lput2, lins, oP_none, oP_next, oP_call, oP_ret, oP_thr, outP_ite, aft_ret, aft_void, aft_thr, fHnd, List.isEmpty_nil, List.filter_cons, List.filter_nil, Value.category, csum, List.map_cons, List.map_nil, List.sum_cons, List.sum_nil, List.cons_append, List.nil_append, Option.toList, vp_nar_int, narrow_b1, narrow_b0, nc115, vc115, fc115, nc111, vc111, fc111, nc100, vc100, fc100, nc109, vc109, fc109, nc120, vc120, fc120, nc119, vc119, fc119, nc116, vc116, fc116, nc45, vc45, fc45, nc32, vc32, fc32, nc102, vc102, fc102, nc106, vc106, fc106, fin3, rf_some, rf_none, upd_ap, va_up_ap, nar_bi, fits_bi, nvp_bi, bi_t, bi_f, fval, fty, ftabs, wrv_0, wrv_1, wrv_2, wrv_3, wrv_5, mT_stI, mI_stI, mL_stI, mD_stI, mR_stI, mN_stI, mS_stI, mT_stL, mI_stL, mL_stL, mD_stL, mR_stL, mN_stL, mS_stL, mT_stD, mI_stD, mL_stD, mD_stD, mR_stD, mN_stD, mS_stD, mT_stR, mI_stR, mL_stR, mD_stR, mR_stR, mN_stR, mS_stR, mT_stN, mI_stN, mL_stN, mD_stN, mR_stN, mN_stN, mS_stN, e190_1395, e190_1397, e190_1400, e190_1402, e190_1404, e190_1405, e190_1407, e190_1409, e190_1411, e190_1412, e190_1413, e190_1414, e190_1416, e190_1418, e190_1420, e190_1421, e190_1422, e190_1424, e190_1425, e190_1426, e190_1427, e190_1428, e190_1430, e190_1433, rt190, hn190, nI_a1, nI54, Int32.le_refl]
      exact EvP_drop [(0, .ref b), (1, .ref B), (4, .int 1), (10, .ref (B + 35)), (14, .int (sumF pl 54)), (15, .int (sumF (fun c => pl c + mk c) 54))] (by simp [gdL]) (by simp) k
  exact EvP_drop [(0, .ref b), (1, .ref B), (4, .int 1), (10, .ref (B + 35)), (14, .int 0), (15, .int 0), (16, .ref (B + 35)), (17, .int 54), (18, .int 0)] (by simp [gdL]) (by simp) L0
theorem segN (h : LB b B L xs R C o P T r u pl mk M) (k : EvP 190 1466 [(0, .ref b), (1, .ref B), (4, .int 1), (10, .ref (B + 35))] [] M Q) :
    EvP 190 1436 [(0, .ref b), (1, .ref B), (4, .int 1), (10, .ref (B + 35)), (14, .int (sumF pl 54)), (15, .int (sumF (fun c => pl c + mk c) 54))] [] M Q := by
  obtain ⟨⟨w, -⟩, -, hpl, hmk, -⟩ := id h
  have t0 : (mT M B).1 = 8 := by rw [tT0 w.1]
  by_cases c0 : sumF (fun c => pl c + mk c) 54 = 0
  · simp [lv_args, sStep, amStep, a_nx, a_ii, a_jj, a_ji, a_ld, a_st, a_if, a_ald, a_c1, a_c2, lkp, lput, lput2, lins, oP_none, oP_next, oP_call, oP_ret, oP_thr, outP_ite, aft_ret, aft_void, aft_thr, fHnd, List.isEmpty_nil, List.filter_cons, List.filter_nil, Value.category, csum, List.map_cons, List.map_nil, List.sum_cons, List.sum_nil, List.cons_append, List.nil_append, Option.toList, vp_nar_int, narrow_b1, narrow_b0, nc115, vc115, fc115, nc111, vc111, fc111, nc100, vc100, fc100, nc109, vc109, fc109, nc120, vc120, fc120, nc119, vc119, fc119, nc116, vc116, fc116, nc45, vc45, fc45, nc32, vc32, fc32, nc102, vc102, fc102, nc106, vc106, fc106, fin3, rf_some, rf_none, upd_ap, va_up_ap, nar_bi, fits_bi, nvp_bi, bi_t, bi_f, fval, fty, ftabs, wrv_0, wrv_1, wrv_2, wrv_3, wrv_5, mT_stI, mI_stI, mL_stI, mD_stI, mR_stI, mN_stI, mS_stI, mT_stL, mI_stL, mL_stL, mD_stL, mR_stL, mN_stL, mS_stL, mT_stD, mI_stD, mL_stD, mD_stD, mR_stD, mN_stD, mS_stD, mT_stR, mI_stR, mL_stR, mD_stR, mR_stR, mN_stR, mS_stR, mT_stN, mI_stN, mL_stN, mD_stN, mR_stN, mN_stN, mS_stN, e190_1436, e190_1438, e190_1440, e190_1443, e190_1444, e190_1447, e190_1449, e190_1450, e190_1452, e190_1453, e190_1454, e190_1455, e190_1458, e190_1459, e190_1462, e190_1463, e190_1464, rt190, hn190, nI_a1, c0]
    exact EvP_drop [(0, .ref b), (1, .ref B), (4, .int 1), (10, .ref (B + 35))] (by simp [gdL]) (by simp) k
  · have x1 : ∀ Q, CaP 84 [.ref B] M Q = Q (M, .inl (some (.float (FP.fdiv (FP.i2f (sumF pl 54)) (FP.i2f (sumF (fun c => pl c + mk c) 54)))))) := fun Q => by
      have := @sp84 B M Q w.1 (by rw [hpl, hmk]; exact c0)
      rw [hpl, hmk] at this
      exact this
    have hn := @q32 (sumF pl 54) _ c0
    have hl := le32 hn
    have hc := fc_self hn
    have e1 : EvP 190 1466 [(0, .ref b), (1, .ref B), (4, .int 1), (10, .ref (B + 35)), (14, .int (sumF pl 54)), (15, .int (sumF (fun c => pl c + mk c) 54))] [] M Q := EvP_drop _ (by simp [gdL]) (by simp) k
    generalize sumF pl 54 = X at x1 hn hl hc e1 ⊢
    generalize sumF (fun c => pl c + mk c) 54 = Y at x1 hn hl hc e1 c0 ⊢
    have cv : Op.cmpValue (some .eq) .l = (0 : Int32) := rfl
    simp [lv_args, sStep, amStep, a_nx, a_ii, a_jj, a_ji, a_ld, a_st, a_if, a_ald, a_c1, a_c2, lkp, lput, lput2, lins, oP_none, oP_next, oP_call, oP_ret, oP_thr, outP_ite, aft_ret, aft_void, aft_thr, fHnd, List.isEmpty_nil, List.filter_cons, List.filter_nil, Value.category, csum, List.map_cons, List.map_nil, List.sum_cons, List.sum_nil, List.cons_append, List.nil_append, Option.toList, vp_nar_int, narrow_b1, narrow_b0, nc115, vc115, fc115, nc111, vc111, fc111, nc100, vc100, fc100, nc109, vc109, fc109, nc120, vc120, fc120, nc119, vc119, fc119, nc116, vc116, fc116, nc45, vc45, fc45, nc32, vc32, fc32, nc102, vc102, fc102, nc106, vc106, fc106, fin3, rf_some, rf_none, upd_ap, va_up_ap, nar_bi, fits_bi, nvp_bi, bi_t, bi_f, fval, fty, ftabs, wrv_0, wrv_1, wrv_2, wrv_3, wrv_5, mT_stI, mI_stI, mL_stI, mD_stI, mR_stI, mN_stI, mS_stI, mT_stL, mI_stL, mL_stL, mD_stL, mR_stL, mN_stL, mS_stL, mT_stD, mI_stD, mL_stD, mD_stD, mR_stD, mN_stD, mS_stD, mT_stR, mI_stR, mL_stR, mD_stR, mR_stR, mN_stR, mS_stR, mT_stN, mI_stN, mL_stN, mD_stN, mR_stN, mN_stN, mS_stN, e190_1436, e190_1438, e190_1440, e190_1443, e190_1444, e190_1447, e190_1449, e190_1450, e190_1452, e190_1453, e190_1454, e190_1455, e190_1458, e190_1459, e190_1462, e190_1463, e190_1464, rt190, hn190, nI_a1, c0, cl84, t0, x1, hl, hc, cv]
    exact e1
end LO
