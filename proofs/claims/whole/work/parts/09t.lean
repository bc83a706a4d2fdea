/-! ===== first contracts ===== -/
def bi (p : Prop) [Decidable p] : Int32 := if p then 1 else 0
theorem sp87 {n lo hi : Int32} {M : AMem} {Q : AR → Prop} : CaP 87 [.int n, .int lo, .int hi] M Q = Q (M, .inl (some (.int (bi (lo ≤ n ∧ n ≤ hi))))) := by
  simp only [CaP, lv_args, sStep, amStep, a_nx, a_ii, a_jj, a_ji, a_ld, a_st, a_if, a_ald, a_c1, a_c2, lkp, lput, lput2, lins, outP, outP_ite, aft_ret, aft_void, aft_thr, fHnd, List.isEmpty_nil, List.filter_cons, List.filter_nil, Value.category, csum, List.map_cons, List.map_nil, List.sum_cons, List.sum_nil, List.cons_append, List.nil_append, Option.toList, fval, fty, ftabs, wrv, fty0, mT_stI, mI_stI, mL_stI, mD_stI, mR_stI, mN_stI, mS_stI, mT_stL, mI_stL, mL_stL, mD_stL, mR_stL, mN_stL, mS_stL, mT_stD, mI_stD, mL_stD, mD_stD, mR_stD, mN_stD, mS_stD, mT_stR, mI_stR, mL_stR, mD_stR, mR_stR, mN_stR, mS_stR, mT_stN, mI_stN, mL_stN, mD_stN, mR_stN, mN_stN, mS_stN, e87_0, e87_1, e87_2, e87_5, e87_6, e87_7, e87_10, e87_11, e87_14, e87_15, rt87, hn87, bi]
  trace_state
  sorry
theorem sp30 {a : Nat} {r c : Int32} {M : AMem} {Q : AR → Prop} (h : (mT M a).1 = 6) : CaP 30 [.ref a, .int r, .int c] M Q = Q (M, .inl (some (.int (r * mI M a 1 + c)))) := by
  simp only [CaP, lv_args, sStep, amStep, a_nx, a_ii, a_jj, a_ji, a_ld, a_st, a_if, a_ald, a_c1, a_c2, lkp, lput, lput2, lins, outP, outP_ite, aft_ret, aft_void, aft_thr, fHnd, List.isEmpty_nil, List.filter_cons, List.filter_nil, Value.category, csum, List.map_cons, List.map_nil, List.sum_cons, List.sum_nil, List.cons_append, List.nil_append, Option.toList, fval, fty, ftabs, wrv, fty0, mT_stI, mI_stI, mL_stI, mD_stI, mR_stI, mN_stI, mS_stI, mT_stL, mI_stL, mL_stL, mD_stL, mR_stL, mN_stL, mS_stL, mT_stD, mI_stD, mL_stD, mD_stD, mR_stD, mN_stD, mS_stD, mT_stR, mI_stR, mL_stR, mD_stR, mR_stR, mN_stR, mS_stR, mT_stN, mI_stN, mL_stN, mD_stN, mR_stN, mN_stN, mS_stN, e30_0, e30_1, e30_2, e30_5, e30_6, e30_7, e30_8, rt30, hn30, h]
  trace_state
  sorry
