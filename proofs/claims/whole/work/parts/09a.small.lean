/-! ===== contracts: small methods ===== -/
def bi (b : Bool) : Int32 := if b = true then 1 else 0
theorem bi_t : bi true = 1 := rfl
theorem bi_f : bi false = 0 := rfl
theorem nar_bi {b : Bool} : narrow .boolean (.int (bi b)) = .int (bi b) := by cases b <;> rfl
theorem nvp_bi {b : Bool} : vp_nar .boolean (bi b) = bi b := by cases b <;> rfl
theorem fits_bi {b : Bool} : fits .boolean (.int (bi b)) = true := by cases b <;> rfl
theorem bi_ne {b : Bool} : (bi b = 0) = (b = false) := by cases b <;> simp [bi]
theorem bi_nn {b : Bool} : (0 = bi b) = (b = false) := by cases b <;> simp [bi]
def inR (n lo hi : Int32) : Bool := decide (lo ≤ n) && decide (n ≤ hi)
theorem inR_f1 {n lo hi : Int32} (h : n < lo) : inR n lo hi = false := by simp [inR, Int32.not_le.mpr h]
theorem inR_f2 {n lo hi : Int32} (h : hi < n) : inR n lo hi = false := by simp [inR, Int32.not_le.mpr h]
theorem inR_t {n lo hi : Int32} (h1 : ¬ n < lo) (h2 : ¬ hi < n) : inR n lo hi = true := by simp [inR, Int32.not_lt.mp h1, Int32.not_lt.mp h2]
theorem fin3 : ((3 : Fin 4) : Nat) = 3 := rfl
theorem nc115 : narrow .char (.int 115) = .int 115 := rfl
theorem vc115 : vp_nar .char 115 = 115 := rfl
theorem fc115 : fits .char (.int 115) = true := rfl
theorem nc111 : narrow .char (.int 111) = .int 111 := rfl
theorem vc111 : vp_nar .char 111 = 111 := rfl
theorem fc111 : fits .char (.int 111) = true := rfl
theorem nc100 : narrow .char (.int 100) = .int 100 := rfl
theorem vc100 : vp_nar .char 100 = 100 := rfl
theorem fc100 : fits .char (.int 100) = true := rfl
theorem nc109 : narrow .char (.int 109) = .int 109 := rfl
theorem vc109 : vp_nar .char 109 = 109 := rfl
theorem fc109 : fits .char (.int 109) = true := rfl
theorem nc120 : narrow .char (.int 120) = .int 120 := rfl
theorem vc120 : vp_nar .char 120 = 120 := rfl
theorem fc120 : fits .char (.int 120) = true := rfl
theorem nc119 : narrow .char (.int 119) = .int 119 := rfl
theorem vc119 : vp_nar .char 119 = 119 := rfl
theorem fc119 : fits .char (.int 119) = true := rfl
theorem nc116 : narrow .char (.int 116) = .int 116 := rfl
theorem vc116 : vp_nar .char 116 = 116 := rfl
theorem fc116 : fits .char (.int 116) = true := rfl
theorem nc45 : narrow .char (.int 45) = .int 45 := rfl
theorem vc45 : vp_nar .char 45 = 45 := rfl
theorem fc45 : fits .char (.int 45) = true := rfl
theorem nc32 : narrow .char (.int 32) = .int 32 := rfl
theorem vc32 : vp_nar .char 32 = 32 := rfl
theorem fc32 : fits .char (.int 32) = true := rfl
theorem nc102 : narrow .char (.int 102) = .int 102 := rfl
theorem vc102 : vp_nar .char 102 = 102 := rfl
theorem fc102 : fits .char (.int 102) = true := rfl
theorem nc106 : narrow .char (.int 106) = .int 106 := rfl
theorem vc106 : vp_nar .char 106 = 106 := rfl
theorem fc106 : fits .char (.int 106) = true := rfl
theorem rf_some {a : Nat} : va_rf (some a) = .ref a := rfl
theorem rf_none : va_rf none = .null := rfl
theorem upd_ap {f : Nat → Int32} {k j : Nat} {x : Int32} : upd f k x j = if j = k then x else f j := rfl
theorem va_up_ap {α : Type} {f : Nat → α} {k j : Nat} {x : α} : va_up f k x j = if j = k then x else f j := rfl
theorem oP_none {m pc : Nat} {ls : ALs} {M : AMem} {Q : AR → Prop} : outP m pc ls M Q none = False := rfl
theorem oP_next {m pc pc' : Nat} {ls ls' : ALs} {st' : List Value} {M M' : AMem} {Q : AR → Prop} : outP m pc ls M Q (some (.inl (pc', ls', st', M'))) = EvP m pc' ls' st' M' Q := rfl
theorem oP_call {m pc mj : Nat} {ls : ALs} {as rs : List Value} {M : AMem} {Q : AR → Prop} : outP m pc ls M Q (some (.inr (.inl (mj, as, rs)))) = CaP mj as M (aftP m pc ls rs Q) := rfl
theorem oP_ret {m pc : Nat} {ls : ALs} {v : Option Value} {M : AMem} {Q : AR → Prop} : outP m pc ls M Q (some (.inr (.inr (.inl v)))) = Q (M, .inl v) := rfl
theorem oP_thr {m pc E : Nat} {ls : ALs} {M : AMem} {Q : AR → Prop} : outP m pc ls M Q (some (.inr (.inr (.inr E)))) = Q (stN M 0 0 6, .inr E) := rfl
theorem wrv_0 {M : AMem} {a k : Nat} {x : Int32} : wrv M a k 0 (.int x) = some (stI M a (upd (mI M a) k x)) := if_pos ⟨Nat.zero_le _, rfl, rfl⟩
theorem wrv_1 {M : AMem} {a k : Nat} {x : Int32} (h : narrow .boolean (.int x) = .int x) (h2 : fits .boolean (.int x) = true) : wrv M a k 1 (.int x) = some (stI M a (upd (mI M a) k x)) := if_pos ⟨by decide, h, h2⟩
theorem wrv_2 {M : AMem} {a k : Nat} {x : Int32} (h : narrow .char (.int x) = .int x) (h2 : fits .char (.int x) = true) : wrv M a k 2 (.int x) = some (stI M a (upd (mI M a) k x)) := if_pos ⟨by decide, h, h2⟩
theorem wrv_3 {M : AMem} {a k : Nat} {x : Int64} : wrv M a k 3 (.long x) = some (stL M a (vp_updL (mL M a) k x)) := by simp [wrv]
theorem wrv_5 {M : AMem} {a k x : Nat} : wrv M a k 5 (.ref x) = some (stR M a (va_up (mR M a) k (some x))) := by simp [wrv]
def isNo (b : Bool) : Bool := !b
/-- a letter of a kind -/
def kdF (k : Int32) : Bool := decide (k = 102) || decide (k = 106) || decide (k = 115)
/-- whether a kind has a card, as the reference says it -/
def kdOf (k n : Int32) : Bool := decide (k = 106) || (decide (n < 52) && (decide (k = 102) || decide (5 ≤ n - n / 13 * 13)))
theorem sp87 {n lo hi : Int32} {M : AMem} {Q : AR → Prop} : CaP 87 [.int n, .int lo, .int hi] M Q = Q (M, .inl (some (.int (bi (inR n lo hi))))) := by
  unfold CaP
  simp [lv_args, sStep, amStep, a_nx, a_ii, a_jj, a_ji, a_ld, a_st, a_if, a_ald, a_c1, a_c2, lkp, lput, lput2, lins, oP_none, oP_next, oP_call, oP_ret, oP_thr, outP_ite, aft_ret, aft_void, aft_thr, fHnd, List.isEmpty_nil, List.filter_cons, List.filter_nil, Value.category, csum, List.map_cons, List.map_nil, List.sum_cons, List.sum_nil, List.cons_append, List.nil_append, Option.toList, vp_nar_int, narrow_b1, narrow_b0, nc115, vc115, fc115, nc111, vc111, fc111, nc100, vc100, fc100, nc109, vc109, fc109, nc120, vc120, fc120, nc119, vc119, fc119, nc116, vc116, fc116, nc45, vc45, fc45, nc32, vc32, fc32, nc102, vc102, fc102, nc106, vc106, fc106, fin3, rf_some, rf_none, upd_ap, va_up_ap, nar_bi, fits_bi, nvp_bi, bi_t, bi_f, fval, fty, ftabs, wrv_0, wrv_1, wrv_2, wrv_3, wrv_5, mT_stI, mI_stI, mL_stI, mD_stI, mR_stI, mN_stI, mS_stI, mT_stL, mI_stL, mL_stL, mD_stL, mR_stL, mN_stL, mS_stL, mT_stD, mI_stD, mL_stD, mD_stD, mR_stD, mN_stD, mS_stD, mT_stR, mI_stR, mL_stR, mD_stR, mR_stR, mN_stR, mS_stR, mT_stN, mI_stN, mL_stN, mD_stN, mR_stN, mN_stN, mS_stN, e87_0, e87_1, e87_2, e87_5, e87_6, e87_7, e87_10, e87_11, e87_14, e87_15, rt87, hn87]
  by_cases h1 : n < lo
  · simp [h1, inR_f1 h1, bi]
  · by_cases h2 : hi < n
    · simp [h1, h2, inR_f2 h2, bi]
    · simp [h1, h2, inR_t h1 h2, bi]
theorem sp106 {n lo hi : Int32} {M : AMem} {Q : AR → Prop} : CaP 106 [.int n, .int lo, .int hi] M Q = Q (M, .inl (some (.int (bi (inR n lo hi))))) := by
  unfold CaP
  simp [lv_args, sStep, amStep, a_nx, a_ii, a_jj, a_ji, a_ld, a_st, a_if, a_ald, a_c1, a_c2, lkp, lput, lput2, lins, oP_none, oP_next, oP_call, oP_ret, oP_thr, outP_ite, aft_ret, aft_void, aft_thr, fHnd, List.isEmpty_nil, List.filter_cons, List.filter_nil, Value.category, csum, List.map_cons, List.map_nil, List.sum_cons, List.sum_nil, List.cons_append, List.nil_append, Option.toList, vp_nar_int, narrow_b1, narrow_b0, nc115, vc115, fc115, nc111, vc111, fc111, nc100, vc100, fc100, nc109, vc109, fc109, nc120, vc120, fc120, nc119, vc119, fc119, nc116, vc116, fc116, nc45, vc45, fc45, nc32, vc32, fc32, nc102, vc102, fc102, nc106, vc106, fc106, fin3, rf_some, rf_none, upd_ap, va_up_ap, nar_bi, fits_bi, nvp_bi, bi_t, bi_f, fval, fty, ftabs, wrv_0, wrv_1, wrv_2, wrv_3, wrv_5, mT_stI, mI_stI, mL_stI, mD_stI, mR_stI, mN_stI, mS_stI, mT_stL, mI_stL, mL_stL, mD_stL, mR_stL, mN_stL, mS_stL, mT_stD, mI_stD, mL_stD, mD_stD, mR_stD, mN_stD, mS_stD, mT_stR, mI_stR, mL_stR, mD_stR, mR_stR, mN_stR, mS_stR, mT_stN, mI_stN, mL_stN, mD_stN, mR_stN, mN_stN, mS_stN, e106_0, e106_1, e106_2, e106_5, e106_6, e106_7, e106_10, e106_11, e106_14, e106_15, rt106, hn106]
  by_cases h1 : n < lo
  · simp [h1, inR_f1 h1, bi]
  · by_cases h2 : hi < n
    · simp [h1, h2, inR_f2 h2, bi]
    · simp [h1, h2, inR_t h1 h2, bi]
theorem sp88 {r u n : Int32} {M : AMem} {Q : AR → Prop} : CaP 88 [.int r, .int u, .int n] M Q = Q (M, .inl (some (.int (bi (inR r (-n) n && inR u (-n) n))))) := by
  unfold CaP
  simp [lv_args, sStep, amStep, a_nx, a_ii, a_jj, a_ji, a_ld, a_st, a_if, a_ald, a_c1, a_c2, lkp, lput, lput2, lins, oP_none, oP_next, oP_call, oP_ret, oP_thr, outP_ite, aft_ret, aft_void, aft_thr, fHnd, List.isEmpty_nil, List.filter_cons, List.filter_nil, Value.category, csum, List.map_cons, List.map_nil, List.sum_cons, List.sum_nil, List.cons_append, List.nil_append, Option.toList, vp_nar_int, narrow_b1, narrow_b0, nc115, vc115, fc115, nc111, vc111, fc111, nc100, vc100, fc100, nc109, vc109, fc109, nc120, vc120, fc120, nc119, vc119, fc119, nc116, vc116, fc116, nc45, vc45, fc45, nc32, vc32, fc32, nc102, vc102, fc102, nc106, vc106, fc106, fin3, rf_some, rf_none, upd_ap, va_up_ap, nar_bi, fits_bi, nvp_bi, bi_t, bi_f, fval, fty, ftabs, wrv_0, wrv_1, wrv_2, wrv_3, wrv_5, mT_stI, mI_stI, mL_stI, mD_stI, mR_stI, mN_stI, mS_stI, mT_stL, mI_stL, mL_stL, mD_stL, mR_stL, mN_stL, mS_stL, mT_stD, mI_stD, mL_stD, mD_stD, mR_stD, mN_stD, mS_stD, mT_stR, mI_stR, mL_stR, mD_stR, mR_stR, mN_stR, mS_stR, mT_stN, mI_stN, mL_stN, mD_stN, mR_stN, mN_stN, mS_stN, e88_0, e88_1, e88_2, e88_3, e88_4, e88_7, e88_10, e88_11, e88_12, e88_13, e88_14, e88_17, e88_20, e88_21, e88_24, e88_25, rt88, hn88, cl87, sp87, bi_ne]
  cases inR r (-n) n <;> cases inR u (-n) n <;> simp [bi]
theorem sp89 {n : Int32} {M : AMem} {Q : AR → Prop} : CaP 89 [.int n] M Q = Q (M, .inl (some (.int (bi (inR n 0 53))))) := by
  unfold CaP
  simp [lv_args, sStep, amStep, a_nx, a_ii, a_jj, a_ji, a_ld, a_st, a_if, a_ald, a_c1, a_c2, lkp, lput, lput2, lins, oP_none, oP_next, oP_call, oP_ret, oP_thr, outP_ite, aft_ret, aft_void, aft_thr, fHnd, List.isEmpty_nil, List.filter_cons, List.filter_nil, Value.category, csum, List.map_cons, List.map_nil, List.sum_cons, List.sum_nil, List.cons_append, List.nil_append, Option.toList, vp_nar_int, narrow_b1, narrow_b0, nc115, vc115, fc115, nc111, vc111, fc111, nc100, vc100, fc100, nc109, vc109, fc109, nc120, vc120, fc120, nc119, vc119, fc119, nc116, vc116, fc116, nc45, vc45, fc45, nc32, vc32, fc32, nc102, vc102, fc102, nc106, vc106, fc106, fin3, rf_some, rf_none, upd_ap, va_up_ap, nar_bi, fits_bi, nvp_bi, bi_t, bi_f, fval, fty, ftabs, wrv_0, wrv_1, wrv_2, wrv_3, wrv_5, mT_stI, mI_stI, mL_stI, mD_stI, mR_stI, mN_stI, mS_stI, mT_stL, mI_stL, mL_stL, mD_stL, mR_stL, mN_stL, mS_stL, mT_stD, mI_stD, mL_stD, mD_stD, mR_stD, mN_stD, mS_stD, mT_stR, mI_stR, mL_stR, mD_stR, mR_stR, mN_stR, mS_stR, mT_stN, mI_stN, mL_stN, mD_stN, mR_stN, mN_stN, mS_stN, e89_0, e89_1, e89_2, e89_4, e89_7, rt89, hn89, cl87, sp87]
theorem sp93 {n : Int32} {M : AMem} {Q : AR → Prop} : CaP 93 [.int n] M Q = if inR n 0 53 = true then Q (M, .inl none) else Q (stN M 0 0 6, .inr 0) := by
  unfold CaP
  simp [lv_args, sStep, amStep, a_nx, a_ii, a_jj, a_ji, a_ld, a_st, a_if, a_ald, a_c1, a_c2, lkp, lput, lput2, lins, oP_none, oP_next, oP_call, oP_ret, oP_thr, outP_ite, aft_ret, aft_void, aft_thr, fHnd, List.isEmpty_nil, List.filter_cons, List.filter_nil, Value.category, csum, List.map_cons, List.map_nil, List.sum_cons, List.sum_nil, List.cons_append, List.nil_append, Option.toList, vp_nar_int, narrow_b1, narrow_b0, nc115, vc115, fc115, nc111, vc111, fc111, nc100, vc100, fc100, nc109, vc109, fc109, nc120, vc120, fc120, nc119, vc119, fc119, nc116, vc116, fc116, nc45, vc45, fc45, nc32, vc32, fc32, nc102, vc102, fc102, nc106, vc106, fc106, fin3, rf_some, rf_none, upd_ap, va_up_ap, nar_bi, fits_bi, nvp_bi, bi_t, bi_f, fval, fty, ftabs, wrv_0, wrv_1, wrv_2, wrv_3, wrv_5, mT_stI, mI_stI, mL_stI, mD_stI, mR_stI, mN_stI, mS_stI, mT_stL, mI_stL, mL_stL, mD_stL, mR_stL, mN_stL, mS_stL, mT_stD, mI_stD, mL_stD, mD_stD, mR_stD, mN_stD, mS_stD, mT_stR, mI_stR, mL_stR, mD_stR, mR_stR, mN_stR, mS_stR, mT_stN, mI_stN, mL_stN, mD_stN, mR_stN, mN_stN, mS_stN, e93_0, e93_1, e93_4, e93_7, e93_17, rt93, hn93, cl89, sp89, bi_ne]
theorem sp94 {n : Int32} {M : AMem} {Q : AR → Prop} : CaP 94 [.int n] M Q = if inR n 0 3 = true then Q (M, .inl none) else Q (stN M 0 0 6, .inr 0) := by
  unfold CaP
  simp [lv_args, sStep, amStep, a_nx, a_ii, a_jj, a_ji, a_ld, a_st, a_if, a_ald, a_c1, a_c2, lkp, lput, lput2, lins, oP_none, oP_next, oP_call, oP_ret, oP_thr, outP_ite, aft_ret, aft_void, aft_thr, fHnd, List.isEmpty_nil, List.filter_cons, List.filter_nil, Value.category, csum, List.map_cons, List.map_nil, List.sum_cons, List.sum_nil, List.cons_append, List.nil_append, Option.toList, vp_nar_int, narrow_b1, narrow_b0, nc115, vc115, fc115, nc111, vc111, fc111, nc100, vc100, fc100, nc109, vc109, fc109, nc120, vc120, fc120, nc119, vc119, fc119, nc116, vc116, fc116, nc45, vc45, fc45, nc32, vc32, fc32, nc102, vc102, fc102, nc106, vc106, fc106, fin3, rf_some, rf_none, upd_ap, va_up_ap, nar_bi, fits_bi, nvp_bi, bi_t, bi_f, fval, fty, ftabs, wrv_0, wrv_1, wrv_2, wrv_3, wrv_5, mT_stI, mI_stI, mL_stI, mD_stI, mR_stI, mN_stI, mS_stI, mT_stL, mI_stL, mL_stL, mD_stL, mR_stL, mN_stL, mS_stL, mT_stD, mI_stD, mL_stD, mD_stD, mR_stD, mN_stD, mS_stD, mT_stR, mI_stR, mL_stR, mD_stR, mR_stR, mN_stR, mS_stR, mT_stN, mI_stN, mL_stN, mD_stN, mR_stN, mN_stN, mS_stN, e94_0, e94_1, e94_2, e94_3, e94_6, e94_9, e94_20, rt94, hn94, cl87, sp87, bi_ne]
theorem sp105 {a : Nat} {b : Bool} {w : Int32} {M : AMem} {Q : AR → Prop} (h : (mT M a).1 = 9) : CaP 105 [.ref a, .int (bi b), .int w] M Q = Q (stI M a (upd (mI M a) 36 (if b = true then w else 0)), .inl (some (.int (bi b)))) := by
  unfold CaP
  simp [lv_args, sStep, amStep, a_nx, a_ii, a_jj, a_ji, a_ld, a_st, a_if, a_ald, a_c1, a_c2, lkp, lput, lput2, lins, oP_none, oP_next, oP_call, oP_ret, oP_thr, outP_ite, aft_ret, aft_void, aft_thr, fHnd, List.isEmpty_nil, List.filter_cons, List.filter_nil, Value.category, csum, List.map_cons, List.map_nil, List.sum_cons, List.sum_nil, List.cons_append, List.nil_append, Option.toList, vp_nar_int, narrow_b1, narrow_b0, nc115, vc115, fc115, nc111, vc111, fc111, nc100, vc100, fc100, nc109, vc109, fc109, nc120, vc120, fc120, nc119, vc119, fc119, nc116, vc116, fc116, nc45, vc45, fc45, nc32, vc32, fc32, nc102, vc102, fc102, nc106, vc106, fc106, fin3, rf_some, rf_none, upd_ap, va_up_ap, nar_bi, fits_bi, nvp_bi, bi_t, bi_f, fval, fty, ftabs, wrv_0, wrv_1, wrv_2, wrv_3, wrv_5, mT_stI, mI_stI, mL_stI, mD_stI, mR_stI, mN_stI, mS_stI, mT_stL, mI_stL, mL_stL, mD_stL, mR_stL, mN_stL, mS_stL, mT_stD, mI_stD, mL_stD, mD_stD, mR_stD, mN_stD, mS_stD, mT_stR, mI_stR, mL_stR, mD_stR, mR_stR, mN_stR, mS_stR, mT_stN, mI_stN, mL_stN, mD_stN, mR_stN, mN_stN, mS_stN, e105_0, e105_1, e105_2, e105_5, e105_6, e105_9, e105_10, e105_13, e105_14, rt105, hn105, h, bi_ne]
  cases b <;> simp
theorem sp104 {a : Nat} {M : AMem} {Q : AR → Prop} (h : (mT M a).1 = 9) : CaP 104 [.ref a] M Q = Q (M, .inl (some (.int (mI M a 36)))) := by
  unfold CaP
  simp [lv_args, sStep, amStep, a_nx, a_ii, a_jj, a_ji, a_ld, a_st, a_if, a_ald, a_c1, a_c2, lkp, lput, lput2, lins, oP_none, oP_next, oP_call, oP_ret, oP_thr, outP_ite, aft_ret, aft_void, aft_thr, fHnd, List.isEmpty_nil, List.filter_cons, List.filter_nil, Value.category, csum, List.map_cons, List.map_nil, List.sum_cons, List.sum_nil, List.cons_append, List.nil_append, Option.toList, vp_nar_int, narrow_b1, narrow_b0, nc115, vc115, fc115, nc111, vc111, fc111, nc100, vc100, fc100, nc109, vc109, fc109, nc120, vc120, fc120, nc119, vc119, fc119, nc116, vc116, fc116, nc45, vc45, fc45, nc32, vc32, fc32, nc102, vc102, fc102, nc106, vc106, fc106, fin3, rf_some, rf_none, upd_ap, va_up_ap, nar_bi, fits_bi, nvp_bi, bi_t, bi_f, fval, fty, ftabs, wrv_0, wrv_1, wrv_2, wrv_3, wrv_5, mT_stI, mI_stI, mL_stI, mD_stI, mR_stI, mN_stI, mS_stI, mT_stL, mI_stL, mL_stL, mD_stL, mR_stL, mN_stL, mS_stL, mT_stD, mI_stD, mL_stD, mD_stD, mR_stD, mN_stD, mS_stD, mT_stR, mI_stR, mL_stR, mD_stR, mR_stR, mN_stR, mS_stR, mT_stN, mI_stN, mL_stN, mD_stN, mR_stN, mN_stN, mS_stN, e104_0, e104_1, e104_4, rt104, hn104, h]
def amt (n : Int32) : Int32 := if n < 0 then -n else n
theorem sp107 {n : Int32} {M : AMem} {Q : AR → Prop} : CaP 107 [.int n] M Q = Q (M, .inl (some (.int (amt n)))) := by
  unfold CaP amt
  simp [lv_args, sStep, amStep, a_nx, a_ii, a_jj, a_ji, a_ld, a_st, a_if, a_ald, a_c1, a_c2, lkp, lput, lput2, lins, oP_none, oP_next, oP_call, oP_ret, oP_thr, outP_ite, aft_ret, aft_void, aft_thr, fHnd, List.isEmpty_nil, List.filter_cons, List.filter_nil, Value.category, csum, List.map_cons, List.map_nil, List.sum_cons, List.sum_nil, List.cons_append, List.nil_append, Option.toList, vp_nar_int, narrow_b1, narrow_b0, nc115, vc115, fc115, nc111, vc111, fc111, nc100, vc100, fc100, nc109, vc109, fc109, nc120, vc120, fc120, nc119, vc119, fc119, nc116, vc116, fc116, nc45, vc45, fc45, nc32, vc32, fc32, nc102, vc102, fc102, nc106, vc106, fc106, fin3, rf_some, rf_none, upd_ap, va_up_ap, nar_bi, fits_bi, nvp_bi, bi_t, bi_f, fval, fty, ftabs, wrv_0, wrv_1, wrv_2, wrv_3, wrv_5, mT_stI, mI_stI, mL_stI, mD_stI, mR_stI, mN_stI, mS_stI, mT_stL, mI_stL, mL_stL, mD_stL, mR_stL, mN_stL, mS_stL, mT_stD, mI_stD, mL_stD, mD_stD, mR_stD, mN_stD, mS_stD, mT_stR, mI_stR, mL_stR, mD_stR, mR_stR, mN_stR, mS_stR, mT_stN, mI_stN, mL_stN, mD_stN, mR_stN, mN_stN, mS_stN, e107_0, e107_1, e107_4, e107_5, e107_6, e107_9, e107_10, rt107, hn107]
  by_cases h : n < 0
  · simp [h, Int32.not_le.mpr h]
  · simp [h, Int32.not_lt.mp h]
theorem sp108 {n : Int32} {M : AMem} {Q : AR → Prop} : CaP 108 [.int n] M Q = Q (M, .inl (some (.int (bi (!inR n 0 53))))) := by
  unfold CaP
  simp [lv_args, sStep, amStep, a_nx, a_ii, a_jj, a_ji, a_ld, a_st, a_if, a_ald, a_c1, a_c2, lkp, lput, lput2, lins, oP_none, oP_next, oP_call, oP_ret, oP_thr, outP_ite, aft_ret, aft_void, aft_thr, fHnd, List.isEmpty_nil, List.filter_cons, List.filter_nil, Value.category, csum, List.map_cons, List.map_nil, List.sum_cons, List.sum_nil, List.cons_append, List.nil_append, Option.toList, vp_nar_int, narrow_b1, narrow_b0, nc115, vc115, fc115, nc111, vc111, fc111, nc100, vc100, fc100, nc109, vc109, fc109, nc120, vc120, fc120, nc119, vc119, fc119, nc116, vc116, fc116, nc45, vc45, fc45, nc32, vc32, fc32, nc102, vc102, fc102, nc106, vc106, fc106, fin3, rf_some, rf_none, upd_ap, va_up_ap, nar_bi, fits_bi, nvp_bi, bi_t, bi_f, fval, fty, ftabs, wrv_0, wrv_1, wrv_2, wrv_3, wrv_5, mT_stI, mI_stI, mL_stI, mD_stI, mR_stI, mN_stI, mS_stI, mT_stL, mI_stL, mL_stL, mD_stL, mR_stL, mN_stL, mS_stL, mT_stD, mI_stD, mL_stD, mD_stD, mR_stD, mN_stD, mS_stD, mT_stR, mI_stR, mL_stR, mD_stR, mR_stR, mN_stR, mS_stR, mT_stN, mI_stN, mL_stN, mD_stN, mR_stN, mN_stN, mS_stN, e108_0, e108_1, e108_2, e108_4, e108_7, e108_10, e108_11, e108_14, e108_15, rt108, hn108, cl106, sp106, bi_ne]
  cases inR n 0 53 <;> simp [bi]
theorem sp109 {n : Int32} {M : AMem} {Q : AR → Prop} : CaP 109 [.int n] M Q = Q (M, .inl (some (.int (bi (!kdF n))))) := by
  unfold CaP kdF
  simp [lv_args, sStep, amStep, a_nx, a_ii, a_jj, a_ji, a_ld, a_st, a_if, a_ald, a_c1, a_c2, lkp, lput, lput2, lins, oP_none, oP_next, oP_call, oP_ret, oP_thr, outP_ite, aft_ret, aft_void, aft_thr, fHnd, List.isEmpty_nil, List.filter_cons, List.filter_nil, Value.category, csum, List.map_cons, List.map_nil, List.sum_cons, List.sum_nil, List.cons_append, List.nil_append, Option.toList, vp_nar_int, narrow_b1, narrow_b0, nc115, vc115, fc115, nc111, vc111, fc111, nc100, vc100, fc100, nc109, vc109, fc109, nc120, vc120, fc120, nc119, vc119, fc119, nc116, vc116, fc116, nc45, vc45, fc45, nc32, vc32, fc32, nc102, vc102, fc102, nc106, vc106, fc106, fin3, rf_some, rf_none, upd_ap, va_up_ap, nar_bi, fits_bi, nvp_bi, bi_t, bi_f, fval, fty, ftabs, wrv_0, wrv_1, wrv_2, wrv_3, wrv_5, mT_stI, mI_stI, mL_stI, mD_stI, mR_stI, mN_stI, mS_stI, mT_stL, mI_stL, mL_stL, mD_stL, mR_stL, mN_stL, mS_stL, mT_stD, mI_stD, mL_stD, mD_stD, mR_stD, mN_stD, mS_stD, mT_stR, mI_stR, mL_stR, mD_stR, mR_stR, mN_stR, mS_stR, mT_stN, mI_stN, mL_stN, mD_stN, mR_stN, mN_stN, mS_stN, e109_0, e109_1, e109_3, e109_6, e109_7, e109_9, e109_12, e109_13, e109_15, e109_18, e109_19, e109_22, e109_23, rt109, hn109]
  by_cases h1 : n = 102
  · simp [h1, bi]
  · by_cases h2 : n = 106
    · simp [h2, bi]
    · by_cases h3 : n = 115 <;> simp [h1, h2, h3, bi]
theorem sp110 {k n : Int32} {M : AMem} {Q : AR → Prop} : CaP 110 [.int k, .int n] M Q = Q (M, .inl (some (.int (bi (kdOf k n))))) := by
  unfold CaP kdOf
  simp [lv_args, sStep, amStep, a_nx, a_ii, a_jj, a_ji, a_ld, a_st, a_if, a_ald, a_c1, a_c2, lkp, lput, lput2, lins, oP_none, oP_next, oP_call, oP_ret, oP_thr, outP_ite, aft_ret, aft_void, aft_thr, fHnd, List.isEmpty_nil, List.filter_cons, List.filter_nil, Value.category, csum, List.map_cons, List.map_nil, List.sum_cons, List.sum_nil, List.cons_append, List.nil_append, Option.toList, vp_nar_int, narrow_b1, narrow_b0, nc115, vc115, fc115, nc111, vc111, fc111, nc100, vc100, fc100, nc109, vc109, fc109, nc120, vc120, fc120, nc119, vc119, fc119, nc116, vc116, fc116, nc45, vc45, fc45, nc32, vc32, fc32, nc102, vc102, fc102, nc106, vc106, fc106, fin3, rf_some, rf_none, upd_ap, va_up_ap, nar_bi, fits_bi, nvp_bi, bi_t, bi_f, fval, fty, ftabs, wrv_0, wrv_1, wrv_2, wrv_3, wrv_5, mT_stI, mI_stI, mL_stI, mD_stI, mR_stI, mN_stI, mS_stI, mT_stL, mI_stL, mL_stL, mD_stL, mR_stL, mN_stL, mS_stL, mT_stD, mI_stD, mL_stD, mD_stD, mR_stD, mN_stD, mS_stD, mT_stR, mI_stR, mL_stR, mD_stR, mR_stR, mN_stR, mS_stR, mT_stN, mI_stN, mL_stN, mD_stN, mR_stN, mN_stN, mS_stN, e110_0, e110_1, e110_3, e110_6, e110_7, e110_9, e110_12, e110_13, e110_15, e110_18, e110_19, e110_21, e110_22, e110_23, e110_26, e110_27, e110_30, e110_31, rt110, hn110]
  by_cases h1 : k = 106
  · simp [h1, bi]
  · by_cases h2 : n < 52
    · by_cases h3 : k = 102
      · simp [h3, h2, Int32.not_le.mpr h2, bi]
      · by_cases h4 : n - n / 13 * 13 < 5
        · simp [h1, h2, h3, h4, Int32.not_le.mpr h2, Int32.not_le.mpr h4, bi]
        · simp [h1, h2, h3, h4, Int32.not_le.mpr h2, Int32.not_lt.mp h4, bi]
    · simp [h1, h2, Int32.not_lt.mp h2, bi]
theorem sp112 {B : Nat} {n : Int32} {M : AMem} {Q : AR → Prop} (h : ST B M) : CaP 112 [.ref (B + 14), .int n] M Q = Q (M, .inl (some (.int (bi (!inR n 0 (mI M (B + 14) 28 - 1)))))) := by
  unfold CaP
  simp [lv_args, sStep, amStep, a_nx, a_ii, a_jj, a_ji, a_ld, a_st, a_if, a_ald, a_c1, a_c2, lkp, lput, lput2, lins, oP_none, oP_next, oP_call, oP_ret, oP_thr, outP_ite, aft_ret, aft_void, aft_thr, fHnd, List.isEmpty_nil, List.filter_cons, List.filter_nil, Value.category, csum, List.map_cons, List.map_nil, List.sum_cons, List.sum_nil, List.cons_append, List.nil_append, Option.toList, vp_nar_int, narrow_b1, narrow_b0, nc115, vc115, fc115, nc111, vc111, fc111, nc100, vc100, fc100, nc109, vc109, fc109, nc120, vc120, fc120, nc119, vc119, fc119, nc116, vc116, fc116, nc45, vc45, fc45, nc32, vc32, fc32, nc102, vc102, fc102, nc106, vc106, fc106, fin3, rf_some, rf_none, upd_ap, va_up_ap, nar_bi, fits_bi, nvp_bi, bi_t, bi_f, fval, fty, ftabs, wrv_0, wrv_1, wrv_2, wrv_3, wrv_5, mT_stI, mI_stI, mL_stI, mD_stI, mR_stI, mN_stI, mS_stI, mT_stL, mI_stL, mL_stL, mD_stL, mR_stL, mN_stL, mS_stL, mT_stD, mI_stD, mL_stD, mD_stD, mR_stD, mN_stD, mS_stD, mT_stR, mI_stR, mL_stR, mD_stR, mR_stR, mN_stR, mS_stR, mT_stN, mI_stN, mL_stN, mD_stN, mR_stN, mN_stN, mS_stN, e112_0, e112_1, e112_2, e112_3, e112_6, e112_7, e112_8, e112_11, e112_14, e112_15, e112_18, e112_19, rt112, hn112, h, tT0, tT1, tT2, tT3, tT4, tT5, tT6, tT7, tT8, tT9, tT10, tT11, tT12, tT13, tT14, tT15, tT16, tT17, tT18, tT19, tT20, tT21, tT22, tT23, tT24, tT25, tT26, tT27, tT28, tT29, tT30, tT31, tT32, tT33, tT34, tT35, tT36, tT37, tT38, tT39, tT40, tT41, tT42, tT43, tT44, tR0_0, tR0_6, tR0_7, tR0_8, tR0_9, tR0_11, tR0_12, tR0_14, tR2_0, tR2_1, tR6_0, tR9_0, tR9_1, tR14_0, tR14_1, tR14_2, tR14_3, tR14_4, tR14_5, tR14_6, tR14_7, tR14_8, tR14_9, tR14_10, tR14_11, tR14_12, tR14_13, tR14_14, tR14_15, tR14_16, tR14_17, tR14_18, tR14_19, tR14_20, tR14_21, tR14_22, tR14_23, tR14_24, tR14_25, tR14_26, tR14_27, ST_stI, ST_stL, ST_stD, cl106, sp106, bi_ne]
  cases inR n 0 (mI M (B + 14) 28 - 1) <;> simp [bi]
theorem sp141 {B : Nat} {n : Int32} {M : AMem} {Q : AR → Prop} (h : ST B M) : CaP 141 [.ref (B + 14), .int n] M Q = Q (M, .inl (some (.int (bi (!inR n 0 (mI M (B + 14) 30 - 1)))))) := by
  unfold CaP
  simp [lv_args, sStep, amStep, a_nx, a_ii, a_jj, a_ji, a_ld, a_st, a_if, a_ald, a_c1, a_c2, lkp, lput, lput2, lins, oP_none, oP_next, oP_call, oP_ret, oP_thr, outP_ite, aft_ret, aft_void, aft_thr, fHnd, List.isEmpty_nil, List.filter_cons, List.filter_nil, Value.category, csum, List.map_cons, List.map_nil, List.sum_cons, List.sum_nil, List.cons_append, List.nil_append, Option.toList, vp_nar_int, narrow_b1, narrow_b0, nc115, vc115, fc115, nc111, vc111, fc111, nc100, vc100, fc100, nc109, vc109, fc109, nc120, vc120, fc120, nc119, vc119, fc119, nc116, vc116, fc116, nc45, vc45, fc45, nc32, vc32, fc32, nc102, vc102, fc102, nc106, vc106, fc106, fin3, rf_some, rf_none, upd_ap, va_up_ap, nar_bi, fits_bi, nvp_bi, bi_t, bi_f, fval, fty, ftabs, wrv_0, wrv_1, wrv_2, wrv_3, wrv_5, mT_stI, mI_stI, mL_stI, mD_stI, mR_stI, mN_stI, mS_stI, mT_stL, mI_stL, mL_stL, mD_stL, mR_stL, mN_stL, mS_stL, mT_stD, mI_stD, mL_stD, mD_stD, mR_stD, mN_stD, mS_stD, mT_stR, mI_stR, mL_stR, mD_stR, mR_stR, mN_stR, mS_stR, mT_stN, mI_stN, mL_stN, mD_stN, mR_stN, mN_stN, mS_stN, e141_0, e141_1, e141_2, e141_3, e141_6, e141_7, e141_8, e141_11, e141_14, e141_15, e141_18, e141_19, rt141, hn141, h, tT0, tT1, tT2, tT3, tT4, tT5, tT6, tT7, tT8, tT9, tT10, tT11, tT12, tT13, tT14, tT15, tT16, tT17, tT18, tT19, tT20, tT21, tT22, tT23, tT24, tT25, tT26, tT27, tT28, tT29, tT30, tT31, tT32, tT33, tT34, tT35, tT36, tT37, tT38, tT39, tT40, tT41, tT42, tT43, tT44, tR0_0, tR0_6, tR0_7, tR0_8, tR0_9, tR0_11, tR0_12, tR0_14, tR2_0, tR2_1, tR6_0, tR9_0, tR9_1, tR14_0, tR14_1, tR14_2, tR14_3, tR14_4, tR14_5, tR14_6, tR14_7, tR14_8, tR14_9, tR14_10, tR14_11, tR14_12, tR14_13, tR14_14, tR14_15, tR14_16, tR14_17, tR14_18, tR14_19, tR14_20, tR14_21, tR14_22, tR14_23, tR14_24, tR14_25, tR14_26, tR14_27, ST_stI, ST_stL, ST_stD, cl106, sp106, bi_ne]
  cases inR n 0 (mI M (B + 14) 30 - 1) <;> simp [bi]
theorem inb_nI {k n : Nat} (h : k < n) (hn : n < 2 ^ 31) : inb (nI k) n = true := by
  have h1 := vp_in_iff.mp (vp_in_nI h hn)
  simp [inb, h1.1, h1.2]
theorem sp113 {B i : Nat} {r c : Int32} {M : AMem} {Q : AR → Prop} (h : ST B M) (hi : i < 6) : CaP 113 [.ref (B + 14), .int (nI i), .int r, .int c] M Q = Q (M, .inl (some (.int (bi (!(inR r 0 (mI M (B + 15) i - 1) && inR c 0 (mI M (B + 16) i - 1))))))) := by
  unfold CaP
  simp [lv_args, sStep, amStep, a_nx, a_ii, a_jj, a_ji, a_ld, a_st, a_if, a_ald, a_c1, a_c2, lkp, lput, lput2, lins, oP_none, oP_next, oP_call, oP_ret, oP_thr, outP_ite, aft_ret, aft_void, aft_thr, fHnd, List.isEmpty_nil, List.filter_cons, List.filter_nil, Value.category, csum, List.map_cons, List.map_nil, List.sum_cons, List.sum_nil, List.cons_append, List.nil_append, Option.toList, vp_nar_int, narrow_b1, narrow_b0, nc115, vc115, fc115, nc111, vc111, fc111, nc100, vc100, fc100, nc109, vc109, fc109, nc120, vc120, fc120, nc119, vc119, fc119, nc116, vc116, fc116, nc45, vc45, fc45, nc32, vc32, fc32, nc102, vc102, fc102, nc106, vc106, fc106, fin3, rf_some, rf_none, upd_ap, va_up_ap, nar_bi, fits_bi, nvp_bi, bi_t, bi_f, fval, fty, ftabs, wrv_0, wrv_1, wrv_2, wrv_3, wrv_5, mT_stI, mI_stI, mL_stI, mD_stI, mR_stI, mN_stI, mS_stI, mT_stL, mI_stL, mL_stL, mD_stL, mR_stL, mN_stL, mS_stL, mT_stD, mI_stD, mL_stD, mD_stD, mR_stD, mN_stD, mS_stD, mT_stR, mI_stR, mL_stR, mD_stR, mR_stR, mN_stR, mS_stR, mT_stN, mI_stN, mL_stN, mD_stN, mR_stN, mN_stN, mS_stN, e113_0, e113_1, e113_2, e113_3, e113_6, e113_7, e113_8, e113_9, e113_10, e113_13, e113_16, e113_17, e113_18, e113_19, e113_22, e113_23, e113_24, e113_25, e113_26, e113_29, e113_32, e113_33, e113_36, e113_37, rt113, hn113, h, tT0, tT1, tT2, tT3, tT4, tT5, tT6, tT7, tT8, tT9, tT10, tT11, tT12, tT13, tT14, tT15, tT16, tT17, tT18, tT19, tT20, tT21, tT22, tT23, tT24, tT25, tT26, tT27, tT28, tT29, tT30, tT31, tT32, tT33, tT34, tT35, tT36, tT37, tT38, tT39, tT40, tT41, tT42, tT43, tT44, tR0_0, tR0_6, tR0_7, tR0_8, tR0_9, tR0_11, tR0_12, tR0_14, tR2_0, tR2_1, tR6_0, tR9_0, tR9_1, tR14_0, tR14_1, tR14_2, tR14_3, tR14_4, tR14_5, tR14_6, tR14_7, tR14_8, tR14_9, tR14_10, tR14_11, tR14_12, tR14_13, tR14_14, tR14_15, tR14_16, tR14_17, tR14_18, tR14_19, tR14_20, tR14_21, tR14_22, tR14_23, tR14_24, tR14_25, tR14_26, tR14_27, ST_stI, ST_stL, ST_stD, cl106, sp106, bi_ne, inb_nI hi, nI_clamp (show i < 2 ^ 31 by omega)]
  cases inR r 0 (mI M (B + 15) i - 1) <;> cases inR c 0 (mI M (B + 16) i - 1) <;> simp [bi]
