/-! ===== collate ===== -/
theorem stI_ov {Z : AMem} {a b : Nat} {C C' G G' : Nat → Int32} (hab : ¬ a = b) : stI (stI (stI (stI Z a C) b G) a C') b G' = stI (stI Z a C') b G' := by
  have h : va_up (va_up (va_up (va_up (mI Z) a C) b G) a C') b G' = va_up (va_up (mI Z) a C') b G' := by
    funext j
    simp only [va_up_ap]
    by_cases h1 : j = b
    · simp only [if_pos h1]
    · by_cases h2 : j = a
      · simp only [if_neg h1, if_pos h2]
      · simp only [if_neg h1, if_neg h2]
  show (mT Z, va_up (va_up (va_up (va_up (mI Z) a C) b G) a C') b G', mL Z, mD Z, mR Z, mN Z, mS Z) = (mT Z, va_up (va_up (mI Z) a C') b G', mL Z, mD Z, mR Z, mN Z, mS Z)
  rw [h]
theorem upd_id {f : Nat → Int32} {k : Nat} {x : Int32} (h : f k = x) : upd f k x = f := by
  funext j
  rw [upd_ap]
  by_cases e : j = k
  · rw [if_pos e, e, h]
  · rw [if_neg e]
theorem sp9L {q : Nat} {K : Int32} {ow th : Int32} {Z : AMem} {Q : AR → Prop} (hs : PK Z q) (hK : kdF K = true) (h4 : mI Z q 4 = 0) : EvP 9 57 [(0, .ref q), (1, .long (ksF K)), (3, .int ow), (4, .int th), (5, .int 0)] [] Z Q = Q (stI (stI Z (q + 1) (coF (mI Z (q + 1)) 0 K 54)) q (upd (mI Z q) 4 (nI (kcF K 54))), .inl none) := by
  have hl := loopE (m := 9) (pc := 57) (Q := Q) 54 (fun k => [(0, .ref q), (1, .long (ksF K)), (3, .int ow), (4, .int th), (5, .int (nI k))]) (fun k => stI (stI Z (q + 1) (coF (mI Z (q + 1)) 0 K k)) q (upd (mI Z q) 4 (nI (kcF K k)))) (by
    intro k hk
    have hz := @kcF_le K k
    have hs' : PK (stI (stI Z (q + 1) (coF (mI Z (q + 1)) 0 K k)) q (upd (mI Z q) 4 (nI (kcF K k)))) q := by rw [PK_stI, PK_stI]; exact hs
    have hw4 : mI (stI (stI Z (q + 1) (coF (mI Z (q + 1)) 0 K k)) q (upd (mI Z q) 4 (nI (kcF K k)))) q 4 = nI (kcF K k) := by rw [mI_stI, va_up_ap, if_pos rfl, upd_ap, if_pos rfl]
    have e10 := fun Q => @sp10 q (kcF K k) (nI k) _ Q hs' hw4 (by omega)
    have w1 : mI (stI (stI Z (q + 1) (coF (mI Z (q + 1)) 0 K k)) q (upd (mI Z q) 4 (nI (kcF K k)))) (q + 1) = coF (mI Z (q + 1)) 0 K k := by rw [mI_stI, va_up_ap, if_neg (by omega), mI_stI, va_up_ap, if_pos rfl]
    have w2 : mI (stI (stI Z (q + 1) (coF (mI Z (q + 1)) 0 K k)) q (upd (mI Z q) 4 (nI (kcF K k)))) q = upd (mI Z q) 4 (nI (kcF K k)) := by rw [mI_stI, va_up_ap, if_pos rfl]
    rw [w1, w2, stI_ov (show ¬ q + 1 = q by omega), upd_upd] at e10
    rw [e9_57]
    cases hk2 : kdOf K (nI k)
    · rw [coF_N hk2, kcF_N hk2]
      simp [lv_args, sStep, amStep, a_nx, a_ii, a_jj, a_ji, a_ld, a_st, a_if, a_ald, a_c1, a_c2, lkp, lput, lput2, lins, oP_none, oP_next, oP_call, oP_ret, oP_thr, outP_ite, aft_ret, aft_void, aft_thr, fHnd, List.isEmpty_nil, List.filter_cons, List.filter_nil, Value.category, csum, List.map_cons, List.map_nil, List.sum_cons, List.sum_nil, List.cons_append, List.nil_append, Option.toList, vp_nar_int, narrow_b1, narrow_b0, nc115, vc115, fc115, nc111, vc111, fc111, nc100, vc100, fc100, nc109, vc109, fc109, nc120, vc120, fc120, nc119, vc119, fc119, nc116, vc116, fc116, nc45, vc45, fc45, nc32, vc32, fc32, nc102, vc102, fc102, nc106, vc106, fc106, fin3, rf_some, rf_none, upd_ap, va_up_ap, nar_bi, fits_bi, nvp_bi, bi_t, bi_f, fval, fty, ftabs, wrv_0, wrv_1, wrv_2, wrv_3, wrv_5, mT_stI, mI_stI, mL_stI, mD_stI, mR_stI, mN_stI, mS_stI, mT_stL, mI_stL, mL_stL, mD_stL, mR_stL, mN_stL, mS_stL, mT_stD, mI_stD, mL_stD, mD_stD, mR_stD, mN_stD, mS_stD, mT_stR, mI_stR, mL_stR, mD_stR, mR_stR, mN_stR, mS_stR, mT_stN, mI_stN, mL_stN, mD_stN, mR_stN, mN_stN, mS_stN, e9_0, e9_1, e9_4, e9_5, e9_7, e9_9, e9_12, e9_13, e9_14, e9_17, e9_18, e9_20, e9_23, e9_24, e9_25, e9_28, e9_29, e9_30, e9_33, e9_34, e9_35, e9_38, e9_39, e9_40, e9_43, e9_44, e9_45, e9_48, e9_49, e9_51, e9_54, e9_55, e9_59, e9_61, e9_64, e9_65, e9_67, e9_70, e9_73, e9_74, e9_76, e9_79, e9_82, e9_85, rt9, hn9, pk0 hs, ge54 hk, cl90, sp90K hK hk, hk2, nI_1]
    · have c1 := @coF_S (mI Z (q + 1)) 0 K k hk2
      rw [Nat.zero_add] at c1
      rw [c1, kcF_S hk2]
      simp [lv_args, sStep, amStep, a_nx, a_ii, a_jj, a_ji, a_ld, a_st, a_if, a_ald, a_c1, a_c2, lkp, lput, lput2, lins, oP_none, oP_next, oP_call, oP_ret, oP_thr, outP_ite, aft_ret, aft_void, aft_thr, fHnd, List.isEmpty_nil, List.filter_cons, List.filter_nil, Value.category, csum, List.map_cons, List.map_nil, List.sum_cons, List.sum_nil, List.cons_append, List.nil_append, Option.toList, vp_nar_int, narrow_b1, narrow_b0, nc115, vc115, fc115, nc111, vc111, fc111, nc100, vc100, fc100, nc109, vc109, fc109, nc120, vc120, fc120, nc119, vc119, fc119, nc116, vc116, fc116, nc45, vc45, fc45, nc32, vc32, fc32, nc102, vc102, fc102, nc106, vc106, fc106, fin3, rf_some, rf_none, upd_ap, va_up_ap, nar_bi, fits_bi, nvp_bi, bi_t, bi_f, fval, fty, ftabs, wrv_0, wrv_1, wrv_2, wrv_3, wrv_5, mT_stI, mI_stI, mL_stI, mD_stI, mR_stI, mN_stI, mS_stI, mT_stL, mI_stL, mL_stL, mD_stL, mR_stL, mN_stL, mS_stL, mT_stD, mI_stD, mL_stD, mD_stD, mR_stD, mN_stD, mS_stD, mT_stR, mI_stR, mL_stR, mD_stR, mR_stR, mN_stR, mS_stR, mT_stN, mI_stN, mL_stN, mD_stN, mR_stN, mN_stN, mS_stN, e9_0, e9_1, e9_4, e9_5, e9_7, e9_9, e9_12, e9_13, e9_14, e9_17, e9_18, e9_20, e9_23, e9_24, e9_25, e9_28, e9_29, e9_30, e9_33, e9_34, e9_35, e9_38, e9_39, e9_40, e9_43, e9_44, e9_45, e9_48, e9_49, e9_51, e9_54, e9_55, e9_59, e9_61, e9_64, e9_65, e9_67, e9_70, e9_73, e9_74, e9_76, e9_79, e9_82, e9_85, rt9, hn9, pk0 hs, ge54 hk, cl90, sp90K hK hk, hk2, cl10, e10, nI_1])
  have e0 : stI (stI Z (q + 1) (coF (mI Z (q + 1)) 0 K 0)) q (upd (mI Z q) 4 (nI (kcF K 0))) = Z := by
    rw [coF_0, kcF_0, upd_id (show mI Z q 4 = nI 0 from h4), stI_self, stI_self]
  simp only [e0, nI_0] at hl
  rw [hl, e9_57]
  simp [lv_args, sStep, amStep, a_nx, a_ii, a_jj, a_ji, a_ld, a_st, a_if, a_ald, a_c1, a_c2, lkp, lput, lput2, lins, oP_none, oP_next, oP_call, oP_ret, oP_thr, outP_ite, aft_ret, aft_void, aft_thr, fHnd, List.isEmpty_nil, List.filter_cons, List.filter_nil, Value.category, csum, List.map_cons, List.map_nil, List.sum_cons, List.sum_nil, List.cons_append, List.nil_append, Option.toList, vp_nar_int, narrow_b1, narrow_b0, nc115, vc115, fc115, nc111, vc111, fc111, nc100, vc100, fc100, nc109, vc109, fc109, nc120, vc120, fc120, nc119, vc119, fc119, nc116, vc116, fc116, nc45, vc45, fc45, nc32, vc32, fc32, nc102, vc102, fc102, nc106, vc106, fc106, fin3, rf_some, rf_none, upd_ap, va_up_ap, nar_bi, fits_bi, nvp_bi, bi_t, bi_f, fval, fty, ftabs, wrv_0, wrv_1, wrv_2, wrv_3, wrv_5, mT_stI, mI_stI, mL_stI, mD_stI, mR_stI, mN_stI, mS_stI, mT_stL, mI_stL, mL_stL, mD_stL, mR_stL, mN_stL, mS_stL, mT_stD, mI_stD, mL_stD, mD_stD, mR_stD, mN_stD, mS_stD, mT_stR, mI_stR, mL_stR, mD_stR, mR_stR, mN_stR, mS_stR, mT_stN, mI_stN, mL_stN, mD_stN, mR_stN, mN_stN, mS_stN, e9_0, e9_1, e9_4, e9_5, e9_7, e9_9, e9_12, e9_13, e9_14, e9_17, e9_18, e9_20, e9_23, e9_24, e9_25, e9_28, e9_29, e9_30, e9_33, e9_34, e9_35, e9_38, e9_39, e9_40, e9_43, e9_44, e9_45, e9_48, e9_49, e9_51, e9_54, e9_55, e9_59, e9_61, e9_64, e9_65, e9_67, e9_70, e9_73, e9_74, e9_76, e9_79, e9_82, e9_85, rt9, hn9, nI54, Int32.le_refl]
def pkC0 (M : AMem) (q : Nat) (k : Int64) (ow th : Int32) : AMem := stL (stI (sg M q 100 60 3) q (upd (upd (upd (upd (upd (upd (upd (mI (sg M q 100 60 3) q) 4 0) 5 115) 6 0) 7 0) 8 (-1)) 1 ow) 2 th)) q (vp_updL (mL (sg M q 100 60 3) q) 0 k)
def pkC (M : AMem) (q : Nat) (K ow th : Int32) : AMem := stI (stI (pkC0 M q (ksF K) ow th) (q + 1) (coF (mI (pkC0 M q (ksF K) ow th) (q + 1)) 0 K 54)) q (upd (mI (pkC0 M q (ksF K) ow th) q) 4 (nI (kcF K 54)))
theorem s9_0 {q : Nat} {k : Int64} {ow th : Bool} {M : AMem} {Q : AR → Prop} (ht : mT M q = (4, 0)) (hN : q < mN M) : EvP 9 4 [(0, .ref q), (1, .long k), (3, .int (bi ow)), (4, .int (bi th))] [] M Q = EvP 9 12 [(0, .ref q), (1, .long k), (3, .int (bi ow)), (4, .int (bi th))] [] (sg M q 100 60 3) Q := by
  unfold sg
  simp [lv_args, sStep, amStep, a_nx, a_ii, a_jj, a_ji, a_ld, a_st, a_if, a_ald, a_c1, a_c2, lkp, lput, lput2, lins, oP_none, oP_next, oP_call, oP_ret, oP_thr, outP_ite, aft_ret, aft_void, aft_thr, fHnd, List.isEmpty_nil, List.filter_cons, List.filter_nil, Value.category, csum, List.map_cons, List.map_nil, List.sum_cons, List.sum_nil, List.cons_append, List.nil_append, Option.toList, vp_nar_int, narrow_b1, narrow_b0, nc115, vc115, fc115, nc111, vc111, fc111, nc100, vc100, fc100, nc109, vc109, fc109, nc120, vc120, fc120, nc119, vc119, fc119, nc116, vc116, fc116, nc45, vc45, fc45, nc32, vc32, fc32, nc102, vc102, fc102, nc106, vc106, fc106, fin3, rf_some, rf_none, upd_ap, va_up_ap, nar_bi, fits_bi, nvp_bi, bi_t, bi_f, fval, fty, ftabs, wrv_0, wrv_1, wrv_2, wrv_3, wrv_5, mT_stI, mI_stI, mL_stI, mD_stI, mR_stI, mN_stI, mS_stI, mT_stL, mI_stL, mL_stL, mD_stL, mR_stL, mN_stL, mS_stL, mT_stD, mI_stD, mL_stD, mD_stD, mR_stD, mN_stD, mS_stD, mT_stR, mI_stR, mL_stR, mD_stR, mR_stR, mN_stR, mS_stR, mT_stN, mI_stN, mL_stN, mD_stN, mR_stN, mN_stN, mS_stN, e9_0, e9_1, e9_4, e9_5, e9_7, e9_9, e9_13, e9_14, e9_17, e9_18, e9_20, e9_23, e9_24, e9_25, e9_28, e9_29, e9_30, e9_33, e9_34, e9_35, e9_38, e9_39, e9_40, e9_43, e9_44, e9_45, e9_48, e9_49, e9_51, e9_54, e9_55, e9_57, e9_59, e9_61, e9_64, e9_65, e9_67, e9_70, e9_73, e9_74, e9_76, e9_79, e9_82, e9_85, rt9, hn9, ht, show ¬ q = mN M by omega, k60, atc, show (60 : Int32).toNatClampNeg = 60 from rfl]
theorem s9_1 {q : Nat} {k : Int64} {ow th : Bool} {X : AMem} {Q : AR → Prop} (ht : mT X q = (4, 0)) : EvP 9 12 [(0, .ref q), (1, .long k), (3, .int (bi ow)), (4, .int (bi th))] [] X Q = EvP 9 57 [(0, .ref q), (1, .long k), (3, .int (bi ow)), (4, .int (bi th)), (5, .int 0)] [] (stL (stI X q (upd (upd (upd (upd (upd (upd (upd (mI X q) 4 0) 5 115) 6 0) 7 0) 8 (-1)) 1 (bi ow)) 2 (bi th))) q (vp_updL (mL X q) 0 k)) Q := by
  simp [lv_args, sStep, amStep, a_nx, a_ii, a_jj, a_ji, a_ld, a_st, a_if, a_ald, a_c1, a_c2, lkp, lput, lput2, lins, oP_none, oP_next, oP_call, oP_ret, oP_thr, outP_ite, aft_ret, aft_void, aft_thr, fHnd, List.isEmpty_nil, List.filter_cons, List.filter_nil, Value.category, csum, List.map_cons, List.map_nil, List.sum_cons, List.sum_nil, List.cons_append, List.nil_append, Option.toList, vp_nar_int, narrow_b1, narrow_b0, nc115, vc115, fc115, nc111, vc111, fc111, nc100, vc100, fc100, nc109, vc109, fc109, nc120, vc120, fc120, nc119, vc119, fc119, nc116, vc116, fc116, nc45, vc45, fc45, nc32, vc32, fc32, nc102, vc102, fc102, nc106, vc106, fc106, fin3, rf_some, rf_none, upd_ap, va_up_ap, nar_bi, fits_bi, nvp_bi, bi_t, bi_f, fval, fty, ftabs, wrv_0, wrv_1, wrv_2, wrv_3, wrv_5, mT_stI, mI_stI, mL_stI, mD_stI, mR_stI, mN_stI, mS_stI, mT_stL, mI_stL, mL_stL, mD_stL, mR_stL, mN_stL, mS_stL, mT_stD, mI_stD, mL_stD, mD_stD, mR_stD, mN_stD, mS_stD, mT_stR, mI_stR, mL_stR, mD_stR, mR_stR, mN_stR, mS_stR, mT_stN, mI_stN, mL_stN, mD_stN, mR_stN, mN_stN, mS_stN, e9_0, e9_1, e9_4, e9_5, e9_7, e9_9, e9_12, e9_13, e9_14, e9_17, e9_18, e9_20, e9_23, e9_24, e9_25, e9_28, e9_29, e9_30, e9_33, e9_34, e9_35, e9_38, e9_39, e9_40, e9_43, e9_44, e9_45, e9_48, e9_49, e9_51, e9_54, e9_55, e9_59, e9_61, e9_64, e9_65, e9_67, e9_70, e9_73, e9_74, e9_76, e9_79, e9_82, e9_85, rt9, hn9, ht, stI_stI, stL_stI, wr115, wrF]
theorem s9_s {q : Nat} {k : Int64} {ow th : Bool} {M : AMem} {Q : AR → Prop} : CaP 9 [.ref q, .long k, .int (bi ow), .int (bi th)] M Q = EvP 9 4 [(0, .ref q), (1, .long k), (3, .int (bi ow)), (4, .int (bi th))] [] M Q := by
  unfold CaP
  simp [lv_args, sStep, amStep, a_nx, a_ii, a_jj, a_ji, a_ld, a_st, a_if, a_ald, a_c1, a_c2, lkp, lput, lput2, lins, oP_none, oP_next, oP_call, oP_ret, oP_thr, outP_ite, aft_ret, aft_void, aft_thr, fHnd, List.isEmpty_nil, List.filter_cons, List.filter_nil, Value.category, csum, List.map_cons, List.map_nil, List.sum_cons, List.sum_nil, List.cons_append, List.nil_append, Option.toList, vp_nar_int, narrow_b1, narrow_b0, nc115, vc115, fc115, nc111, vc111, fc111, nc100, vc100, fc100, nc109, vc109, fc109, nc120, vc120, fc120, nc119, vc119, fc119, nc116, vc116, fc116, nc45, vc45, fc45, nc32, vc32, fc32, nc102, vc102, fc102, nc106, vc106, fc106, fin3, rf_some, rf_none, upd_ap, va_up_ap, nar_bi, fits_bi, nvp_bi, bi_t, bi_f, fval, fty, ftabs, wrv_0, wrv_1, wrv_2, wrv_3, wrv_5, mT_stI, mI_stI, mL_stI, mD_stI, mR_stI, mN_stI, mS_stI, mT_stL, mI_stL, mL_stL, mD_stL, mR_stL, mN_stL, mS_stL, mT_stD, mI_stD, mL_stD, mD_stD, mR_stD, mN_stD, mS_stD, mT_stR, mI_stR, mL_stR, mD_stR, mR_stR, mN_stR, mS_stR, mT_stN, mI_stN, mL_stN, mD_stN, mR_stN, mN_stN, mS_stN, e9_0, e9_1, e9_5, e9_7, e9_9, e9_12, e9_13, e9_14, e9_17, e9_18, e9_20, e9_23, e9_24, e9_25, e9_28, e9_29, e9_30, e9_33, e9_34, e9_35, e9_38, e9_39, e9_40, e9_43, e9_44, e9_45, e9_48, e9_49, e9_51, e9_54, e9_55, e9_57, e9_59, e9_61, e9_64, e9_65, e9_67, e9_70, e9_73, e9_74, e9_76, e9_79, e9_82, e9_85, rt9, hn9]
theorem pkC_f {M : AMem} {P : Nat} {K : Int32} {ow th : Bool} (hP : mN M = P) (hK : kdF K = true) : (∀ Q, CaP 9 [.ref P, .long (ksF K), .int (bi ow), .int (bi th)] (stN M 4 0 9) Q = Q (pkC (stN M 4 0 9) P K (bi ow) (bi th), .inl none)) ∧ mN (pkC (stN M 4 0 9) P K (bi ow) (bi th)) = P + 2 ∧ mS (pkC (stN M 4 0 9) P K (bi ow) (bi th)) = mS M + 9 + 60 ∧ (∀ a, a < P → mT (pkC (stN M 4 0 9) P K (bi ow) (bi th)) a = mT M a ∧ mI (pkC (stN M 4 0 9) P K (bi ow) (bi th)) a = mI M a ∧ mL (pkC (stN M 4 0 9) P K (bi ow) (bi th)) a = mL M a ∧ mR (pkC (stN M 4 0 9) P K (bi ow) (bi th)) a = mR M a) ∧ PK (pkC (stN M 4 0 9) P K (bi ow) (bi th)) P ∧ mI (pkC (stN M 4 0 9) P K (bi ow) (bi th)) P = upd (upd (upd (upd (upd (upd (upd (upd (fun _ => 0) 4 0) 5 115) 6 0) 7 0) 8 (-1)) 1 (bi ow)) 2 (bi th)) 4 (nI (kcF K 54)) ∧ mI (pkC (stN M 4 0 9) P K (bi ow) (bi th)) (P + 1) = coF (fun _ => 0) 0 K 54 ∧ mL (pkC (stN M 4 0 9) P K (bi ow) (bi th)) P 0 = ksF K := by
  have hN : mN (stN M 4 0 9) = P + 1 := by rw [mN_stN, hP]
  have ht : mT (stN M 4 0 9) P = (4, 0) := by rw [mT_stN, va_up_ap, if_pos hP.symm]
  have hI0 : mI (stN M 4 0 9) P = fun _ => 0 := by rw [mI_stN, va_up_ap, if_pos hP.symm]
  have t1 : mT (sg (stN M 4 0 9) P 100 60 3) P = (4, 0) := by rw [sg_T, if_neg (by omega), ht]
  have z0 : mI (pkC0 (stN M 4 0 9) P (ksF K) (bi ow) (bi th)) P = upd (upd (upd (upd (upd (upd (upd (fun _ => 0) 4 0) 5 115) 6 0) 7 0) 8 (-1)) 1 (bi ow)) 2 (bi th) := by
    unfold pkC0
    rw [mI_stL, mI_stI, va_up_ap, if_pos rfl, sg_I, if_neg (by omega), hI0]
  have z1 : mI (pkC0 (stN M 4 0 9) P (ksF K) (bi ow) (bi th)) (P + 1) = fun _ => 0 := by
    unfold pkC0
    rw [mI_stL, mI_stI, va_up_ap, if_neg (by omega), sg_I, if_pos hN.symm]
  have hs : PK (pkC0 (stN M 4 0 9) P (ksF K) (bi ow) (bi th)) P := by
    unfold pkC0 PK
    refine ⟨?_, ?_, ?_⟩
    · rw [mT_stL, mT_stI]; exact t1
    · rw [mT_stL, mT_stI, sg_T, if_pos hN.symm]
    · rw [mR_stL, mR_stI, sg_Rp (by omega), if_pos rfl, hN]
  refine ⟨fun Q => ?_, ?_, ?_, fun a ha => ⟨?_, ?_, ?_, ?_⟩, ?_, ?_, ?_, ?_⟩
  · refine s9_s.trans ((s9_0 ht (by omega)).trans ((s9_1 t1).trans ?_))
    exact sp9L (Z := pkC0 (stN M 4 0 9) P (ksF K) (bi ow) (bi th)) hs hK (by rw [z0]; simp [upd_ap])
  all_goals unfold pkC
  · rw [mN_stI, mN_stI]; unfold pkC0; rw [mN_stL, mN_stI, sg_N, hN]
  · rw [mS_stI, mS_stI]; unfold pkC0; rw [mS_stL, mS_stI, sg_S, mS_stN]
  · rw [mT_stI, mT_stI]; unfold pkC0; rw [mT_stL, mT_stI, sg_T, if_neg (by omega), mT_stN, va_up_ap, if_neg (by omega)]
  · rw [mI_stI, va_up_ap, if_neg (by omega), mI_stI, va_up_ap, if_neg (by omega)]; unfold pkC0; rw [mI_stL, mI_stI, va_up_ap, if_neg (by omega), sg_I, if_neg (by omega), mI_stN, va_up_ap, if_neg (by omega)]
  · rw [mL_stI, mL_stI]; unfold pkC0; rw [mL_stL, va_up_ap, if_neg (by omega), mL_stI, sg_L, if_neg (by omega), mL_stN, va_up_ap, if_neg (by omega)]
  · rw [mR_stI, mR_stI]; unfold pkC0; rw [mR_stL, mR_stI, sg_R (by omega) (by omega), mR_stN, va_up_ap, if_neg (by omega)]
  · rw [PK_stI, PK_stI]; exact hs
  · rw [mI_stI, va_up_ap, if_pos rfl, z0]
  · rw [mI_stI, va_up_ap, if_neg (by omega), mI_stI, va_up_ap, if_pos rfl, z1]
  · rw [mL_stI, mL_stI]; unfold pkC0; rw [mL_stL, va_up_ap, if_pos rfl]; unfold vp_updL; rw [if_pos rfl]
theorem dn_m1 {ok : Nat → Bool} : ∀ n, n ≤ 54 → dnF ok n = -1 → ∀ j, j < n → ok (53 - j) = false := by
  intro n
  induction n with
  | zero => intro _ _ j hj; exact absurd hj (Nat.not_lt_zero j)
  | succ n ih =>
    intro hn h j hj
    unfold dnF at h
    by_cases e : ok (53 - n) = true
    · rw [if_pos e] at h
      exact absurd h (nI_nm1 (by omega))
    · rw [if_neg e] at h
      rcases Nat.lt_or_eq_of_le (Nat.le_of_lt_succ hj) with h1 | h1
      · exact ih (by omega) h j h1
      · rw [h1]; exact nt e
theorem dn_all {ok : Nat → Bool} (h : dnF ok 54 = -1) : ∀ c, c < 54 → ok c = false := fun c hc => by
  have := dn_m1 54 (Nat.le_refl 54) h (53 - c) (by omega)
  rwa [show 53 - (53 - c) = c by omega] at this
theorem coF_rel {F G : Nat → Int32} {i : Nat} {K : Int32} (h : ∀ k, k < 60 → F k = G (60 * i + k)) : ∀ m k, k < 60 → coF F 0 K m k = coF G (60 * i) K m (60 * i + k) := by
  intro m
  induction m with
  | zero => intro k hk; exact h k hk
  | succ m ih =>
    intro k hk
    cases hk2 : kdOf K (nI m)
    · rw [coF_N hk2, coF_N hk2]; exact ih k hk
    · rw [coF_S hk2, coF_S hk2, upd_ap, upd_ap]
      by_cases e : k = kcF K m
      · rw [if_pos (by omega), if_pos (by omega)]
      · rw [if_neg (by omega), if_neg (by omega)]; exact ih k hk
theorem coF_out {G : Nat → Int32} {i j k : Nat} {K : Int32} (hij : ¬ j = i) (hk : k < 60) : ∀ m, m ≤ 54 → coF G (60 * i) K m (60 * j + k) = G (60 * j + k) := by
  intro m
  induction m with
  | zero => intro _; rfl
  | succ m ih =>
    intro hm
    cases hk2 : kdOf K (nI m)
    · rw [coF_N hk2]; exact ih (by omega)
    · have := @kcF_le K m
      rw [coF_S hk2, upd_ap, if_neg (by omega)]; exact ih (by omega)
theorem coF_in {F : Nat → Int32} {K : Int32} : ∀ m, m ≤ 54 → ∀ k, k < kcF K m → ∃ d, d < 54 ∧ coF F 0 K m k = nI d := by
  intro m
  induction m with
  | zero => intro _ k hk; rw [kcF_0] at hk; exact absurd hk (Nat.not_lt_zero k)
  | succ m ih =>
    intro hm k hk
    cases hk2 : kdOf K (nI m)
    · rw [kcF_N hk2] at hk
      rw [coF_N hk2]; exact ih (by omega) k hk
    · rw [kcF_S hk2] at hk
      rw [coF_S hk2, upd_ap]
      by_cases e : k = kcF K m
      · exact ⟨m, by omega, by rw [if_pos (by omega)]⟩
      · rw [if_neg (by omega)]
        exact ih (by omega) k (by omega)
theorem csF_ext {P P' : Nat → Int32} : ∀ n, (∀ k, k < n → P k = P' k) → csF P n = csF P' n := by
  intro n
  induction n with
  | zero => intro _; rfl
  | succ n ih => intro h; show csF P n ||| _ = csF P' n ||| _; rw [ih (fun k hk => h k (by omega)), h n (by omega)]
def ksM (K : Int32) : Nat → Int64
  | 0 => 0
  | m + 1 => if kdOf K (nI m) = true then ksM K m ||| (1 <<< ((nI m).toInt64 &&& 63)) else ksM K m
theorem cs_co {F : Nat → Int32} {K : Int32} : ∀ m, csF (coF F 0 K m) (kcF K m) = ksM K m := by
  intro m
  induction m with
  | zero => rfl
  | succ m ih =>
    unfold ksM
    cases hk2 : kdOf K (nI m)
    · rw [coF_N hk2, kcF_N hk2, if_neg (by decide)]; exact ih
    · rw [coF_S hk2, kcF_S hk2, if_pos rfl]
      show csF (upd (coF F 0 K m) (0 + kcF K m) (nI m)) (kcF K m) ||| (1 <<< ((upd (coF F 0 K m) (0 + kcF K m) (nI m) (kcF K m)).toInt64 &&& 63)) = _
      rw [upd_ap, if_pos (by omega), csF_ext (kcF K m) (fun k hk => by rw [upd_ap, if_neg (by omega)]), ih]
theorem ksM_ok {K : Int32} (hK : kdF K = true) : ksM K 54 = ksF K ∧ bcI (ksF K) = nI (kcF K 54) := by
  rcases kdF_cases hK with h | h | h <;> subst h
  · exact ⟨by decide +kernel, by decide +kernel⟩
  · exact ⟨by decide +kernel, by decide +kernel⟩
  · exact ⟨by decide +kernel, by decide +kernel⟩
