/-! ===== the class: packs, shuffler ===== -/
def PK (M : AMem) (q : Nat) : Prop := mT M q = (4, 0) ∧ mT M (q + 1) = (100, 60) ∧ mR M q 3 = some (q + 1)
theorem PK_stI {p a : Nat} {M : AMem} {f : Nat → Int32} : PK (stI M a f) p = PK M p := rfl
theorem pk0 {M : AMem} {q : Nat} (h : PK M q) : mT M q = (4, 0) := h.1
theorem pk1 {M : AMem} {q : Nat} (h : PK M q) : mT M (q + 1) = (100, 60) := h.2.1
theorem pk3 {M : AMem} {q : Nat} (h : PK M q) : mR M q 3 = some (q + 1) := h.2.2
theorem nlt60 {k : Nat} (h : k < 60) : nI k < (60 : Int32) := nI_lt (b := 60) h (by decide)
theorem ge60 {k : Nat} (h : k < 60) : ¬ (60 : Int32) ≤ nI k := nI_ge (b := 60) h (by decide)
theorem gt60 {k : Nat} (h : k ≤ 60) : ¬ (60 : Int32) < nI k := nI_nlt (b := k) (a := 60) h (by decide)
theorem le60 {k : Nat} (h : k ≤ 60) : nI k ≤ (60 : Int32) := nI_le (b := 60) h (by decide)
theorem sp10 {q z : Nat} {c : Int32} {M : AMem} {Q : AR → Prop} (hs : PK M q) (hz : mI M q 4 = nI z) (hz60 : z < 60) : CaP 10 [.ref q, .int c] M Q = Q (stI (stI M (q + 1) (upd (mI M (q + 1)) z c)) q (upd (mI M q) 4 (nI (z + 1))), .inl none) := by
  unfold CaP
  simp [lv_args, sStep, amStep, a_nx, a_ii, a_jj, a_ji, a_ld, a_st, a_if, a_ald, a_c1, a_c2, lkp, lput, lput2, lins, oP_none, oP_next, oP_call, oP_ret, oP_thr, outP_ite, aft_ret, aft_void, aft_thr, fHnd, List.isEmpty_nil, List.filter_cons, List.filter_nil, Value.category, csum, List.map_cons, List.map_nil, List.sum_cons, List.sum_nil, List.cons_append, List.nil_append, Option.toList, vp_nar_int, narrow_b1, narrow_b0, nc115, vc115, fc115, nc111, vc111, fc111, nc100, vc100, fc100, nc109, vc109, fc109, nc120, vc120, fc120, nc119, vc119, fc119, nc116, vc116, fc116, nc45, vc45, fc45, nc32, vc32, fc32, nc102, vc102, fc102, nc106, vc106, fc106, fin3, rf_some, rf_none, upd_ap, va_up_ap, nar_bi, fits_bi, nvp_bi, bi_t, bi_f, fval, fty, ftabs, wrv_0, wrv_1, wrv_2, wrv_3, wrv_5, mT_stI, mI_stI, mL_stI, mD_stI, mR_stI, mN_stI, mS_stI, mT_stL, mI_stL, mL_stL, mD_stL, mR_stL, mN_stL, mS_stL, mT_stD, mI_stD, mL_stD, mD_stD, mR_stD, mN_stD, mS_stD, mT_stR, mI_stR, mL_stR, mD_stR, mR_stR, mN_stR, mS_stR, mT_stN, mI_stN, mL_stN, mD_stN, mR_stN, mN_stN, mS_stN, e10_0, e10_1, e10_4, e10_7, e10_8, e10_11, e10_12, e10_15, e10_16, e10_19, e10_20, e10_23, e10_24, e10_27, e10_28, e10_29, e10_30, e10_31, e10_34, e10_35, e10_36, e10_39, rt10, hn10, pk0 hs, pk1 hs, pk3 hs, hz, nlt0 (lt31 hz60 (by decide)), ge60 hz60, inb_nI hz60, nI_clamp (lt31 hz60 (by decide)), nI_1]
theorem sp11 {q n : Nat} {j : Int32} {M : AMem} {Q : AR → Prop} (hs : PK M q) (hn : mI M q 4 = nI n) (hn60 : n ≤ 60) : CaP 11 [.ref q, .int j] M Q = Q (M, .inl (some (.int (bi (inR j 0 (nI n - 1)))))) := by
  have hlt : j < nI n → ¬ (60 : Int32) ≤ j := fun h hc => by
    have := le60 hn60
    have h2 := Int32.le_trans this hc
    exact absurd h (Int32.not_lt.mpr h2)
  unfold CaP
  by_cases h1 : j < 0
  · simp [lv_args, sStep, amStep, a_nx, a_ii, a_jj, a_ji, a_ld, a_st, a_if, a_ald, a_c1, a_c2, lkp, lput, lput2, lins, oP_none, oP_next, oP_call, oP_ret, oP_thr, outP_ite, aft_ret, aft_void, aft_thr, fHnd, List.isEmpty_nil, List.filter_cons, List.filter_nil, Value.category, csum, List.map_cons, List.map_nil, List.sum_cons, List.sum_nil, List.cons_append, List.nil_append, Option.toList, vp_nar_int, narrow_b1, narrow_b0, nc115, vc115, fc115, nc111, vc111, fc111, nc100, vc100, fc100, nc109, vc109, fc109, nc120, vc120, fc120, nc119, vc119, fc119, nc116, vc116, fc116, nc45, vc45, fc45, nc32, vc32, fc32, nc102, vc102, fc102, nc106, vc106, fc106, fin3, rf_some, rf_none, upd_ap, va_up_ap, nar_bi, fits_bi, nvp_bi, bi_t, bi_f, fval, fty, ftabs, wrv_0, wrv_1, wrv_2, wrv_3, wrv_5, mT_stI, mI_stI, mL_stI, mD_stI, mR_stI, mN_stI, mS_stI, mT_stL, mI_stL, mL_stL, mD_stL, mR_stL, mN_stL, mS_stL, mT_stD, mI_stD, mL_stD, mD_stD, mR_stD, mN_stD, mS_stD, mT_stR, mI_stR, mL_stR, mD_stR, mR_stR, mN_stR, mS_stR, mT_stN, mI_stN, mL_stN, mD_stN, mR_stN, mN_stN, mS_stN, e11_0, e11_1, e11_4, e11_5, e11_6, e11_9, e11_12, e11_13, e11_14, e11_17, e11_18, e11_21, e11_22, e11_25, e11_26, rt11, hn11, pk0 hs, pk1 hs, pk3 hs, hn, h1, inR_f1 h1, bi]
  · obtain ⟨i, hi, rfl⟩ := nI_of h1
    by_cases h2 : nI n ≤ nI i
    · have hni : n ≤ i := (nI_leI (by omega) hi).mp h2
      have : inR (nI i) 0 (nI n - 1) = false := by
        cases n with
        | zero =>
          refine inR_f2 ?_
          show nI 0 - 1 < nI i
          rw [show nI 0 - 1 = -1 from rfl, Int32.lt_iff_toInt_lt, nI_toInt hi]
          have : (-1 : Int32).toInt = -1 := by decide
          omega
        | succ n =>
          rw [nI_pred]
          exact inR_f2 (nI_lt (by omega) hi)
      simp [lv_args, sStep, amStep, a_nx, a_ii, a_jj, a_ji, a_ld, a_st, a_if, a_ald, a_c1, a_c2, lkp, lput, lput2, lins, oP_none, oP_next, oP_call, oP_ret, oP_thr, outP_ite, aft_ret, aft_void, aft_thr, fHnd, List.isEmpty_nil, List.filter_cons, List.filter_nil, Value.category, csum, List.map_cons, List.map_nil, List.sum_cons, List.sum_nil, List.cons_append, List.nil_append, Option.toList, vp_nar_int, narrow_b1, narrow_b0, nc115, vc115, fc115, nc111, vc111, fc111, nc100, vc100, fc100, nc109, vc109, fc109, nc120, vc120, fc120, nc119, vc119, fc119, nc116, vc116, fc116, nc45, vc45, fc45, nc32, vc32, fc32, nc102, vc102, fc102, nc106, vc106, fc106, fin3, rf_some, rf_none, upd_ap, va_up_ap, nar_bi, fits_bi, nvp_bi, bi_t, bi_f, fval, fty, ftabs, wrv_0, wrv_1, wrv_2, wrv_3, wrv_5, mT_stI, mI_stI, mL_stI, mD_stI, mR_stI, mN_stI, mS_stI, mT_stL, mI_stL, mL_stL, mD_stL, mR_stL, mN_stL, mS_stL, mT_stD, mI_stD, mL_stD, mD_stD, mR_stD, mN_stD, mS_stD, mT_stR, mI_stR, mL_stR, mD_stR, mR_stR, mN_stR, mS_stR, mT_stN, mI_stN, mL_stN, mD_stN, mR_stN, mN_stN, mS_stN, e11_0, e11_1, e11_4, e11_5, e11_6, e11_9, e11_12, e11_13, e11_14, e11_17, e11_18, e11_21, e11_22, e11_25, e11_26, rt11, hn11, pk0 hs, pk1 hs, pk3 hs, hn, h1, h2, this, bi]
    · have hni : i < n := Nat.lt_of_not_le (fun hc => h2 (nI_le hc hi))
      have : inR (nI i) 0 (nI n - 1) = true := by
        rw [show n = (n - 1) + 1 by omega, nI_pred]
        exact inR_nI (by omega) (by omega)
      simp [lv_args, sStep, amStep, a_nx, a_ii, a_jj, a_ji, a_ld, a_st, a_if, a_ald, a_c1, a_c2, lkp, lput, lput2, lins, oP_none, oP_next, oP_call, oP_ret, oP_thr, outP_ite, aft_ret, aft_void, aft_thr, fHnd, List.isEmpty_nil, List.filter_cons, List.filter_nil, Value.category, csum, List.map_cons, List.map_nil, List.sum_cons, List.sum_nil, List.cons_append, List.nil_append, Option.toList, vp_nar_int, narrow_b1, narrow_b0, nc115, vc115, fc115, nc111, vc111, fc111, nc100, vc100, fc100, nc109, vc109, fc109, nc120, vc120, fc120, nc119, vc119, fc119, nc116, vc116, fc116, nc45, vc45, fc45, nc32, vc32, fc32, nc102, vc102, fc102, nc106, vc106, fc106, fin3, rf_some, rf_none, upd_ap, va_up_ap, nar_bi, fits_bi, nvp_bi, bi_t, bi_f, fval, fty, ftabs, wrv_0, wrv_1, wrv_2, wrv_3, wrv_5, mT_stI, mI_stI, mL_stI, mD_stI, mR_stI, mN_stI, mS_stI, mT_stL, mI_stL, mL_stL, mD_stL, mR_stL, mN_stL, mS_stL, mT_stD, mI_stD, mL_stD, mD_stD, mR_stD, mN_stD, mS_stD, mT_stR, mI_stR, mL_stR, mD_stR, mR_stR, mN_stR, mS_stR, mT_stN, mI_stN, mL_stN, mD_stN, mR_stN, mN_stN, mS_stN, e11_0, e11_1, e11_4, e11_5, e11_6, e11_9, e11_12, e11_13, e11_14, e11_17, e11_18, e11_21, e11_22, e11_25, e11_26, rt11, hn11, pk0 hs, pk1 hs, pk3 hs, hn, h1, h2, this, ge60 (show i < 60 by omega), bi]
theorem shF_S2 {f : Nat → Int32} {o k : Nat} : upd (shF f o k) (o + k) (shF f o k (o + k + 1)) = shF f o (k + 1) := by
  rw [shF_at]
  exact shF_S
theorem sp12 {q j n : Nat} {M : AMem} {Q : AR → Prop} (hs : PK M q) (hn : mI M q 4 = nI (n + 1)) (hn60 : n < 60) (hj : j ≤ n) : CaP 12 [.ref q, .int (nI j)] M Q = Q (stI (stI M (q + 1) (shF (mI M (q + 1)) j (n - j))) q (upd (mI M q) 4 (nI n)), .inl (some (.int (mI M (q + 1) j)))) := by
  have e11 := fun Q => @sp11 q (n + 1) (nI j) M Q hs hn (by omega)
  rw [nI_pred, inR_nI hj (by omega)] at e11
  have hl := loopE (m := 12) (pc := 21) (Q := Q) (n - j) (fun k => [(0, .ref q), (1, .int (nI j)), (2, .int (mI M (q + 1) j)), (3, .int (nI (j + k + 1)))]) (fun k => stI M (q + 1) (shF (mI M (q + 1)) j k)) (by
    intro k hk
    rw [e12_21]
    simp [lv_args, sStep, amStep, a_nx, a_ii, a_jj, a_ji, a_ld, a_st, a_if, a_ald, a_c1, a_c2, lkp, lput, lput2, lins, oP_none, oP_next, oP_call, oP_ret, oP_thr, outP_ite, aft_ret, aft_void, aft_thr, fHnd, List.isEmpty_nil, List.filter_cons, List.filter_nil, Value.category, csum, List.map_cons, List.map_nil, List.sum_cons, List.sum_nil, List.cons_append, List.nil_append, Option.toList, vp_nar_int, narrow_b1, narrow_b0, nc115, vc115, fc115, nc111, vc111, fc111, nc100, vc100, fc100, nc109, vc109, fc109, nc120, vc120, fc120, nc119, vc119, fc119, nc116, vc116, fc116, nc45, vc45, fc45, nc32, vc32, fc32, nc102, vc102, fc102, nc106, vc106, fc106, fin3, rf_some, rf_none, upd_ap, va_up_ap, nar_bi, fits_bi, nvp_bi, bi_t, bi_f, fval, fty, ftabs, wrv_0, wrv_1, wrv_2, wrv_3, wrv_5, mT_stI, mI_stI, mL_stI, mD_stI, mR_stI, mN_stI, mS_stI, mT_stL, mI_stL, mL_stL, mD_stL, mR_stL, mN_stL, mS_stL, mT_stD, mI_stD, mL_stD, mD_stD, mR_stD, mN_stD, mS_stD, mT_stR, mI_stR, mL_stR, mD_stR, mR_stR, mN_stR, mS_stR, mT_stN, mI_stN, mL_stN, mD_stN, mR_stN, mN_stN, mS_stN, e12_0, e12_1, e12_2, e12_5, e12_8, e12_9, e12_10, e12_11, e12_14, e12_15, e12_16, e12_17, e12_18, e12_19, e12_20, e12_22, e12_23, e12_26, e12_29, e12_30, e12_33, e12_34, e12_35, e12_36, e12_37, e12_40, e12_41, e12_42, e12_43, e12_46, e12_49, e12_50, e12_51, e12_54, e12_55, e12_56, e12_59, e12_60, rt12, hn12, pk0 hs, pk1 hs, pk3 hs, hn, nI_ge (show j + k + 1 < n + 1 by omega) (by omega), nI_pred, inb_nI (show j + k < 60 by omega), inb_nI (show j + k + 1 < 60 by omega), nI_clamp (show j + k < 2 ^ 31 by omega), nI_clamp (show j + k + 1 < 2 ^ 31 by omega), nI_1, stI_stI, shF_at, shF_S, ← Nat.add_assoc])
  simp only [shF_0, stI_self, Nat.add_zero, show j + (n - j) + 1 = n + 1 by omega] at hl
  unfold CaP
  simp [lv_args, sStep, amStep, a_nx, a_ii, a_jj, a_ji, a_ld, a_st, a_if, a_ald, a_c1, a_c2, lkp, lput, lput2, lins, oP_none, oP_next, oP_call, oP_ret, oP_thr, outP_ite, aft_ret, aft_void, aft_thr, fHnd, List.isEmpty_nil, List.filter_cons, List.filter_nil, Value.category, csum, List.map_cons, List.map_nil, List.sum_cons, List.sum_nil, List.cons_append, List.nil_append, Option.toList, vp_nar_int, narrow_b1, narrow_b0, nc115, vc115, fc115, nc111, vc111, fc111, nc100, vc100, fc100, nc109, vc109, fc109, nc120, vc120, fc120, nc119, vc119, fc119, nc116, vc116, fc116, nc45, vc45, fc45, nc32, vc32, fc32, nc102, vc102, fc102, nc106, vc106, fc106, fin3, rf_some, rf_none, upd_ap, va_up_ap, nar_bi, fits_bi, nvp_bi, bi_t, bi_f, fval, fty, ftabs, wrv_0, wrv_1, wrv_2, wrv_3, wrv_5, mT_stI, mI_stI, mL_stI, mD_stI, mR_stI, mN_stI, mS_stI, mT_stL, mI_stL, mL_stL, mD_stL, mR_stL, mN_stL, mS_stL, mT_stD, mI_stD, mL_stD, mD_stD, mR_stD, mN_stD, mS_stD, mT_stR, mI_stR, mL_stR, mD_stR, mR_stR, mN_stR, mS_stR, mT_stN, mI_stN, mL_stN, mD_stN, mR_stN, mN_stN, mS_stN, e12_0, e12_1, e12_2, e12_5, e12_8, e12_9, e12_10, e12_11, e12_14, e12_15, e12_16, e12_17, e12_18, e12_19, e12_20, e12_22, e12_23, e12_26, e12_29, e12_30, e12_33, e12_34, e12_35, e12_36, e12_37, e12_40, e12_41, e12_42, e12_43, e12_46, e12_49, e12_50, e12_51, e12_54, e12_55, e12_56, e12_59, e12_60, rt12, hn12, cl11, e11, pk0 hs, pk1 hs, pk3 hs, inb_nI (show j < 60 by omega), nI_clamp (show j < 2 ^ 31 by omega), nI_1, bi_t]
  rw [hl, e12_21]
  simp [lv_args, sStep, amStep, a_nx, a_ii, a_jj, a_ji, a_ld, a_st, a_if, a_ald, a_c1, a_c2, lkp, lput, lput2, lins, oP_none, oP_next, oP_call, oP_ret, oP_thr, outP_ite, aft_ret, aft_void, aft_thr, fHnd, List.isEmpty_nil, List.filter_cons, List.filter_nil, Value.category, csum, List.map_cons, List.map_nil, List.sum_cons, List.sum_nil, List.cons_append, List.nil_append, Option.toList, vp_nar_int, narrow_b1, narrow_b0, nc115, vc115, fc115, nc111, vc111, fc111, nc100, vc100, fc100, nc109, vc109, fc109, nc120, vc120, fc120, nc119, vc119, fc119, nc116, vc116, fc116, nc45, vc45, fc45, nc32, vc32, fc32, nc102, vc102, fc102, nc106, vc106, fc106, fin3, rf_some, rf_none, upd_ap, va_up_ap, nar_bi, fits_bi, nvp_bi, bi_t, bi_f, fval, fty, ftabs, wrv_0, wrv_1, wrv_2, wrv_3, wrv_5, mT_stI, mI_stI, mL_stI, mD_stI, mR_stI, mN_stI, mS_stI, mT_stL, mI_stL, mL_stL, mD_stL, mR_stL, mN_stL, mS_stL, mT_stD, mI_stD, mL_stD, mD_stD, mR_stD, mN_stD, mS_stD, mT_stR, mI_stR, mL_stR, mD_stR, mR_stR, mN_stR, mS_stR, mT_stN, mI_stN, mL_stN, mD_stN, mR_stN, mN_stN, mS_stN, e12_0, e12_1, e12_2, e12_5, e12_8, e12_9, e12_10, e12_11, e12_14, e12_15, e12_16, e12_17, e12_18, e12_19, e12_20, e12_22, e12_23, e12_26, e12_29, e12_30, e12_33, e12_34, e12_35, e12_36, e12_37, e12_40, e12_41, e12_42, e12_43, e12_46, e12_49, e12_50, e12_51, e12_54, e12_55, e12_56, e12_59, e12_60, rt12, hn12, pk0 hs, pk1 hs, pk3 hs, hn, Int32.le_refl, nI_pred]
/-- the set of a pack's cards -/
def csF (P : Nat → Int32) : Nat → Int64
  | 0 => 0
  | k + 1 => csF P k ||| (1 <<< ((P k).toInt64 &&& 63))
theorem csF_0 {P : Nat → Int32} : csF P 0 = 0 := rfl
theorem sp13 {q n : Nat} {M : AMem} {Q : AR → Prop} (hs : PK M q) (hn : mI M q 4 = nI n) (hn60 : n ≤ 60) : CaP 13 [.ref q] M Q = Q (M, .inl (some (.long (csF (mI M (q + 1)) n)))) := by
  have hl := loopE (m := 13) (pc := 4) (Q := Q) n (fun k => [(0, .ref q), (1, .long (csF (mI M (q + 1)) k)), (3, .int (nI k))]) (fun _ => M) (by
    intro k hk
    rw [e13_4]
    simp [lv_args, sStep, amStep, a_nx, a_ii, a_jj, a_ji, a_ld, a_st, a_if, a_ald, a_c1, a_c2, lkp, lput, lput2, lins, oP_none, oP_next, oP_call, oP_ret, oP_thr, outP_ite, aft_ret, aft_void, aft_thr, fHnd, List.isEmpty_nil, List.filter_cons, List.filter_nil, Value.category, csum, List.map_cons, List.map_nil, List.sum_cons, List.sum_nil, List.cons_append, List.nil_append, Option.toList, vp_nar_int, narrow_b1, narrow_b0, nc115, vc115, fc115, nc111, vc111, fc111, nc100, vc100, fc100, nc109, vc109, fc109, nc120, vc120, fc120, nc119, vc119, fc119, nc116, vc116, fc116, nc45, vc45, fc45, nc32, vc32, fc32, nc102, vc102, fc102, nc106, vc106, fc106, fin3, rf_some, rf_none, upd_ap, va_up_ap, nar_bi, fits_bi, nvp_bi, bi_t, bi_f, fval, fty, ftabs, wrv_0, wrv_1, wrv_2, wrv_3, wrv_5, mT_stI, mI_stI, mL_stI, mD_stI, mR_stI, mN_stI, mS_stI, mT_stL, mI_stL, mL_stL, mD_stL, mR_stL, mN_stL, mS_stL, mT_stD, mI_stD, mL_stD, mD_stD, mR_stD, mN_stD, mS_stD, mT_stR, mI_stR, mL_stR, mD_stR, mR_stR, mN_stR, mS_stR, mT_stN, mI_stN, mL_stN, mD_stN, mR_stN, mN_stN, mS_stN, e13_0, e13_1, e13_2, e13_3, e13_5, e13_6, e13_9, e13_12, e13_13, e13_14, e13_15, e13_18, e13_19, e13_20, e13_21, e13_22, e13_23, e13_26, e13_29, e13_30, rt13, hn13, pk0 hs, pk1 hs, pk3 hs, hn, nI_ge hk (show n < 2 ^ 31 by omega), inb_nI (show k < 60 by omega), nI_clamp (show k < 2 ^ 31 by omega), nI_1, csF])
  simp only [nI_0, csF_0] at hl
  unfold CaP
  simp [lv_args, sStep, amStep, a_nx, a_ii, a_jj, a_ji, a_ld, a_st, a_if, a_ald, a_c1, a_c2, lkp, lput, lput2, lins, oP_none, oP_next, oP_call, oP_ret, oP_thr, outP_ite, aft_ret, aft_void, aft_thr, fHnd, List.isEmpty_nil, List.filter_cons, List.filter_nil, Value.category, csum, List.map_cons, List.map_nil, List.sum_cons, List.sum_nil, List.cons_append, List.nil_append, Option.toList, vp_nar_int, narrow_b1, narrow_b0, nc115, vc115, fc115, nc111, vc111, fc111, nc100, vc100, fc100, nc109, vc109, fc109, nc120, vc120, fc120, nc119, vc119, fc119, nc116, vc116, fc116, nc45, vc45, fc45, nc32, vc32, fc32, nc102, vc102, fc102, nc106, vc106, fc106, fin3, rf_some, rf_none, upd_ap, va_up_ap, nar_bi, fits_bi, nvp_bi, bi_t, bi_f, fval, fty, ftabs, wrv_0, wrv_1, wrv_2, wrv_3, wrv_5, mT_stI, mI_stI, mL_stI, mD_stI, mR_stI, mN_stI, mS_stI, mT_stL, mI_stL, mL_stL, mD_stL, mR_stL, mN_stL, mS_stL, mT_stD, mI_stD, mL_stD, mD_stD, mR_stD, mN_stD, mS_stD, mT_stR, mI_stR, mL_stR, mD_stR, mR_stR, mN_stR, mS_stR, mT_stN, mI_stN, mL_stN, mD_stN, mR_stN, mN_stN, mS_stN, e13_0, e13_1, e13_2, e13_3, e13_5, e13_6, e13_9, e13_12, e13_13, e13_14, e13_15, e13_18, e13_19, e13_20, e13_21, e13_22, e13_23, e13_26, e13_29, e13_30, rt13, hn13, pk0 hs]
  rw [hl, e13_4]
  simp [lv_args, sStep, amStep, a_nx, a_ii, a_jj, a_ji, a_ld, a_st, a_if, a_ald, a_c1, a_c2, lkp, lput, lput2, lins, oP_none, oP_next, oP_call, oP_ret, oP_thr, outP_ite, aft_ret, aft_void, aft_thr, fHnd, List.isEmpty_nil, List.filter_cons, List.filter_nil, Value.category, csum, List.map_cons, List.map_nil, List.sum_cons, List.sum_nil, List.cons_append, List.nil_append, Option.toList, vp_nar_int, narrow_b1, narrow_b0, nc115, vc115, fc115, nc111, vc111, fc111, nc100, vc100, fc100, nc109, vc109, fc109, nc120, vc120, fc120, nc119, vc119, fc119, nc116, vc116, fc116, nc45, vc45, fc45, nc32, vc32, fc32, nc102, vc102, fc102, nc106, vc106, fc106, fin3, rf_some, rf_none, upd_ap, va_up_ap, nar_bi, fits_bi, nvp_bi, bi_t, bi_f, fval, fty, ftabs, wrv_0, wrv_1, wrv_2, wrv_3, wrv_5, mT_stI, mI_stI, mL_stI, mD_stI, mR_stI, mN_stI, mS_stI, mT_stL, mI_stL, mL_stL, mD_stL, mR_stL, mN_stL, mS_stL, mT_stD, mI_stD, mL_stD, mD_stD, mR_stD, mN_stD, mS_stD, mT_stR, mI_stR, mL_stR, mD_stR, mR_stR, mN_stR, mS_stR, mT_stN, mI_stN, mL_stN, mD_stN, mR_stN, mN_stN, mS_stN, e13_0, e13_1, e13_2, e13_3, e13_5, e13_6, e13_9, e13_12, e13_13, e13_14, e13_15, e13_18, e13_19, e13_20, e13_21, e13_22, e13_23, e13_26, e13_29, e13_30, rt13, hn13, pk0 hs, hn, Int32.le_refl]
theorem sp18 {q n : Nat} {s : Int64} {M : AMem} {Q : AR → Prop} (hs : PK M q) (hn : mI M q 4 = nI n) (hn60 : n ≤ 60) : CaP 18 [.ref q, .long s] M Q = Q (M, .inl (some (.long (ckI (31 * s + (mI M q 5).toInt64) (mI M (q + 1)) n)))) := by
  have hl := loopE (m := 18) (pc := 15) (Q := Q) n (fun k => [(0, .ref q), (1, .long s), (3, .long (ckI (31 * s + (mI M q 5).toInt64) (mI M (q + 1)) k)), (5, .int (nI k))]) (fun _ => M) (by
    intro k hk
    rw [e18_15]
    simp [lv_args, sStep, amStep, a_nx, a_ii, a_jj, a_ji, a_ld, a_st, a_if, a_ald, a_c1, a_c2, lkp, lput, lput2, lins, oP_none, oP_next, oP_call, oP_ret, oP_thr, outP_ite, aft_ret, aft_void, aft_thr, fHnd, List.isEmpty_nil, List.filter_cons, List.filter_nil, Value.category, csum, List.map_cons, List.map_nil, List.sum_cons, List.sum_nil, List.cons_append, List.nil_append, Option.toList, vp_nar_int, narrow_b1, narrow_b0, nc115, vc115, fc115, nc111, vc111, fc111, nc100, vc100, fc100, nc109, vc109, fc109, nc120, vc120, fc120, nc119, vc119, fc119, nc116, vc116, fc116, nc45, vc45, fc45, nc32, vc32, fc32, nc102, vc102, fc102, nc106, vc106, fc106, fin3, rf_some, rf_none, upd_ap, va_up_ap, nar_bi, fits_bi, nvp_bi, bi_t, bi_f, fval, fty, ftabs, wrv_0, wrv_1, wrv_2, wrv_3, wrv_5, mT_stI, mI_stI, mL_stI, mD_stI, mR_stI, mN_stI, mS_stI, mT_stL, mI_stL, mL_stL, mD_stL, mR_stL, mN_stL, mS_stL, mT_stD, mI_stD, mL_stD, mD_stD, mR_stD, mN_stD, mS_stD, mT_stR, mI_stR, mL_stR, mD_stR, mR_stR, mN_stR, mS_stR, mT_stN, mI_stN, mL_stN, mD_stN, mR_stN, mN_stN, mS_stN, e18_0, e18_3, e18_4, e18_5, e18_6, e18_9, e18_10, e18_11, e18_12, e18_13, e18_17, e18_18, e18_21, e18_24, e18_27, e18_28, e18_29, e18_30, e18_33, e18_35, e18_36, e18_37, e18_38, e18_39, e18_42, e18_45, e18_46, rt18, hn18, lcon2, pk0 hs, pk1 hs, pk3 hs, hn, nI_ge hk (show n < 2 ^ 31 by omega), inb_nI (show k < 60 by omega), nI_clamp (show k < 2 ^ 31 by omega), nI_1, ckI])
  simp only [nI_0, ckI_0] at hl
  unfold CaP
  simp [lv_args, sStep, amStep, a_nx, a_ii, a_jj, a_ji, a_ld, a_st, a_if, a_ald, a_c1, a_c2, lkp, lput, lput2, lins, oP_none, oP_next, oP_call, oP_ret, oP_thr, outP_ite, aft_ret, aft_void, aft_thr, fHnd, List.isEmpty_nil, List.filter_cons, List.filter_nil, Value.category, csum, List.map_cons, List.map_nil, List.sum_cons, List.sum_nil, List.cons_append, List.nil_append, Option.toList, vp_nar_int, narrow_b1, narrow_b0, nc115, vc115, fc115, nc111, vc111, fc111, nc100, vc100, fc100, nc109, vc109, fc109, nc120, vc120, fc120, nc119, vc119, fc119, nc116, vc116, fc116, nc45, vc45, fc45, nc32, vc32, fc32, nc102, vc102, fc102, nc106, vc106, fc106, fin3, rf_some, rf_none, upd_ap, va_up_ap, nar_bi, fits_bi, nvp_bi, bi_t, bi_f, fval, fty, ftabs, wrv_0, wrv_1, wrv_2, wrv_3, wrv_5, mT_stI, mI_stI, mL_stI, mD_stI, mR_stI, mN_stI, mS_stI, mT_stL, mI_stL, mL_stL, mD_stL, mR_stL, mN_stL, mS_stL, mT_stD, mI_stD, mL_stD, mD_stD, mR_stD, mN_stD, mS_stD, mT_stR, mI_stR, mL_stR, mD_stR, mR_stR, mN_stR, mS_stR, mT_stN, mI_stN, mL_stN, mD_stN, mR_stN, mN_stN, mS_stN, e18_0, e18_3, e18_4, e18_5, e18_6, e18_9, e18_10, e18_11, e18_12, e18_13, e18_17, e18_18, e18_21, e18_24, e18_27, e18_28, e18_29, e18_30, e18_33, e18_35, e18_36, e18_37, e18_38, e18_39, e18_42, e18_45, e18_46, rt18, hn18, lcon2, pk0 hs]
  rw [hl, e18_15]
  simp [lv_args, sStep, amStep, a_nx, a_ii, a_jj, a_ji, a_ld, a_st, a_if, a_ald, a_c1, a_c2, lkp, lput, lput2, lins, oP_none, oP_next, oP_call, oP_ret, oP_thr, outP_ite, aft_ret, aft_void, aft_thr, fHnd, List.isEmpty_nil, List.filter_cons, List.filter_nil, Value.category, csum, List.map_cons, List.map_nil, List.sum_cons, List.sum_nil, List.cons_append, List.nil_append, Option.toList, vp_nar_int, narrow_b1, narrow_b0, nc115, vc115, fc115, nc111, vc111, fc111, nc100, vc100, fc100, nc109, vc109, fc109, nc120, vc120, fc120, nc119, vc119, fc119, nc116, vc116, fc116, nc45, vc45, fc45, nc32, vc32, fc32, nc102, vc102, fc102, nc106, vc106, fc106, fin3, rf_some, rf_none, upd_ap, va_up_ap, nar_bi, fits_bi, nvp_bi, bi_t, bi_f, fval, fty, ftabs, wrv_0, wrv_1, wrv_2, wrv_3, wrv_5, mT_stI, mI_stI, mL_stI, mD_stI, mR_stI, mN_stI, mS_stI, mT_stL, mI_stL, mL_stL, mD_stL, mR_stL, mN_stL, mS_stL, mT_stD, mI_stD, mL_stD, mD_stD, mR_stD, mN_stD, mS_stD, mT_stR, mI_stR, mL_stR, mD_stR, mR_stR, mN_stR, mS_stR, mT_stN, mI_stN, mL_stN, mD_stN, mR_stN, mN_stN, mS_stN, e18_0, e18_3, e18_4, e18_5, e18_6, e18_9, e18_10, e18_11, e18_12, e18_13, e18_17, e18_18, e18_21, e18_24, e18_27, e18_28, e18_29, e18_30, e18_33, e18_35, e18_36, e18_37, e18_38, e18_39, e18_42, e18_45, e18_46, rt18, hn18, pk0 hs, hn, Int32.le_refl]
theorem sp38 {a n : Nat} {B : Nat} {M : AMem} {Q : AR → Prop} (h : ST B M) (ha : mT M a = (100, 60)) (hn : n ≤ 60) : CaP 38 [.ref (B + 9), .ref a, .int (nI n)] M Q = Q (M, .inl (some (.int 1))) := by
  unfold CaP
  simp [lv_args, sStep, amStep, a_nx, a_ii, a_jj, a_ji, a_ld, a_st, a_if, a_ald, a_c1, a_c2, lkp, lput, lput2, lins, oP_none, oP_next, oP_call, oP_ret, oP_thr, outP_ite, aft_ret, aft_void, aft_thr, fHnd, List.isEmpty_nil, List.filter_cons, List.filter_nil, Value.category, csum, List.map_cons, List.map_nil, List.sum_cons, List.sum_nil, List.cons_append, List.nil_append, Option.toList, vp_nar_int, narrow_b1, narrow_b0, nc115, vc115, fc115, nc111, vc111, fc111, nc100, vc100, fc100, nc109, vc109, fc109, nc120, vc120, fc120, nc119, vc119, fc119, nc116, vc116, fc116, nc45, vc45, fc45, nc32, vc32, fc32, nc102, vc102, fc102, nc106, vc106, fc106, fin3, rf_some, rf_none, upd_ap, va_up_ap, nar_bi, fits_bi, nvp_bi, bi_t, bi_f, fval, fty, ftabs, wrv_0, wrv_1, wrv_2, wrv_3, wrv_5, mT_stI, mI_stI, mL_stI, mD_stI, mR_stI, mN_stI, mS_stI, mT_stL, mI_stL, mL_stL, mD_stL, mR_stL, mN_stL, mS_stL, mT_stD, mI_stD, mL_stD, mD_stD, mR_stD, mN_stD, mS_stD, mT_stR, mI_stR, mL_stR, mD_stR, mR_stR, mN_stR, mS_stR, mT_stN, mI_stN, mL_stN, mD_stN, mR_stN, mN_stN, mS_stN, e38_0, e38_1, e38_4, e38_5, e38_7, e38_10, e38_11, e38_12, e38_13, e38_16, e38_17, e38_20, e38_21, rt38, hn38, h, tT0, tT1, tT2, tT3, tT4, tT5, tT6, tT7, tT8, tT9, tT10, tT11, tT12, tT13, tT14, tT15, tT16, tT17, tT18, tT19, tT20, tT21, tT22, tT23, tT24, tT25, tT26, tT27, tT28, tT29, tT30, tT31, tT32, tT33, tT34, tT35, tT36, tT37, tT38, tT39, tT40, tT41, tT42, tT43, tT44, tR0_0, tR0_6, tR0_7, tR0_8, tR0_9, tR0_11, tR0_12, tR0_14, tR2_0, tR2_1, tR6_0, tR9_0, tR9_1, tR14_0, tR14_1, tR14_2, tR14_3, tR14_4, tR14_5, tR14_6, tR14_7, tR14_8, tR14_9, tR14_10, tR14_11, tR14_12, tR14_13, tR14_14, tR14_15, tR14_16, tR14_17, tR14_18, tR14_19, tR14_20, tR14_21, tR14_22, tR14_23, tR14_24, tR14_25, tR14_26, tR14_27, ST_stI, ST_stL, ST_stD, ha, nlt0 (show n < 2 ^ 31 by omega), gt60 hn]
/-- where an outer and an inner shuffle take their cards from -/
def cgF (b : Bool) (n j : Nat) : Nat :=
  if b = true then (if j % 2 = 0 then j / 2 else (n + 1) / 2 + j / 2)
  else if j + 1 = n ∧ n % 2 = 1 then (n + 1) / 2 - 1 else if j % 2 = 0 then (n + 1) / 2 + j / 2 else j / 2
theorem ul_t {n k : Nat} (hk : k ≤ n) : ulF true n ((n + 1) / 2) k = ((k + 1) / 2, (n + 1) / 2 + k / 2) := by
  induction k with
  | zero => rfl
  | succ k ih =>
    have i1 := ih (by omega)
    unfold ulF
    rw [i1]
    by_cases h : k % 2 = 0
    · rw [if_pos (by right; exact ⟨by show (k + 1) / 2 < _; omega, by simp [h]⟩)]
      exact Prod.ext (by show (k + 1) / 2 + 1 = (k + 1 + 1) / 2; omega) (by show (n + 1) / 2 + k / 2 = (n + 1) / 2 + (k + 1) / 2; omega)
    · rw [if_neg]
      · exact Prod.ext (by show (k + 1) / 2 = (k + 1 + 1) / 2; omega) (by show (n + 1) / 2 + k / 2 + 1 = (n + 1) / 2 + (k + 1) / 2; omega)
      · rintro (hc | hc)
        · simp only at hc; omega
        · simp [h] at hc
theorem ul_f {n k : Nat} (hk : k < n) : ulF false n ((n + 1) / 2) k = (k / 2, (n + 1) / 2 + (k + 1) / 2) := by
  induction k with
  | zero => rfl
  | succ k ih =>
    have i1 := ih (by omega)
    unfold ulF
    rw [i1]
    by_cases h : k % 2 = 0
    · rw [if_neg]
      · exact Prod.ext (by show k / 2 = (k + 1) / 2; omega) (by show (n + 1) / 2 + (k + 1) / 2 + 1 = (n + 1) / 2 + (k + 1 + 1) / 2; omega)
      · rintro (hc | hc)
        · simp only at hc; omega
        · simp [h] at hc
    · rw [if_pos (by right; exact ⟨by show k / 2 < _; omega, by simp [h]⟩)]
      exact Prod.ext (by show k / 2 + 1 = (k + 1) / 2; omega) (by show (n + 1) / 2 + (k + 1) / 2 = (n + 1) / 2 + (k + 1 + 1) / 2; omega)
theorem sg_cg {b : Bool} {n k : Nat} (hk : k < n) : sgF b n k = cgF b n k := by
  unfold sgF upB cgF
  cases b
  · rw [ul_f hk]
    simp only [decide_eq_true_eq, Bool.false_eq_true, if_false]
    by_cases h1 : k + 1 = n ∧ n % 2 = 1
    · rw [if_pos h1, if_pos (by left; omega)]
      omega
    · rw [if_neg h1]
      by_cases h : k % 2 = 0
      · rw [if_pos h, if_neg]
        · omega
        · rintro (hc | hc)
          · omega
          · simp [h] at hc
      · rw [if_neg h, if_pos (by right; exact ⟨by omega, by simp [h]⟩)]
  · rw [ul_t (by omega)]
    simp only [decide_eq_true_eq, if_true]
    by_cases h : k % 2 = 0
    · rw [if_pos h, if_pos (by right; exact ⟨by omega, by simp [h]⟩)]
      omega
    · rw [if_neg h, if_neg]
      rintro (hc | hc)
      · omega
      · simp [h] at hc
theorem cpF_ext {f g g' : Nat → Int32} {k : Nat} (h : ∀ j, j < k → g j = g' j) : cpF f g k = cpF f g' k := by
  funext j
  unfold cpF
  by_cases hj : j < k
  · rw [if_pos hj, if_pos hj, h j hj]
  · rw [if_neg hj, if_neg hj]
theorem cpy_cp {f g : Nat → Int32} {n : Nat} : va_cpy f g 0 0 n = cpF g f n := by
  funext k
  unfold va_cpy cpF
  by_cases h : k < n
  · rw [if_pos (by omega), if_pos h, show 0 + (k - 0) = k by omega]
  · rw [if_neg (by omega), if_neg h]
theorem cpF_cpF {f g h : Nat → Int32} {n : Nat} : cpF f (cpF h g n) n = cpF f g n := cpF_ext (fun j hj => cpF_lt hj)
theorem rc_fl {a n : Nat} (h : n ≤ a) (ha : a < 2 ^ 31) : ¬ nI a < nI n := nI_nlt h ha
theorem toI0 {n : Nat} (h : n < 2 ^ 31) : 0 ≤ (nI n).toInt := by rw [nI_toInt h]; omega
theorem sp39 {a n : Nat} {B : Nat} {b : Bool} {M : AMem} {Q : AR → Prop} (h : ST B M) (ha : mT M a = (100, 60)) (hne : ¬ a = B + 10) (hn : n ≤ 60) : CaP 39 [.ref (B + 9), .ref a, .int (nI n), .int (bi b)] M Q = Q (stI (stI M (B + 10) (cpF (mI M (B + 10)) (fun k => mI M a (sgF b n k)) n)) a (cpF (mI M a) (fun k => mI M a (sgF b n k)) n), .inl none) := by
  have e38 := fun Q => @sp38 a n B M Q h ha hn
  have ef : ∀ f k, k ≤ n → cpF f (fun k => mI M a (sgF b n k)) k = cpF f (fun k => mI M a (cgF b n k)) k := fun f k hk => cpF_ext (fun j hj => by rw [sg_cg (show j < n by omega)])
  rw [ef _ n (Nat.le_refl n), ef _ n (Nat.le_refl n)]
  have hl := loopT (m := 39) (pc := 23) (Q := Q) (tl2 7 8) ((n + 1) / 2) (fun u T => [(0, .ref (B + 9)), (1, .ref a), (2, .int (nI n)), (3, .int (bi b)), (4, .int (nI ((n + 1) / 2))), (5, .int (nI (min (2 * u) n))), (6, .int (nI u))] ++ T) (fun u => stI M (B + 10) (cpF (mI M (B + 10)) (fun k => mI M a (cgF b n k)) (min (2 * u) n))) (by
    intro u hu T hT
    have hm : min (2 * u) n = 2 * u := by omega
    refine ⟨[(7, .int (nI ((n + 1) / 2 + u))), (8, .int (bi (decide ((n + 1) / 2 + u < n))))], Or.inr (Or.inr ⟨_, _, rfl⟩), ?_⟩
    rw [e39_23, hm]
    have s1 := @cpF_S (mI M (B + 10)) (fun k => mI M a (cgF b n k)) (2 * u)
    have s2 := @cpF_S (mI M (B + 10)) (fun k => mI M a (cgF b n k)) (2 * u + 1)
    by_cases hun : (n + 1) / 2 + u < n
    · have hm2 : min (2 * (u + 1)) n = 2 * u + 1 + 1 := by omega
      rw [hm2]
      have hge : ¬ nI n ≤ nI ((n + 1) / 2 + u) := nI_ge hun (by omega)
      cases b
      · have g1 : cgF false n (2 * u) = (n + 1) / 2 + u := by
          unfold cgF
          rw [if_neg (by decide), if_neg (by omega), if_pos (by omega)]
          omega
        have g2 : cgF false n (2 * u + 1) = u := by
          unfold cgF
          rw [if_neg (by decide), if_neg (by omega), if_neg (by omega)]
          omega
        simp only [g1] at s1
        simp only [g2] at s2
        rcases hT with rfl | ⟨x, rfl⟩ | ⟨x, y, rfl⟩ <;>
        simp [lv_args, sStep, amStep, a_nx, a_ii, a_jj, a_ji, a_ld, a_st, a_if, a_ald, a_c1, a_c2, lkp, lput, lput2, lins, oP_none, oP_next, oP_call, oP_ret, oP_thr, outP_ite, aft_ret, aft_void, aft_thr, fHnd, List.isEmpty_nil, List.filter_cons, List.filter_nil, Value.category, csum, List.map_cons, List.map_nil, List.sum_cons, List.sum_nil, List.cons_append, List.nil_append, Option.toList, vp_nar_int, narrow_b1, narrow_b0, nc115, vc115, fc115, nc111, vc111, fc111, nc100, vc100, fc100, nc109, vc109, fc109, nc120, vc120, fc120, nc119, vc119, fc119, nc116, vc116, fc116, nc45, vc45, fc45, nc32, vc32, fc32, nc102, vc102, fc102, nc106, vc106, fc106, fin3, rf_some, rf_none, upd_ap, va_up_ap, nar_bi, fits_bi, nvp_bi, bi_t, bi_f, fval, fty, ftabs, wrv_0, wrv_1, wrv_2, wrv_3, wrv_5, mT_stI, mI_stI, mL_stI, mD_stI, mR_stI, mN_stI, mS_stI, mT_stL, mI_stL, mL_stL, mD_stL, mR_stL, mN_stL, mS_stL, mT_stD, mI_stD, mL_stD, mD_stD, mR_stD, mN_stD, mS_stD, mT_stR, mI_stR, mL_stR, mD_stR, mR_stR, mN_stR, mS_stR, mT_stN, mI_stN, mL_stN, mD_stN, mR_stN, mN_stN, mS_stN, e39_0, e39_1, e39_2, e39_3, e39_6, e39_9, e39_10, e39_11, e39_12, e39_13, e39_14, e39_15, e39_17, e39_18, e39_20, e39_21, e39_25, e39_27, e39_30, e39_32, e39_34, e39_35, e39_37, e39_39, e39_40, e39_43, e39_44, e39_47, e39_48, e39_50, e39_52, e39_55, e39_56, e39_59, e39_60, e39_63, e39_65, e39_66, e39_68, e39_69, e39_70, e39_73, e39_74, e39_77, e39_79, e39_80, e39_82, e39_83, e39_84, e39_87, e39_89, e39_92, e39_93, e39_96, e39_97, e39_100, e39_102, e39_103, e39_105, e39_106, e39_107, e39_110, e39_113, e39_116, e39_117, e39_120, e39_121, e39_122, e39_123, e39_124, e39_127, rt39, hn39, h, tT0, tT1, tT2, tT3, tT4, tT5, tT6, tT7, tT8, tT9, tT10, tT11, tT12, tT13, tT14, tT15, tT16, tT17, tT18, tT19, tT20, tT21, tT22, tT23, tT24, tT25, tT26, tT27, tT28, tT29, tT30, tT31, tT32, tT33, tT34, tT35, tT36, tT37, tT38, tT39, tT40, tT41, tT42, tT43, tT44, tR0_0, tR0_6, tR0_7, tR0_8, tR0_9, tR0_11, tR0_12, tR0_14, tR2_0, tR2_1, tR6_0, tR9_0, tR9_1, tR14_0, tR14_1, tR14_2, tR14_3, tR14_4, tR14_5, tR14_6, tR14_7, tR14_8, tR14_9, tR14_10, tR14_11, tR14_12, tR14_13, tR14_14, tR14_15, tR14_16, tR14_17, tR14_18, tR14_19, tR14_20, tR14_21, tR14_22, tR14_23, tR14_24, tR14_25, tR14_26, tR14_27, ST_stI, ST_stL, ST_stD, ha, Ne.symm hne, hne, nI_ge hu (show (n + 1) / 2 < 2 ^ 31 by omega), nI_add, hge, hun, inb_nI (show (n + 1) / 2 + u < 60 by omega), inb_nI (show u < 60 by omega), inb_nI (show 2 * u < 60 by omega), inb_nI (show 2 * u + 1 < 60 by omega), nI_clamp (show (n + 1) / 2 + u < 2 ^ 31 by omega), nI_clamp (show u < 2 ^ 31 by omega), nI_clamp (show 2 * u < 2 ^ 31 by omega), nI_clamp (show 2 * u + 1 < 2 ^ 31 by omega), nI_1, stI_stI, s1, s2, bi]
      · have g1 : cgF true n (2 * u) = u := by
          unfold cgF
          rw [if_pos rfl, if_pos (by omega)]
          omega
        have g2 : cgF true n (2 * u + 1) = (n + 1) / 2 + u := by
          unfold cgF
          rw [if_pos rfl, if_neg (by omega)]
          omega
        simp only [g1] at s1
        simp only [g2] at s2
        rcases hT with rfl | ⟨x, rfl⟩ | ⟨x, y, rfl⟩ <;>
        simp [lv_args, sStep, amStep, a_nx, a_ii, a_jj, a_ji, a_ld, a_st, a_if, a_ald, a_c1, a_c2, lkp, lput, lput2, lins, oP_none, oP_next, oP_call, oP_ret, oP_thr, outP_ite, aft_ret, aft_void, aft_thr, fHnd, List.isEmpty_nil, List.filter_cons, List.filter_nil, Value.category, csum, List.map_cons, List.map_nil, List.sum_cons, List.sum_nil, List.cons_append, List.nil_append, Option.toList, vp_nar_int, narrow_b1, narrow_b0, nc115, vc115, fc115, nc111, vc111, fc111, nc100, vc100, fc100, nc109, vc109, fc109, nc120, vc120, fc120, nc119, vc119, fc119, nc116, vc116, fc116, nc45, vc45, fc45, nc32, vc32, fc32, nc102, vc102, fc102, nc106, vc106, fc106, fin3, rf_some, rf_none, upd_ap, va_up_ap, nar_bi, fits_bi, nvp_bi, bi_t, bi_f, fval, fty, ftabs, wrv_0, wrv_1, wrv_2, wrv_3, wrv_5, mT_stI, mI_stI, mL_stI, mD_stI, mR_stI, mN_stI, mS_stI, mT_stL, mI_stL, mL_stL, mD_stL, mR_stL, mN_stL, mS_stL, mT_stD, mI_stD, mL_stD, mD_stD, mR_stD, mN_stD, mS_stD, mT_stR, mI_stR, mL_stR, mD_stR, mR_stR, mN_stR, mS_stR, mT_stN, mI_stN, mL_stN, mD_stN, mR_stN, mN_stN, mS_stN, e39_0, e39_1, e39_2, e39_3, e39_6, e39_9, e39_10, e39_11, e39_12, e39_13, e39_14, e39_15, e39_17, e39_18, e39_20, e39_21, e39_25, e39_27, e39_30, e39_32, e39_34, e39_35, e39_37, e39_39, e39_40, e39_43, e39_44, e39_47, e39_48, e39_50, e39_52, e39_55, e39_56, e39_59, e39_60, e39_63, e39_65, e39_66, e39_68, e39_69, e39_70, e39_73, e39_74, e39_77, e39_79, e39_80, e39_82, e39_83, e39_84, e39_87, e39_89, e39_92, e39_93, e39_96, e39_97, e39_100, e39_102, e39_103, e39_105, e39_106, e39_107, e39_110, e39_113, e39_116, e39_117, e39_120, e39_121, e39_122, e39_123, e39_124, e39_127, rt39, hn39, h, tT0, tT1, tT2, tT3, tT4, tT5, tT6, tT7, tT8, tT9, tT10, tT11, tT12, tT13, tT14, tT15, tT16, tT17, tT18, tT19, tT20, tT21, tT22, tT23, tT24, tT25, tT26, tT27, tT28, tT29, tT30, tT31, tT32, tT33, tT34, tT35, tT36, tT37, tT38, tT39, tT40, tT41, tT42, tT43, tT44, tR0_0, tR0_6, tR0_7, tR0_8, tR0_9, tR0_11, tR0_12, tR0_14, tR2_0, tR2_1, tR6_0, tR9_0, tR9_1, tR14_0, tR14_1, tR14_2, tR14_3, tR14_4, tR14_5, tR14_6, tR14_7, tR14_8, tR14_9, tR14_10, tR14_11, tR14_12, tR14_13, tR14_14, tR14_15, tR14_16, tR14_17, tR14_18, tR14_19, tR14_20, tR14_21, tR14_22, tR14_23, tR14_24, tR14_25, tR14_26, tR14_27, ST_stI, ST_stL, ST_stD, ha, Ne.symm hne, hne, nI_ge hu (show (n + 1) / 2 < 2 ^ 31 by omega), nI_add, hge, hun, inb_nI (show (n + 1) / 2 + u < 60 by omega), inb_nI (show u < 60 by omega), inb_nI (show 2 * u < 60 by omega), inb_nI (show 2 * u + 1 < 60 by omega), nI_clamp (show (n + 1) / 2 + u < 2 ^ 31 by omega), nI_clamp (show u < 2 ^ 31 by omega), nI_clamp (show 2 * u < 2 ^ 31 by omega), nI_clamp (show 2 * u + 1 < 2 ^ 31 by omega), nI_1, stI_stI, s1, s2, bi]
    · have hm2 : min (2 * (u + 1)) n = 2 * u + 1 := by omega
      rw [hm2]
      have hge : nI n ≤ nI ((n + 1) / 2 + u) := nI_le (by omega) (by omega)
      have g1 : cgF b n (2 * u) = u := by
        unfold cgF
        cases b
        · rw [if_neg (by decide), if_pos (by omega)]
          omega
        · rw [if_pos rfl, if_pos (by omega)]
          omega
      simp only [g1] at s1
      rcases hT with rfl | ⟨x, rfl⟩ | ⟨x, y, rfl⟩ <;>
      simp [lv_args, sStep, amStep, a_nx, a_ii, a_jj, a_ji, a_ld, a_st, a_if, a_ald, a_c1, a_c2, lkp, lput, lput2, lins, oP_none, oP_next, oP_call, oP_ret, oP_thr, outP_ite, aft_ret, aft_void, aft_thr, fHnd, List.isEmpty_nil, List.filter_cons, List.filter_nil, Value.category, csum, List.map_cons, List.map_nil, List.sum_cons, List.sum_nil, List.cons_append, List.nil_append, Option.toList, vp_nar_int, narrow_b1, narrow_b0, nc115, vc115, fc115, nc111, vc111, fc111, nc100, vc100, fc100, nc109, vc109, fc109, nc120, vc120, fc120, nc119, vc119, fc119, nc116, vc116, fc116, nc45, vc45, fc45, nc32, vc32, fc32, nc102, vc102, fc102, nc106, vc106, fc106, fin3, rf_some, rf_none, upd_ap, va_up_ap, nar_bi, fits_bi, nvp_bi, bi_t, bi_f, fval, fty, ftabs, wrv_0, wrv_1, wrv_2, wrv_3, wrv_5, mT_stI, mI_stI, mL_stI, mD_stI, mR_stI, mN_stI, mS_stI, mT_stL, mI_stL, mL_stL, mD_stL, mR_stL, mN_stL, mS_stL, mT_stD, mI_stD, mL_stD, mD_stD, mR_stD, mN_stD, mS_stD, mT_stR, mI_stR, mL_stR, mD_stR, mR_stR, mN_stR, mS_stR, mT_stN, mI_stN, mL_stN, mD_stN, mR_stN, mN_stN, mS_stN, e39_0, e39_1, e39_2, e39_3, e39_6, e39_9, e39_10, e39_11, e39_12, e39_13, e39_14, e39_15, e39_17, e39_18, e39_20, e39_21, e39_25, e39_27, e39_30, e39_32, e39_34, e39_35, e39_37, e39_39, e39_40, e39_43, e39_44, e39_47, e39_48, e39_50, e39_52, e39_55, e39_56, e39_59, e39_60, e39_63, e39_65, e39_66, e39_68, e39_69, e39_70, e39_73, e39_74, e39_77, e39_79, e39_80, e39_82, e39_83, e39_84, e39_87, e39_89, e39_92, e39_93, e39_96, e39_97, e39_100, e39_102, e39_103, e39_105, e39_106, e39_107, e39_110, e39_113, e39_116, e39_117, e39_120, e39_121, e39_122, e39_123, e39_124, e39_127, rt39, hn39, h, tT0, tT1, tT2, tT3, tT4, tT5, tT6, tT7, tT8, tT9, tT10, tT11, tT12, tT13, tT14, tT15, tT16, tT17, tT18, tT19, tT20, tT21, tT22, tT23, tT24, tT25, tT26, tT27, tT28, tT29, tT30, tT31, tT32, tT33, tT34, tT35, tT36, tT37, tT38, tT39, tT40, tT41, tT42, tT43, tT44, tR0_0, tR0_6, tR0_7, tR0_8, tR0_9, tR0_11, tR0_12, tR0_14, tR2_0, tR2_1, tR6_0, tR9_0, tR9_1, tR14_0, tR14_1, tR14_2, tR14_3, tR14_4, tR14_5, tR14_6, tR14_7, tR14_8, tR14_9, tR14_10, tR14_11, tR14_12, tR14_13, tR14_14, tR14_15, tR14_16, tR14_17, tR14_18, tR14_19, tR14_20, tR14_21, tR14_22, tR14_23, tR14_24, tR14_25, tR14_26, tR14_27, ST_stI, ST_stL, ST_stD, ha, Ne.symm hne, hne, nI_ge hu (show (n + 1) / 2 < 2 ^ 31 by omega), nI_add, hge, hun, inb_nI (show u < 60 by omega), inb_nI (show 2 * u < 60 by omega), nI_clamp (show u < 2 ^ 31 by omega), nI_clamp (show 2 * u < 2 ^ 31 by omega), nI_1, stI_stI, s1, bi]) [] (Or.inl rfl)
  obtain ⟨T, hT, e⟩ := hl
  simp only [Nat.mul_zero, Nat.zero_min, cpF_0, stI_self, nI_0, List.append_nil, show min (2 * ((n + 1) / 2)) n = n by omega] at e
  unfold CaP
  simp [lv_args, sStep, amStep, a_nx, a_ii, a_jj, a_ji, a_ld, a_st, a_if, a_ald, a_c1, a_c2, lkp, lput, lput2, lins, oP_none, oP_next, oP_call, oP_ret, oP_thr, outP_ite, aft_ret, aft_void, aft_thr, fHnd, List.isEmpty_nil, List.filter_cons, List.filter_nil, Value.category, csum, List.map_cons, List.map_nil, List.sum_cons, List.sum_nil, List.cons_append, List.nil_append, Option.toList, vp_nar_int, narrow_b1, narrow_b0, nc115, vc115, fc115, nc111, vc111, fc111, nc100, vc100, fc100, nc109, vc109, fc109, nc120, vc120, fc120, nc119, vc119, fc119, nc116, vc116, fc116, nc45, vc45, fc45, nc32, vc32, fc32, nc102, vc102, fc102, nc106, vc106, fc106, fin3, rf_some, rf_none, upd_ap, va_up_ap, nar_bi, fits_bi, nvp_bi, bi_t, bi_f, fval, fty, ftabs, wrv_0, wrv_1, wrv_2, wrv_3, wrv_5, mT_stI, mI_stI, mL_stI, mD_stI, mR_stI, mN_stI, mS_stI, mT_stL, mI_stL, mL_stL, mD_stL, mR_stL, mN_stL, mS_stL, mT_stD, mI_stD, mL_stD, mD_stD, mR_stD, mN_stD, mS_stD, mT_stR, mI_stR, mL_stR, mD_stR, mR_stR, mN_stR, mS_stR, mT_stN, mI_stN, mL_stN, mD_stN, mR_stN, mN_stN, mS_stN, e39_0, e39_1, e39_2, e39_3, e39_6, e39_9, e39_10, e39_11, e39_12, e39_13, e39_14, e39_15, e39_17, e39_18, e39_20, e39_21, e39_25, e39_27, e39_30, e39_32, e39_34, e39_35, e39_37, e39_39, e39_40, e39_43, e39_44, e39_47, e39_48, e39_50, e39_52, e39_55, e39_56, e39_59, e39_60, e39_63, e39_65, e39_66, e39_68, e39_69, e39_70, e39_73, e39_74, e39_77, e39_79, e39_80, e39_82, e39_83, e39_84, e39_87, e39_89, e39_92, e39_93, e39_96, e39_97, e39_100, e39_102, e39_103, e39_105, e39_106, e39_107, e39_110, e39_113, e39_116, e39_117, e39_120, e39_121, e39_122, e39_123, e39_124, e39_127, rt39, hn39, h, tT0, tT1, tT2, tT3, tT4, tT5, tT6, tT7, tT8, tT9, tT10, tT11, tT12, tT13, tT14, tT15, tT16, tT17, tT18, tT19, tT20, tT21, tT22, tT23, tT24, tT25, tT26, tT27, tT28, tT29, tT30, tT31, tT32, tT33, tT34, tT35, tT36, tT37, tT38, tT39, tT40, tT41, tT42, tT43, tT44, tR0_0, tR0_6, tR0_7, tR0_8, tR0_9, tR0_11, tR0_12, tR0_14, tR2_0, tR2_1, tR6_0, tR9_0, tR9_1, tR14_0, tR14_1, tR14_2, tR14_3, tR14_4, tR14_5, tR14_6, tR14_7, tR14_8, tR14_9, tR14_10, tR14_11, tR14_12, tR14_13, tR14_14, tR14_15, tR14_16, tR14_17, tR14_18, tR14_19, tR14_20, tR14_21, tR14_22, tR14_23, tR14_24, tR14_25, tR14_26, tR14_27, ST_stI, ST_stL, ST_stD, cl38, e38, nI_1, pk_div2 (show n + 1 < 2 ^ 31 by omega)]
  rw [e, e39_23]
  rcases hT with rfl | ⟨x, rfl⟩ | ⟨x, y, rfl⟩ <;>
  simp [lv_args, sStep, amStep, a_nx, a_ii, a_jj, a_ji, a_ld, a_st, a_if, a_ald, a_c1, a_c2, lkp, lput, lput2, lins, oP_none, oP_next, oP_call, oP_ret, oP_thr, outP_ite, aft_ret, aft_void, aft_thr, fHnd, List.isEmpty_nil, List.filter_cons, List.filter_nil, Value.category, csum, List.map_cons, List.map_nil, List.sum_cons, List.sum_nil, List.cons_append, List.nil_append, Option.toList, vp_nar_int, narrow_b1, narrow_b0, nc115, vc115, fc115, nc111, vc111, fc111, nc100, vc100, fc100, nc109, vc109, fc109, nc120, vc120, fc120, nc119, vc119, fc119, nc116, vc116, fc116, nc45, vc45, fc45, nc32, vc32, fc32, nc102, vc102, fc102, nc106, vc106, fc106, fin3, rf_some, rf_none, upd_ap, va_up_ap, nar_bi, fits_bi, nvp_bi, bi_t, bi_f, fval, fty, ftabs, wrv_0, wrv_1, wrv_2, wrv_3, wrv_5, mT_stI, mI_stI, mL_stI, mD_stI, mR_stI, mN_stI, mS_stI, mT_stL, mI_stL, mL_stL, mD_stL, mR_stL, mN_stL, mS_stL, mT_stD, mI_stD, mL_stD, mD_stD, mR_stD, mN_stD, mS_stD, mT_stR, mI_stR, mL_stR, mD_stR, mR_stR, mN_stR, mS_stR, mT_stN, mI_stN, mL_stN, mD_stN, mR_stN, mN_stN, mS_stN, e39_0, e39_1, e39_2, e39_3, e39_6, e39_9, e39_10, e39_11, e39_12, e39_13, e39_14, e39_15, e39_17, e39_18, e39_20, e39_21, e39_25, e39_27, e39_30, e39_32, e39_34, e39_35, e39_37, e39_39, e39_40, e39_43, e39_44, e39_47, e39_48, e39_50, e39_52, e39_55, e39_56, e39_59, e39_60, e39_63, e39_65, e39_66, e39_68, e39_69, e39_70, e39_73, e39_74, e39_77, e39_79, e39_80, e39_82, e39_83, e39_84, e39_87, e39_89, e39_92, e39_93, e39_96, e39_97, e39_100, e39_102, e39_103, e39_105, e39_106, e39_107, e39_110, e39_113, e39_116, e39_117, e39_120, e39_121, e39_122, e39_123, e39_124, e39_127, rt39, hn39, h, tT0, tT1, tT2, tT3, tT4, tT5, tT6, tT7, tT8, tT9, tT10, tT11, tT12, tT13, tT14, tT15, tT16, tT17, tT18, tT19, tT20, tT21, tT22, tT23, tT24, tT25, tT26, tT27, tT28, tT29, tT30, tT31, tT32, tT33, tT34, tT35, tT36, tT37, tT38, tT39, tT40, tT41, tT42, tT43, tT44, tR0_0, tR0_6, tR0_7, tR0_8, tR0_9, tR0_11, tR0_12, tR0_14, tR2_0, tR2_1, tR6_0, tR9_0, tR9_1, tR14_0, tR14_1, tR14_2, tR14_3, tR14_4, tR14_5, tR14_6, tR14_7, tR14_8, tR14_9, tR14_10, tR14_11, tR14_12, tR14_13, tR14_14, tR14_15, tR14_16, tR14_17, tR14_18, tR14_19, tR14_20, tR14_21, tR14_22, tR14_23, tR14_24, tR14_25, tR14_26, tR14_27, ST_stI, ST_stL, ST_stD, ha, hne, Ne.symm hne, Int32.le_refl, toI0 (show n < 2 ^ 31 by omega), nI_clamp (show n < 2 ^ 31 by omega), hn, cpy_cp, cpF_cpF]
