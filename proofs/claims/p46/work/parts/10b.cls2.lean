def fillF (f : Nat → Int32) (o : Nat) (x : Int32) (k : Nat) : Nat → Int32 := fun j => if o ≤ j ∧ j < o + k then x else f j
theorem fillF_0 {f : Nat → Int32} {o : Nat} {x : Int32} : fillF f o x 0 = f := by
  funext j
  show (if o ≤ j ∧ j < o + 0 then x else f j) = f j
  rw [if_neg (by omega)]
theorem fillF_S {f : Nat → Int32} {o : Nat} {x : Int32} {k : Nat} : upd (fillF f o x k) (o + k) x = fillF f o x (k + 1) := by
  funext j
  show (if j = o + k then x else if o ≤ j ∧ j < o + k then x else f j) = (if o ≤ j ∧ j < o + (k + 1) then x else f j)
  by_cases h : j = o + k
  · rw [if_pos h, if_pos (by omega)]
  · rw [if_neg h]
    by_cases h2 : o ≤ j ∧ j < o + k
    · rw [if_pos h2, if_pos (by omega)]
    · rw [if_neg h2, if_neg (by omega)]
theorem fillF_S0 {f : Nat → Int32} {x : Int32} {k : Nat} : upd (fillF f 0 x k) k x = fillF f 0 x (k + 1) := by
  have := @fillF_S f 0 x k
  rw [Nat.zero_add] at this
  exact this
theorem ofN {n : Nat} : Int32.ofNat n = nI n := rfl
theorem sp169 {a n : Nat} {v : Int32} {M : AMem} {Q : AR → Prop} (h : mT M a = (100, n)) (hn : n < 2 ^ 31) : CaP 169 [.ref a, .int v] M Q = Q (stI M a (fillF (mI M a) 0 v n), .inl none) := by
  have hl := loopE (m := 169) (pc := 5) (Q := Q) n (fun k => [(0, .ref a), (1, .int v), (2, .int (nI k)), (3, .int (nI n))]) (fun k => stI M a (fillF (mI M a) 0 v k)) (by
    intro k hk
    rw [e169_5]
    simp [lv_args, sStep, amStep, a_nx, a_ii, a_jj, a_ji, a_ld, a_st, a_if, a_ald, a_c1, a_c2, lkp, lput, lput2, lins, oP_none, oP_next, oP_call, oP_ret, oP_thr, outP_ite, aft_ret, aft_void, aft_thr, fHnd, List.isEmpty_nil, List.filter_cons, List.filter_nil, Value.category, csum, List.map_cons, List.map_nil, List.sum_cons, List.sum_nil, List.cons_append, List.nil_append, Option.toList, vp_nar_int, narrow_b1, narrow_b0, nc115, vc115, fc115, nc111, vc111, fc111, nc100, vc100, fc100, nc109, vc109, fc109, nc120, vc120, fc120, nc119, vc119, fc119, nc116, vc116, fc116, nc45, vc45, fc45, nc32, vc32, fc32, nc102, vc102, fc102, nc106, vc106, fc106, fin3, rf_some, rf_none, upd_ap, va_up_ap, nar_bi, fits_bi, nvp_bi, bi_t, bi_f, fval, fty, ftabs, wrv_0, wrv_1, wrv_2, wrv_3, wrv_5, mT_stI, mI_stI, mL_stI, mD_stI, mR_stI, mN_stI, mS_stI, mT_stL, mI_stL, mL_stL, mD_stL, mR_stL, mN_stL, mS_stL, mT_stD, mI_stD, mL_stD, mD_stD, mR_stD, mN_stD, mS_stD, mT_stR, mI_stR, mL_stR, mD_stR, mR_stR, mN_stR, mS_stR, mT_stN, mI_stN, mL_stN, mD_stN, mR_stN, mN_stN, mS_stN, e169_0, e169_1, e169_2, e169_3, e169_4, e169_6, e169_7, e169_10, e169_11, e169_12, e169_13, e169_14, e169_17, e169_20, rt169, hn169, h, ofN, nI_ge hk hn, inb_nI hk hn, nI_clamp (lt31 hk hn), nI_1, stI_stI, fillF_S0])
  simp only [fillF_0, stI_self, nI_0] at hl
  unfold CaP
  simp [lv_args, sStep, amStep, a_nx, a_ii, a_jj, a_ji, a_ld, a_st, a_if, a_ald, a_c1, a_c2, lkp, lput, lput2, lins, oP_none, oP_next, oP_call, oP_ret, oP_thr, outP_ite, aft_ret, aft_void, aft_thr, fHnd, List.isEmpty_nil, List.filter_cons, List.filter_nil, Value.category, csum, List.map_cons, List.map_nil, List.sum_cons, List.sum_nil, List.cons_append, List.nil_append, Option.toList, vp_nar_int, narrow_b1, narrow_b0, nc115, vc115, fc115, nc111, vc111, fc111, nc100, vc100, fc100, nc109, vc109, fc109, nc120, vc120, fc120, nc119, vc119, fc119, nc116, vc116, fc116, nc45, vc45, fc45, nc32, vc32, fc32, nc102, vc102, fc102, nc106, vc106, fc106, fin3, rf_some, rf_none, upd_ap, va_up_ap, nar_bi, fits_bi, nvp_bi, bi_t, bi_f, fval, fty, ftabs, wrv_0, wrv_1, wrv_2, wrv_3, wrv_5, mT_stI, mI_stI, mL_stI, mD_stI, mR_stI, mN_stI, mS_stI, mT_stL, mI_stL, mL_stL, mD_stL, mR_stL, mN_stL, mS_stL, mT_stD, mI_stD, mL_stD, mD_stD, mR_stD, mN_stD, mS_stD, mT_stR, mI_stR, mL_stR, mD_stR, mR_stR, mN_stR, mS_stR, mT_stN, mI_stN, mL_stN, mD_stN, mR_stN, mN_stN, mS_stN, e169_0, e169_1, e169_2, e169_3, e169_4, e169_6, e169_7, e169_10, e169_11, e169_12, e169_13, e169_14, e169_17, e169_20, rt169, hn169, h, ofN]
  rw [hl, e169_5]
  simp [lv_args, sStep, amStep, a_nx, a_ii, a_jj, a_ji, a_ld, a_st, a_if, a_ald, a_c1, a_c2, lkp, lput, lput2, lins, oP_none, oP_next, oP_call, oP_ret, oP_thr, outP_ite, aft_ret, aft_void, aft_thr, fHnd, List.isEmpty_nil, List.filter_cons, List.filter_nil, Value.category, csum, List.map_cons, List.map_nil, List.sum_cons, List.sum_nil, List.cons_append, List.nil_append, Option.toList, vp_nar_int, narrow_b1, narrow_b0, nc115, vc115, fc115, nc111, vc111, fc111, nc100, vc100, fc100, nc109, vc109, fc109, nc120, vc120, fc120, nc119, vc119, fc119, nc116, vc116, fc116, nc45, vc45, fc45, nc32, vc32, fc32, nc102, vc102, fc102, nc106, vc106, fc106, fin3, rf_some, rf_none, upd_ap, va_up_ap, nar_bi, fits_bi, nvp_bi, bi_t, bi_f, fval, fty, ftabs, wrv_0, wrv_1, wrv_2, wrv_3, wrv_5, mT_stI, mI_stI, mL_stI, mD_stI, mR_stI, mN_stI, mS_stI, mT_stL, mI_stL, mL_stL, mD_stL, mR_stL, mN_stL, mS_stL, mT_stD, mI_stD, mL_stD, mD_stD, mR_stD, mN_stD, mS_stD, mT_stR, mI_stR, mL_stR, mD_stR, mR_stR, mN_stR, mS_stR, mT_stN, mI_stN, mL_stN, mD_stN, mR_stN, mN_stN, mS_stN, e169_0, e169_1, e169_2, e169_3, e169_4, e169_6, e169_7, e169_10, e169_11, e169_12, e169_13, e169_14, e169_17, e169_20, rt169, hn169, h, Int32.le_refl]
/-- how often a card is among the first places -/
def cnt (P : Nat → Int32) (c : Nat) : Nat → Nat
  | 0 => 0
  | k + 1 => cnt P c k + (if P k = nI c then 1 else 0)
def anyB (ok : Nat → Bool) : Nat → Bool
  | 0 => false
  | k + 1 => anyB ok k || ok k
/-- what is wrong with a pack -/
def wrS (P : Nat → Int32) (n : Nat) (K ow th : Int32) : Int32 :=
  if anyB (fun c => kdOf K (nI c) && decide (cnt P c n = 0)) 54 = true then 109
  else if anyB (fun c => decide (1 < cnt P c n)) 54 = true then 100
  else if anyB (fun c => !kdOf K (nI c) && decide (0 < cnt P c n)) 54 = true then 120
  else if ow = 0 then (if th = 0 then 45 else 116) else 119
/-- how many are so -/
def ctF (ok : Nat → Bool) : Nat → Nat
  | 0 => 0
  | k + 1 => ctF ok k + (if ok k = true then 1 else 0)
theorem ctF_le {ok : Nat → Bool} {n : Nat} : ctF ok n ≤ n := by
  induction n with
  | zero => exact Nat.le_refl 0
  | succ n ih =>
    unfold ctF
    split <;> omega
theorem lcon0 : lcon 0 = -1 := rfl
theorem l0 : Int64.ofNat 0 = 0 := rfl
def PK (M : AMem) (q : Nat) : Prop := mT M q = (4, 0) ∧ mT M (q + 1) = (100, 60) ∧ mR M q 3 = some (q + 1)
theorem pk0 {M : AMem} {q : Nat} (h : PK M q) : mT M q = (4, 0) := h.1
theorem pk1 {M : AMem} {q : Nat} (h : PK M q) : mT M (q + 1) = (100, 60) := h.2.1
theorem pk3 {M : AMem} {q : Nat} (h : PK M q) : mR M q 3 = some (q + 1) := h.2.2
theorem ge60 {k : Nat} (h : k < 60) : ¬ (60 : Int32) ≤ nI k := nI_ge (b := 60) h (by decide)
theorem sp10 {q z : Nat} {c : Int32} {M : AMem} {Q : AR → Prop} (hs : PK M q) (hz : mI M q 4 = nI z) (hz60 : z < 60) : CaP 10 [.ref q, .int c] M Q = Q (stI (stI M (q + 1) (upd (mI M (q + 1)) z c)) q (upd (mI M q) 4 (nI (z + 1))), .inl none) := by
  unfold CaP
  simp [lv_args, sStep, amStep, a_nx, a_ii, a_jj, a_ji, a_ld, a_st, a_if, a_ald, a_c1, a_c2, lkp, lput, lput2, lins, oP_none, oP_next, oP_call, oP_ret, oP_thr, outP_ite, aft_ret, aft_void, aft_thr, fHnd, List.isEmpty_nil, List.filter_cons, List.filter_nil, Value.category, csum, List.map_cons, List.map_nil, List.sum_cons, List.sum_nil, List.cons_append, List.nil_append, Option.toList, vp_nar_int, narrow_b1, narrow_b0, nc115, vc115, fc115, nc111, vc111, fc111, nc100, vc100, fc100, nc109, vc109, fc109, nc120, vc120, fc120, nc119, vc119, fc119, nc116, vc116, fc116, nc45, vc45, fc45, nc32, vc32, fc32, nc102, vc102, fc102, nc106, vc106, fc106, fin3, rf_some, rf_none, upd_ap, va_up_ap, nar_bi, fits_bi, nvp_bi, bi_t, bi_f, fval, fty, ftabs, wrv_0, wrv_1, wrv_2, wrv_3, wrv_5, mT_stI, mI_stI, mL_stI, mD_stI, mR_stI, mN_stI, mS_stI, mT_stL, mI_stL, mL_stL, mD_stL, mR_stL, mN_stL, mS_stL, mT_stD, mI_stD, mL_stD, mD_stD, mR_stD, mN_stD, mS_stD, mT_stR, mI_stR, mL_stR, mD_stR, mR_stR, mN_stR, mS_stR, mT_stN, mI_stN, mL_stN, mD_stN, mR_stN, mN_stN, mS_stN, e10_0, e10_1, e10_4, e10_7, e10_8, e10_11, e10_12, e10_15, e10_16, e10_19, e10_20, e10_23, e10_24, e10_27, e10_28, e10_29, e10_30, e10_31, e10_34, e10_35, e10_36, e10_39, rt10, hn10, pk0 hs, pk1 hs, pk3 hs, hz, nlt0 (lt31 hz60 (by decide)), ge60 hz60, inb_nI hz60, nI_clamp (lt31 hz60 (by decide)), nI_1]
/-- the set of a pack's cards -/
def csF (P : Nat → Int32) : Nat → Int64
  | 0 => 0
  | k + 1 => csF P k ||| (1 <<< ((P k).toInt64 &&& 63))
theorem csF_0 {P : Nat → Int32} : csF P 0 = 0 := rfl
theorem sp13 {q n : Nat} {M : AMem} {Q : AR → Prop} (hs : PK M q) (hn : mI M q 4 = nI n) (hn60 : n ≤ 60) : CaP 13 [.ref q] M Q = Q (M, .inl (some (.long (csF (mI M (q + 1)) n)))) := by
  have hl := loopE (m := 13) (pc := 4) (Q := Q) n (fun k => [(0, .ref q), (1, .long (csF (mI M (q + 1)) k)), (3, .int (nI k))]) (fun _ => M) (by
    intro k hk
    rw [e13_4]
    simp [lv_args, sStep, amStep, a_nx, a_ii, a_jj, a_ji, a_ld, a_st, a_if, a_ald, a_c1, a_c2, lkp, lput, lput2, lins, oP_none, oP_next, oP_call, oP_ret, oP_thr, outP_ite, aft_ret, aft_void, aft_thr, fHnd, List.isEmpty_nil, List.filter_cons, List.filter_nil, Value.category, csum, List.map_cons, List.map_nil, List.sum_cons, List.sum_nil, List.cons_append, List.nil_append, Option.toList, vp_nar_int, narrow_b1, narrow_b0, nc115, vc115, fc115, nc111, vc111, fc111, nc100, vc100, fc100, nc109, vc109, fc109, nc120, vc120, fc120, nc119, vc119, fc119, nc116, vc116, fc116, nc45, vc45, fc45, nc32, vc32, fc32, nc102, vc102, fc102, nc106, vc106, fc106, fin3, rf_some, rf_none, upd_ap, va_up_ap, nar_bi, fits_bi, nvp_bi, bi_t, bi_f, fval, fty, ftabs, wrv_0, wrv_1, wrv_2, wrv_3, wrv_5, mT_stI, mI_stI, mL_stI, mD_stI, mR_stI, mN_stI, mS_stI, mT_stL, mI_stL, mL_stL, mD_stL, mR_stL, mN_stL, mS_stL, mT_stD, mI_stD, mL_stD, mD_stD, mR_stD, mN_stD, mS_stD, mT_stR, mI_stR, mL_stR, mD_stR, mR_stR, mN_stR, mS_stR, mT_stN, mI_stN, mL_stN, mD_stN, mR_stN, mN_stN, mS_stN, e13_0, e13_1, e13_2, e13_3, e13_5, e13_6, e13_9, e13_12, e13_13, e13_14, e13_15, e13_18, e13_19, e13_20, e13_21, e13_22, e13_23, e13_26, e13_29, e13_30, rt13, hn13, pk0 hs, pk1 hs, pk3 hs, hn, nI_ge hk (show n < 2 ^ 31 by omega), inb_nI (show k < 60 by omega), nI_clamp (show k < 2 ^ 31 by omega), nI_1, csF])
  simp only [nI_0, csF_0] at hl
  unfold CaP
  simp [lv_args, sStep, amStep, a_nx, a_ii, a_jj, a_ji, a_ld, a_st, a_if, a_ald, a_c1, a_c2, lkp, lput, lput2, lins, oP_none, oP_next, oP_call, oP_ret, oP_thr, outP_ite, aft_ret, aft_void, aft_thr, fHnd, List.isEmpty_nil, List.filter_cons, List.filter_nil, Value.category, csum, List.map_cons, List.map_nil, List.sum_cons, List.sum_nil, List.cons_append, List.nil_append, Option.toList, vp_nar_int, narrow_b1, narrow_b0, nc115, vc115, fc115, nc111, vc111, fc111, nc100, vc100, fc100, nc109, vc109, fc109, nc120, vc120, fc120, nc119, vc119, fc119, nc116, vc116, fc116, nc45, vc45, fc45, nc32, vc32, fc32, nc102, vc102, fc102, nc106, vc106, fc106, fin3, rf_some, rf_none, upd_ap, va_up_ap, nar_bi, fits_bi, nvp_bi, bi_t, bi_f, fval, fty, ftabs, wrv_0, wrv_1, wrv_2, wrv_3, wrv_5, mT_stI, mI_stI, mL_stI, mD_stI, mR_stI, mN_stI, mS_stI, mT_stL, mI_stL, mL_stL, mD_stL, mR_stL, mN_stL, mS_stL, mT_stD, mI_stD, mL_stD, mD_stD, mR_stD, mN_stD, mS_stD, mT_stR, mI_stR, mL_stR, mD_stR, mR_stR, mN_stR, mS_stR, mT_stN, mI_stN, mL_stN, mD_stN, mR_stN, mN_stN, mS_stN, e13_0, e13_1, e13_2, e13_3, e13_5, e13_6, e13_9, e13_12, e13_13, e13_14, e13_15, e13_18, e13_19, e13_20, e13_21, e13_22, e13_23, e13_26, e13_29, e13_30, rt13, hn13, pk0 hs]
  rw [hl, e13_4]
  simp [lv_args, sStep, amStep, a_nx, a_ii, a_jj, a_ji, a_ld, a_st, a_if, a_ald, a_c1, a_c2, lkp, lput, lput2, lins, oP_none, oP_next, oP_call, oP_ret, oP_thr, outP_ite, aft_ret, aft_void, aft_thr, fHnd, List.isEmpty_nil, List.filter_cons, List.filter_nil, Value.category, csum, List.map_cons, List.map_nil, List.sum_cons, List.sum_nil, List.cons_append, List.nil_append, Option.toList, vp_nar_int, narrow_b1, narrow_b0, nc115, vc115, fc115, nc111, vc111, fc111, nc100, vc100, fc100, nc109, vc109, fc109, nc120, vc120, fc120, nc119, vc119, fc119, nc116, vc116, fc116, nc45, vc45, fc45, nc32, vc32, fc32, nc102, vc102, fc102, nc106, vc106, fc106, fin3, rf_some, rf_none, upd_ap, va_up_ap, nar_bi, fits_bi, nvp_bi, bi_t, bi_f, fval, fty, ftabs, wrv_0, wrv_1, wrv_2, wrv_3, wrv_5, mT_stI, mI_stI, mL_stI, mD_stI, mR_stI, mN_stI, mS_stI, mT_stL, mI_stL, mL_stL, mD_stL, mR_stL, mN_stL, mS_stL, mT_stD, mI_stD, mL_stD, mD_stD, mR_stD, mN_stD, mS_stD, mT_stR, mI_stR, mL_stR, mD_stR, mR_stR, mN_stR, mS_stR, mT_stN, mI_stN, mL_stN, mD_stN, mR_stN, mN_stN, mS_stN, e13_0, e13_1, e13_2, e13_3, e13_5, e13_6, e13_9, e13_12, e13_13, e13_14, e13_15, e13_18, e13_19, e13_20, e13_21, e13_22, e13_23, e13_26, e13_29, e13_30, rt13, hn13, pk0 hs, hn, Int32.le_refl]
theorem lcon6 : lcon 6 = 1085102592571150095 := rfl
theorem lcon7 : lcon 7 = 3689348814741910323 := rfl
theorem lcon8 : lcon 8 = 6148914691236517205 := rfl
def srU (x : Int64) (k : Int32) : Int64 := (x.toUInt64 >>> (k.toInt64.toUInt64 &&& Int64.toUInt64 63)).toInt64
def bs1 (w : Int64) : Int64 := w - (srU w 1 &&& 6148914691236517205)
def bs2 (w : Int64) : Int64 := (w &&& 3689348814741910323) + (srU w 2 &&& 3689348814741910323)
def bs3 (w : Int64) : Int64 := (w + srU w 4) &&& 1085102592571150095
def bs4 (w : Int64) : Int64 := w + srU w 8
def bs5 (w : Int64) : Int64 := w + srU w 16
def bs6 (w : Int64) : Int64 := w + srU w 32
def bcI (w : Int64) : Int32 := (bs6 (bs5 (bs4 (bs3 (bs2 (bs1 w)))))).toInt32 &&& 127
theorem sp168 {w : Int64} {M : AMem} {Q : AR → Prop} : CaP 168 [.long w] M Q = Q (M, .inl (some (.int (bcI w)))) := by
  unfold CaP bcI bs6 bs5 bs4 bs3 bs2 bs1 srU
  simp [lv_args, sStep, amStep, a_nx, a_ii, a_jj, a_ji, a_ld, a_st, a_if, a_ald, a_c1, a_c2, lkp, lput, lput2, lins, oP_none, oP_next, oP_call, oP_ret, oP_thr, outP_ite, aft_ret, aft_void, aft_thr, fHnd, List.isEmpty_nil, List.filter_cons, List.filter_nil, Value.category, csum, List.map_cons, List.map_nil, List.sum_cons, List.sum_nil, List.cons_append, List.nil_append, Option.toList, vp_nar_int, narrow_b1, narrow_b0, nc115, vc115, fc115, nc111, vc111, fc111, nc100, vc100, fc100, nc109, vc109, fc109, nc120, vc120, fc120, nc119, vc119, fc119, nc116, vc116, fc116, nc45, vc45, fc45, nc32, vc32, fc32, nc102, vc102, fc102, nc106, vc106, fc106, fin3, rf_some, rf_none, upd_ap, va_up_ap, nar_bi, fits_bi, nvp_bi, bi_t, bi_f, fval, fty, ftabs, wrv_0, wrv_1, wrv_2, wrv_3, wrv_5, mT_stI, mI_stI, mL_stI, mD_stI, mR_stI, mN_stI, mS_stI, mT_stL, mI_stL, mL_stL, mD_stL, mR_stL, mN_stL, mS_stL, mT_stD, mI_stD, mL_stD, mD_stD, mR_stD, mN_stD, mS_stD, mT_stR, mI_stR, mL_stR, mD_stR, mR_stR, mN_stR, mS_stR, mT_stN, mI_stN, mL_stN, mD_stN, mR_stN, mN_stN, mS_stN, e168_0, e168_1, e168_2, e168_3, e168_4, e168_7, e168_8, e168_9, e168_10, e168_11, e168_14, e168_15, e168_16, e168_17, e168_18, e168_21, e168_22, e168_23, e168_24, e168_25, e168_26, e168_27, e168_28, e168_29, e168_32, e168_33, e168_34, e168_35, e168_36, e168_38, e168_39, e168_40, e168_41, e168_42, e168_43, e168_45, e168_46, e168_47, e168_48, e168_49, e168_50, e168_52, e168_53, e168_54, e168_55, e168_56, e168_57, e168_59, e168_60, rt168, hn168, lcon6, lcon7, lcon8]
def mk5 : Nat := 6148914691236517205
def mk3 : Nat := 3689348814741910323
def mk0 : Nat := 1085102592571150095
def bn1 (x : Nat) : Nat := x - (x / 2 &&& mk5)
def bn2 (x : Nat) : Nat := (x &&& mk3) + (x / 4 &&& mk3)
def bn3 (x : Nat) : Nat := (x + x / 16) &&& mk0
theorem and_lo {a m : Nat} : (a &&& m) % 256 = (a % 256) &&& (m % 256) := Nat.and_mod_two_pow (n := 8)
theorem and_hi {a m : Nat} : (a &&& m) / 256 = (a / 256) &&& (m / 256) := Nat.and_div_two_pow (n := 8)
theorem and_cut {a m : Nat} (ha : a < 2 ^ 56) : a &&& m = a &&& (m % 2 ^ 56) := by
  have h1 : (a &&& m) % 2 ^ 56 = (a % 2 ^ 56) &&& (m % 2 ^ 56) := Nat.and_mod_two_pow (n := 56)
  rw [Nat.mod_eq_of_lt ha] at h1
  rw [← h1, Nat.mod_eq_of_lt (Nat.lt_of_le_of_lt Nat.and_le_left ha)]
theorem and_split {q r m : Nat} (hm : m / 256 = m % 2 ^ 56) (hr : r < 256) (hq : q < 2 ^ 56) : (256 * q + r) &&& m = 256 * (q &&& m) + (r &&& (m % 256)) := by
  have h1 := @and_lo (256 * q + r) m
  have h2 := @and_hi (256 * q + r) m
  rw [show (256 * q + r) % 256 = r by omega] at h1
  rw [show (256 * q + r) / 256 = q by omega, hm, ← and_cut hq] at h2
  have h3 : (r &&& (m % 256)) ≤ r := Nat.and_le_left
  omega
theorem m5h : mk5 / 256 = mk5 % 2 ^ 56 := by decide
theorem m3h : mk3 / 256 = mk3 % 2 ^ 56 := by decide
theorem m0h : mk0 / 256 = mk0 % 2 ^ 56 := by decide
theorem b5 : ∀ r, r < 256 → ((128 + r / 2) &&& (mk5 % 256)) = ((r / 2) &&& (mk5 % 256)) := by decide +kernel
theorem b5' : ∀ r, r < 256 → ((r / 2) &&& mk5) = ((r / 2) &&& (mk5 % 256)) := by decide +kernel
theorem bn1_S {q r : Nat} (hr : r < 256) (hq : q < 2 ^ 56) : bn1 (256 * q + r) = 256 * bn1 q + bn1 r ∧ bn1 r < 256 ∧ bn1 q < 2 ^ 56 := by
  unfold bn1
  have e : (256 * q + r) / 2 = 256 * (q / 2) + (128 * (q % 2) + r / 2) := by omega
  rw [e, and_split m5h (by omega) (by omega)]
  have h1 : ((128 * (q % 2) + r / 2) &&& (mk5 % 256)) = ((r / 2) &&& mk5) := by
    rw [b5' r hr]
    rcases (show q % 2 = 0 ∨ q % 2 = 1 by omega) with h | h <;> rw [h]
    · rw [Nat.mul_zero, Nat.zero_add]
    · rw [Nat.mul_one]
      exact b5 r hr
  rw [h1]
  have h2 : ((r / 2) &&& mk5) ≤ r / 2 := Nat.and_le_left
  have h3 : ((q / 2) &&& mk5) ≤ q / 2 := Nat.and_le_left
  omega
theorem b3 : ∀ r, r < 256 → ((64 + r / 4) &&& (mk3 % 256)) = ((r / 4) &&& (mk3 % 256)) ∧ ((128 + r / 4) &&& (mk3 % 256)) = ((r / 4) &&& (mk3 % 256)) ∧ ((192 + r / 4) &&& (mk3 % 256)) = ((r / 4) &&& (mk3 % 256)) := by decide +kernel
theorem b3' : ∀ r, r < 256 → ((r / 4) &&& mk3) = ((r / 4) &&& (mk3 % 256)) ∧ (r &&& mk3) = (r &&& (mk3 % 256)) ∧ bn2 r < 256 := by decide +kernel
theorem bn2_S {q r : Nat} (hr : r < 256) (hq : q < 2 ^ 56) : bn2 (256 * q + r) = 256 * bn2 q + bn2 r := by
  unfold bn2
  have e : (256 * q + r) / 4 = 256 * (q / 4) + (64 * (q % 4) + r / 4) := by omega
  rw [e, and_split m3h hr hq, and_split m3h (by omega) (by omega)]
  obtain ⟨h1, h2, h3⟩ := b3 r hr
  have h4 : ((64 * (q % 4) + r / 4) &&& (mk3 % 256)) = ((r / 4) &&& mk3) := by
    rw [(b3' r hr).1]
    rcases (show q % 4 = 0 ∨ q % 4 = 1 ∨ q % 4 = 2 ∨ q % 4 = 3 by omega) with h | h | h | h <;> rw [h]
    · rw [Nat.mul_zero, Nat.zero_add]
    · rw [Nat.mul_one]; exact h1
    · exact h2
    · exact h3
  rw [h4, (b3' r hr).2.1]
  omega
theorem b0 : ∀ r, r < 256 → (r / 16 ≤ 4 ∧ r % 16 ≤ 4) → ∀ d, d < 5 → ((16 * d + (r + r / 16)) &&& (mk0 % 256)) = ((r + r / 16) &&& mk0) ∧ 16 * d + (r + r / 16) < 256 := by decide +kernel
theorem bn3_S {q r : Nat} (hr : r < 256) (hq : q < 2 ^ 55) (h1 : r / 16 ≤ 4 ∧ r % 16 ≤ 4) (h2 : q % 16 ≤ 4) : bn3 (256 * q + r) = 256 * bn3 q + bn3 r := by
  unfold bn3
  obtain ⟨e1, e2⟩ := b0 r hr h1 (q % 16) (by omega)
  have e : 256 * q + r + (256 * q + r) / 16 = 256 * (q + q / 16) + (16 * (q % 16) + (r + r / 16)) := by omega
  rw [e, and_split m0h e2 (by omega), e1]
def bsum : Nat → Nat → Nat
  | 0, _ => 0
  | k + 1, x => x % 2 + bsum k (x / 2)
theorem b8 : ∀ r, r < 256 → bn3 (bn2 (bn1 r)) = bsum 8 r ∧ (bn2 (bn1 r) / 16 ≤ 4 ∧ bn2 (bn1 r) % 16 ≤ 4) ∧ bn2 (bn1 r) < 256 ∧ bsum 8 r ≤ 8 := by decide +kernel
theorem bN : ∀ (k x : Nat), k ≤ 8 → x < 256 ^ k → bn2 (bn1 x) % 16 ≤ 4 ∧ bn2 (bn1 x) < 256 ^ k ∧ (1 ≤ k → bn2 (bn1 x) < 69 * 256 ^ (k - 1)) ∧ ∀ j, j + 1 = k → bn3 (bn2 (bn1 x)) = 256 * bn3 (bn2 (bn1 (x / 256))) + bsum 8 (x % 256) := by
  intro k
  induction k with
  | zero =>
    intro x _ hx
    have : x = 0 := by omega
    subst this
    exact ⟨by decide, by decide, fun h => absurd h (by decide), fun j hj => absurd hj (Nat.succ_ne_zero j)⟩
  | succ k ih =>
    intro x hk hx
    have hq : x / 256 < 256 ^ k := by
      rw [Nat.pow_succ] at hx
      exact Nat.div_lt_of_lt_mul (by omega)
    obtain ⟨i1, i2, i3, _⟩ := ih (x / 256) (by omega) hq
    have hr : x % 256 < 256 := Nat.mod_lt _ (by decide)
    have h7 : 256 ^ k ≤ 256 ^ 7 := Nat.pow_le_pow_right (by decide) (by omega)
    have h56 : (256 : Nat) ^ 7 = 2 ^ 56 := by decide
    have ex : x = 256 * (x / 256) + x % 256 := (Nat.div_add_mod x 256).symm
    obtain ⟨s1, s2, s3⟩ := @bn1_S (x / 256) (x % 256) hr (by omega)
    have t1 := @bn2_S (bn1 (x / 256)) (bn1 (x % 256)) s2 s3
    obtain ⟨e8, e9, e10, e11⟩ := b8 (x % 256) hr
    have eb : bn2 (bn1 x) = 256 * bn2 (bn1 (x / 256)) + bn2 (bn1 (x % 256)) := by
      rw [← t1, ← s1, ← ex]
    have hp : (256 : Nat) ^ (k + 1) = 256 ^ k * 256 := Nat.pow_succ ..
    have hb55 : bn2 (bn1 (x / 256)) < 2 ^ 55 := by
      cases k with
      | zero => omega
      | succ k =>
        have := i3 (by omega)
        have h6 : 256 ^ (k + 1 - 1) ≤ 256 ^ 6 := Nat.pow_le_pow_right (by decide) (by omega)
        have h48 : (256 : Nat) ^ 6 = 2 ^ 48 := by decide
        omega
    refine ⟨by rw [eb]; omega, by rw [eb, hp]; omega, fun _ => ?_, fun j hj => ?_⟩
    · rw [eb, show k + 1 - 1 = k by omega]
      cases k with
      | zero => simp at i2; omega
      | succ k =>
        have := i3 (by omega)
        rw [show k + 1 - 1 = k by omega] at this
        rw [Nat.pow_succ]
        omega
    · rw [eb, bn3_S e10 hb55 e9 i1, e8]
theorem bsum_add {j k x : Nat} : bsum (j + k) x = bsum j x + bsum k (x / 2 ^ j) := by
  induction j generalizing x with
  | zero => rw [Nat.zero_add, Nat.pow_zero, Nat.div_one]; exact (Nat.zero_add _).symm
  | succ j ih =>
    rw [show j + 1 + k = (j + k) + 1 by omega]
    show x % 2 + bsum (j + k) (x / 2) = x % 2 + bsum j (x / 2) + bsum k (x / 2 ^ (j + 1))
    rw [ih, Nat.div_div_eq_div_mul, Nat.pow_succ, Nat.mul_comm 2 (2 ^ j), Nat.add_assoc]
theorem bsum_mod {j x : Nat} : bsum j (x % 2 ^ j) = bsum j x := by
  induction j generalizing x with
  | zero => rfl
  | succ j ih =>
    show x % 2 ^ (j + 1) % 2 + bsum j (x % 2 ^ (j + 1) / 2) = x % 2 + bsum j (x / 2)
    rw [Nat.pow_succ, Nat.mul_comm (2 ^ j) 2, Nat.mod_mul_right_div_self, ih, Nat.mod_mul_right_mod]
theorem bsum_8 {k x : Nat} : bsum (8 + k) x = bsum 8 (x % 256) + bsum k (x / 256) := by
  rw [bsum_add, ← @bsum_mod 8 x]
theorem bsum_le {k x : Nat} : bsum k x ≤ k := by
  induction k generalizing x with
  | zero => exact Nat.le_refl 0
  | succ k ih =>
    have := @ih (x / 2)
    show x % 2 + bsum k (x / 2) ≤ k + 1
    omega
theorem dv {r K m : Nat} (hr : r < m) : (r + m * K) / m = K := by
  rw [Nat.add_mul_div_left _ _ (Nat.lt_of_le_of_lt (Nat.zero_le _) hr), Nat.div_eq_of_lt hr, Nat.zero_add]
theorem bN2 (x : Nat) (hx : x < 2 ^ 64) : ∃ a b c d e f g h : Nat, bn3 (bn2 (bn1 x)) = a + 256 * (b + 256 * (c + 256 * (d + 256 * (e + 256 * (f + 256 * (g + 256 * h)))))) ∧ bsum 64 x = a + (b + (c + (d + (e + (f + (g + h)))))) ∧ (a ≤ 8 ∧ b ≤ 8 ∧ c ≤ 8 ∧ d ≤ 8 ∧ e ≤ 8 ∧ f ≤ 8 ∧ g ≤ 8 ∧ h ≤ 8) := by
  have st : ∀ k y, k < 8 → y < 256 ^ (k + 1) → bn3 (bn2 (bn1 y)) = bsum 8 (y % 256) + 256 * bn3 (bn2 (bn1 (y / 256))) ∧ y / 256 < 256 ^ k := by
    intro k y hk hy
    refine ⟨by rw [(bN (k + 1) y (by omega) hy).2.2.2 k rfl, Nat.add_comm], ?_⟩
    rw [Nat.pow_succ, Nat.mul_comm] at hy
    exact Nat.div_lt_of_lt_mul hy
  obtain ⟨e8, x1⟩ := st 7 x (by decide) hx
  obtain ⟨e7, x2⟩ := st 6 _ (by decide) x1
  obtain ⟨e6, x3⟩ := st 5 _ (by decide) x2
  obtain ⟨e5, x4⟩ := st 4 _ (by decide) x3
  obtain ⟨e4, x5⟩ := st 3 _ (by decide) x4
  obtain ⟨e3, x6⟩ := st 2 _ (by decide) x5
  obtain ⟨e2, x7⟩ := st 1 _ (by decide) x6
  obtain ⟨e1, x8⟩ := st 0 _ (by decide) x7
  have x9 : x / 256 / 256 / 256 / 256 / 256 / 256 / 256 / 256 = 0 := Nat.lt_one_iff.mp x8
  rw [x9, show bn3 (bn2 (bn1 0)) = 0 from by decide, Nat.mul_zero, Nat.add_zero] at e1
  refine ⟨_, _, _, _, _, _, _, _, ?_, ?_, @bsum_le 8 (x % 256), @bsum_le 8 (x / 256 % 256), @bsum_le 8 (x / 256 / 256 % 256), @bsum_le 8 (x / 256 / 256 / 256 % 256), @bsum_le 8 (x / 256 / 256 / 256 / 256 % 256), @bsum_le 8 (x / 256 / 256 / 256 / 256 / 256 % 256), @bsum_le 8 (x / 256 / 256 / 256 / 256 / 256 / 256 % 256), @bsum_le 8 (x / 256 / 256 / 256 / 256 / 256 / 256 / 256 % 256)⟩
  · rw [e8, e7, e6, e5, e4, e3, e2, e1]
  · rw [show 64 = 8 + (8 + (8 + (8 + (8 + (8 + (8 + (8 + 0))))))) by rfl, bsum_8, bsum_8, bsum_8, bsum_8, bsum_8, bsum_8, bsum_8, bsum_8]
    rfl
theorem bN3 {a b c d e f g h : Nat} (ha : a ≤ 8) (hb : b ≤ 8) (hc : c ≤ 8) (hd : d ≤ 8) (he : e ≤ 8) (hf : f ≤ 8) (hg : g ≤ 8) (hh : h ≤ 8) : ∀ N x4 x5 x6, N = a + 256 * (b + 256 * (c + 256 * (d + 256 * (e + 256 * (f + 256 * (g + 256 * h)))))) → x4 = N + N / 256 → x5 = x4 + x4 / 65536 → x6 = x5 + x5 / 4294967296 →
    x4 < 2 ^ 63 ∧ x5 < 2 ^ 63 ∧ x6 < 2 ^ 63 ∧ x6 % 128 = a + (b + (c + (d + (e + (f + (g + h)))))) := by
  intro N x4 x5 x6 hN h4 h5 h6
  have n1 : N / 256 = b + 256 * (c + 256 * (d + 256 * (e + 256 * (f + 256 * (g + 256 * h))))) := by
    rw [hN]
    exact dv (by omega)
  rw [n1, hN] at h4
  have h4' : x4 = ((a + b) + 256 * (b + c)) + 65536 * ((c + d) + 256 * ((d + e) + 256 * ((e + f) + 256 * ((f + g) + 256 * ((g + h) + 256 * h))))) := by
    rw [h4]
    clear h4 h5 h6 hN n1 ha hb hc hd he hf hg hh
    omega
  have n2 : x4 / 65536 = (c + d) + 256 * ((d + e) + 256 * ((e + f) + 256 * ((f + g) + 256 * ((g + h) + 256 * h)))) := by
    rw [h4']
    exact dv (by omega)
  rw [n2] at h5
  have h5' : x5 = ((a + b + c + d) + 256 * ((b + c + d + e) + 256 * ((c + d + e + f) + 256 * (d + e + f + g)))) + 4294967296 * ((e + f + g + h) + 256 * ((f + g + h) + 256 * ((g + h) + 256 * h))) := by
    rw [h5, h4']
    clear h4 h4' h5 h6 hN n1 n2 ha hb hc hd he hf hg hh
    omega
  have n3 : x5 / 4294967296 = (e + f + g + h) + 256 * ((f + g + h) + 256 * ((g + h) + 256 * h)) := by
    rw [h5']
    exact dv (by omega)
  rw [n3] at h6
  have h6' : x6 = (a + (b + (c + (d + (e + (f + (g + h))))))) + 128 * (2 * ((b + c + d + e) + 256 * ((c + d + e + f) + 256 * (d + e + f + g))) + 33554432 * ((e + f + g + h) + 256 * ((f + g + h) + 256 * ((g + h) + 256 * h))) + 2 * ((f + g + h) + 256 * ((g + h) + 256 * h))) := by
    rw [h6, h5']
    clear h4 h4' h5 h5' h6 hN n1 n2 n3 ha hb hc hd he hf hg hh
    omega
  refine ⟨?_, ?_, ?_, ?_⟩
  · clear h5 h5' h6 h6' n3 n2 n1 hN h4
    omega
  · clear h4 h4' h5 h6 h6' n3 n2 n1 hN
    omega
  · clear h4 h4' h5 h5' h6 n3 n2 n1 hN
    omega
  · rw [h6', Nat.add_mul_mod_self_left, Nat.mod_eq_of_lt (by clear h4 h4' h5 h5' h6 h6' hN n1 n2 n3; omega)]
def uN (w : Int64) : Nat := w.toUInt64.toNat
theorem uN_lt {w : Int64} : uN w < 2 ^ 64 := UInt64.toNat_lt _
theorem uN_bv {w : Int64} : uN w = w.toBitVec.toNat := rfl
theorem uN_inj {a b : Int64} (h : uN a = uN b) : a = b := Int64.toBitVec_inj.mp (BitVec.eq_of_toNat_eq h)
theorem uN_and {a b : Int64} : uN (a &&& b) = uN a &&& uN b := by
  rw [uN_bv, uN_bv, uN_bv, Int64.toBitVec_and, BitVec.toNat_and]
theorem uN_or {a b : Int64} : uN (a ||| b) = uN a ||| uN b := by
  rw [uN_bv, uN_bv, uN_bv, Int64.toBitVec_or, BitVec.toNat_or]
theorem uN_xor {a b : Int64} : uN (a ^^^ b) = uN a ^^^ uN b := by
  rw [uN_bv, uN_bv, uN_bv, Int64.toBitVec_xor, BitVec.toNat_xor]
theorem uN_add {a b : Int64} (h : uN a + uN b < 2 ^ 64) : uN (a + b) = uN a + uN b := by
  rw [uN_bv, Int64.toBitVec_add, BitVec.toNat_add]
  exact Nat.mod_eq_of_lt h
theorem uN_sub {a b : Int64} (h : uN b ≤ uN a) : uN (a - b) = uN a - uN b := by
  rw [uN_bv, Int64.toBitVec_sub, BitVec.toNat_sub_of_le (show b.toBitVec ≤ a.toBitVec from h)]
  rfl
theorem uN_sr {a : Int64} {k : Int32} {j : Nat} (hk : (k.toInt64.toUInt64 &&& Int64.toUInt64 63).toNat = j) (hj : j < 64) : uN (srU a k) = uN a / 2 ^ j := by
  show ((a.toUInt64 >>> (k.toInt64.toUInt64 &&& Int64.toUInt64 63)).toInt64.toUInt64).toNat = _
  rw [show ∀ z : UInt64, z.toInt64.toUInt64 = z from fun _ => rfl, UInt64.toNat_shiftRight, hk, Nat.mod_eq_of_lt hj, Nat.shiftRight_eq_div_pow]
  rfl
theorem uN_lit5 : uN 6148914691236517205 = mk5 := by decide
theorem uN_lit3 : uN 3689348814741910323 = mk3 := by decide
theorem uN_lit0 : uN 1085102592571150095 = mk0 := by decide
theorem uN_cut {a : Int64} : (a.toInt32 &&& 127) = nI (uN a % 128) := by
  apply Int32.toBitVec_inj.mp
  apply BitVec.eq_of_toNat_eq
  rw [Int32.toBitVec_and, BitVec.toNat_and]
  have h1 : a.toInt32.toBitVec.toNat = uN a % 2 ^ 32 := by
    show (a.toBitVec.signExtend 32).toNat = _
    rw [BitVec.signExtend_eq_setWidth_of_le _ (by decide), BitVec.toNat_setWidth]
    rfl
  rw [h1, show (127 : Int32).toBitVec.toNat = 2 ^ 7 - 1 by decide, Nat.and_two_pow_sub_one_eq_mod]
  have h2 : uN a % 2 ^ 32 % 2 ^ 7 = uN a % 128 := by omega
  rw [h2]
  have h3 : uN a % 128 < 128 := Nat.mod_lt _ (by decide)
  show _ = (BitVec.ofNat 32 (uN a % 128)).toNat
  rw [BitVec.toNat_ofNat, Nat.mod_eq_of_lt (show uN a % 128 < 2 ^ 32 by omega)]
theorem bc_sum {w : Int64} : bcI w = nI (bsum 64 (uN w)) := by
  have k1 : uN (bs1 w) = bn1 (uN w) := by
    unfold bs1 bn1
    have e : uN (srU w 1 &&& 6148914691236517205) = (uN w / 2 &&& mk5) := by
      rw [uN_and, uN_lit5, uN_sr (j := 1) (by decide) (by decide), Nat.pow_one]
    have h : (uN w / 2 &&& mk5) ≤ uN w / 2 := Nat.and_le_left
    rw [uN_sub (by rw [e]; omega), e]
  have hb := bN 8 (uN w) (by decide) (by have := @uN_lt w; omega)
  have k2 : uN (bs2 (bs1 w)) = bn2 (bn1 (uN w)) := by
    rw [← k1]
    unfold bs2 bn2
    have e1 : uN (srU (bs1 w) 2 &&& 3689348814741910323) = (uN (bs1 w) / 4 &&& mk3) := by
      rw [uN_and, uN_lit3, uN_sr (j := 2) (by decide) (by decide)]
    have e2 : uN (bs1 w &&& 3689348814741910323) = (uN (bs1 w) &&& mk3) := by
      rw [uN_and, uN_lit3]
    have h1 : (uN (bs1 w) / 4 &&& mk3) ≤ mk3 := Nat.and_le_right
    have h2 : (uN (bs1 w) &&& mk3) ≤ mk3 := Nat.and_le_right
    have h3 : mk3 + mk3 < 2 ^ 64 := by decide
    rw [uN_add (by rw [e1, e2]; omega), e1, e2]
  have k3 : uN (bs3 (bs2 (bs1 w))) = bn3 (bn2 (bn1 (uN w))) := by
    have h1 := hb.2.2.1 (by decide)
    rw [← k2] at h1 ⊢
    unfold bs3 bn3
    have e1 : uN (srU (bs2 (bs1 w)) 4) = uN (bs2 (bs1 w)) / 16 := by
      rw [uN_sr (j := 4) (by decide) (by decide)]
    have h2 : 69 * 256 ^ (8 - 1) < 2 ^ 63 := by decide
    rw [uN_and, uN_lit0, uN_add (by rw [e1]; omega), e1]
  obtain ⟨a, b, c, d, e, f, g, h, n1, n2, ha, hb, hc, hd, he, hf, hg, hh⟩ := bN2 (uN w) uN_lt
  have q := bN3 ha hb hc hd he hf hg hh _ _ _ _ n1 rfl rfl rfl
  rw [← k3] at q
  obtain ⟨q4, q5, q6, q7⟩ := q
  have k4 : uN (bs4 (bs3 (bs2 (bs1 w)))) = uN (bs3 (bs2 (bs1 w))) + uN (bs3 (bs2 (bs1 w))) / 256 := by
    unfold bs4
    have e1 : uN (srU (bs3 (bs2 (bs1 w))) 8) = uN (bs3 (bs2 (bs1 w))) / 256 := uN_sr (j := 8) (by decide) (by decide)
    rw [uN_add (by rw [e1]; omega), e1]
  rw [← k4] at q5 q6 q7
  have k5 : uN (bs5 (bs4 (bs3 (bs2 (bs1 w))))) = uN (bs4 (bs3 (bs2 (bs1 w)))) + uN (bs4 (bs3 (bs2 (bs1 w)))) / 65536 := by
    unfold bs5
    have e1 : uN (srU (bs4 (bs3 (bs2 (bs1 w)))) 16) = uN (bs4 (bs3 (bs2 (bs1 w)))) / 65536 := uN_sr (j := 16) (by decide) (by decide)
    rw [uN_add (by rw [e1]; omega), e1]
  rw [← k5] at q6 q7
  have k6 : uN (bs6 (bs5 (bs4 (bs3 (bs2 (bs1 w)))))) = uN (bs5 (bs4 (bs3 (bs2 (bs1 w))))) + uN (bs5 (bs4 (bs3 (bs2 (bs1 w))))) / 4294967296 := by
    unfold bs6
    have e1 : uN (srU (bs5 (bs4 (bs3 (bs2 (bs1 w))))) 32) = uN (bs5 (bs4 (bs3 (bs2 (bs1 w))))) / 4294967296 := uN_sr (j := 32) (by decide) (by decide)
    rw [uN_add (by rw [e1]; omega), e1]
  rw [← k6] at q7
  unfold bcI
  rw [uN_cut, q7, n2]
theorem bs_ct {x : Nat} : ∀ k, bsum k x = ctF (fun c => x.testBit c) k := by
  intro k
  induction k with
  | zero => rfl
  | succ k ih =>
    rw [bsum_add, ih]
    show _ + bsum 1 (x / 2 ^ k) = _ + (if x.testBit k = true then 1 else 0)
    rw [Nat.testBit_eq_decide_div_mod_eq]
    have : x / 2 ^ k % 2 < 2 := Nat.mod_lt _ (by decide)
    show _ + (x / 2 ^ k % 2 + 0) = _
    by_cases h : x / 2 ^ k % 2 = 1
    · simp [h]
    · have : x / 2 ^ k % 2 = 0 := by omega
      simp [this]
theorem bc_ct {w : Int64} : bcI w = nI (ctF (fun c => (uN w).testBit c) 64) := by rw [bc_sum, bs_ct]
theorem uN_ext {a b : Int64} (h : ∀ c, c < 64 → (uN a).testBit c = (uN b).testBit c) : a = b := by
  apply uN_inj
  apply Nat.eq_of_testBit_eq
  intro c
  by_cases hc : c < 64
  · exact h c hc
  · have hp : (2 : Nat) ^ 64 ≤ 2 ^ c := Nat.pow_le_pow_right (by decide) (by omega)
    rw [Nat.testBit_lt_two_pow (Nat.lt_of_lt_of_le uN_lt hp), Nat.testBit_lt_two_pow (Nat.lt_of_lt_of_le uN_lt hp)]
theorem sh_bit : ∀ d, d < 54 → uN ((1 : Int64) <<< ((nI d).toInt64 &&& 63)) = 2 ^ d := by decide +kernel
theorem nIinj {a b : Nat} (ha : a < 2 ^ 31) (hb : b < 2 ^ 31) (h : nI a = nI b) : a = b := by
  rw [← nI_clamp ha, h, nI_clamp hb]
theorem nIeq {a b : Nat} (ha : a < 2 ^ 31) (hb : b < 2 ^ 31) : (nI a = nI b) = (a = b) := propext ⟨nIinj ha hb, fun h => by rw [h]⟩
theorem cs_bit {P : Nat → Int32} {c : Nat} (hc : c < 64) : ∀ n, (∀ k, k < n → ∃ d, d < 54 ∧ P k = nI d) → (uN (csF P n)).testBit c = decide (0 < cnt P c n) := by
  intro n
  induction n with
  | zero =>
    intro _
    show (uN 0).testBit c = decide (0 < 0)
    rw [show uN 0 = 0 from rfl, Nat.zero_testBit]
    rfl
  | succ n ih =>
    intro hp
    obtain ⟨d, hd, e⟩ := hp n (Nat.lt_succ_self n)
    show (uN (csF P n ||| (1 <<< ((P n).toInt64 &&& 63)))).testBit c = decide (0 < cnt P c n + (if P n = nI c then 1 else 0))
    rw [uN_or, Nat.testBit_or, ih (fun k hk => hp k (by omega)), e, sh_bit d hd, Nat.testBit_two_pow]
    simp only [nIeq (show d < 2 ^ 31 by omega) (show c < 2 ^ 31 by omega)]
    by_cases h : d = c <;> simp [h]
theorem ks_bit1 : ∀ c, c < 64 → (uN (ksF 102)).testBit c = (decide (c < 54) && kdOf 102 (nI c)) := by decide +kernel
theorem ks_bit2 : ∀ c, c < 64 → (uN (ksF 106)).testBit c = (decide (c < 54) && kdOf 106 (nI c)) := by decide +kernel
theorem ks_bit3 : ∀ c, c < 64 → (uN (ksF 115)).testBit c = (decide (c < 54) && kdOf 115 (nI c)) := by decide +kernel
theorem ks_bit {K : Int32} {c : Nat} (hK : kdF K = true) (hc : c < 64) : (uN (ksF K)).testBit c = (decide (c < 54) && kdOf K (nI c)) := by
  rcases kdF_cases hK with h | h | h <;> subst h
  · exact ks_bit1 c hc
  · exact ks_bit2 c hc
  · exact ks_bit3 c hc
theorem anyB_iff {ok : Nat → Bool} {n : Nat} : anyB ok n = true ↔ ∃ k, k < n ∧ ok k = true := by
  induction n with
  | zero => exact ⟨fun h => Bool.noConfusion h, fun ⟨k, hk, _⟩ => absurd hk (Nat.not_lt_zero k)⟩
  | succ n ih =>
    show (anyB ok n || ok n) = true ↔ _
    rw [Bool.or_eq_true, ih]
    exact ⟨fun h => h.elim (fun ⟨k, hk, e⟩ => ⟨k, by omega, e⟩) (fun e => ⟨n, by omega, e⟩), fun ⟨k, hk, e⟩ => by rcases Nat.lt_or_eq_of_le (Nat.le_of_lt_succ hk) with h1 | h1; exact Or.inl ⟨k, h1, e⟩; rw [h1] at e; exact Or.inr e⟩
theorem anyB_ff {ok : Nat → Bool} {n : Nat} : anyB ok n = false ↔ ∀ k, k < n → ok k = false := by
  rw [← Bool.not_eq_true, anyB_iff]
  exact ⟨fun h k hk => by cases e : ok k; rfl; exact absurd ⟨k, hk, e⟩ h, fun h ⟨k, hk, e⟩ => by rw [h k hk] at e; cases e⟩
/-- the first test: something of the kind is missing -/
theorem ms_bit {P : Nat → Int32} {K : Int32} {n : Nat} (hK : kdF K = true) (hp : ∀ k, k < n → ∃ d, d < 54 ∧ P k = nI d) : (ksF K &&& (csF P n ^^^ -1) = 0) = (anyB (fun c => kdOf K (nI c) && decide (cnt P c n = 0)) 54 = false) := by
  have hm : ∀ c, c < 64 → (uN (-1)).testBit c = true := by decide +kernel
  rw [anyB_ff]
  refine propext ⟨fun h c hc => ?_, fun h => ?_⟩
  · have e : (uN (ksF K &&& (csF P n ^^^ -1))).testBit c = (uN 0).testBit c := by rw [h]
    rw [uN_and, uN_xor, Nat.testBit_and, Nat.testBit_xor, ks_bit hK (by omega), cs_bit (by omega) n hp, hm c (by omega), show uN 0 = 0 from rfl, Nat.zero_testBit] at e
    cases hk : kdOf K (nI c)
    · rfl
    · rw [hk] at e
      simp [hc] at e
      simp
      omega
  · apply uN_ext
    intro c hc
    rw [uN_and, uN_xor, Nat.testBit_and, Nat.testBit_xor, ks_bit hK hc, cs_bit hc n hp, hm c hc, show uN 0 = 0 from rfl, Nat.zero_testBit]
    by_cases h5 : c < 54
    · have := h c h5
      cases hk : kdOf K (nI c)
      · simp
      · rw [hk] at this
        simp at this
        simp
        omega
    · simp [h5]
/-- sums of counts -/
def smN (f : Nat → Nat) : Nat → Nat
  | 0 => 0
  | k + 1 => smN f k + f k
theorem smN_0 : ∀ m, smN (fun _ => 0) m = 0
  | 0 => rfl
  | m + 1 => by show smN (fun _ => 0) m + 0 = 0; rw [smN_0 m]
theorem smN_add {f g : Nat → Nat} : ∀ m, smN (fun c => f c + g c) m = smN f m + smN g m
  | 0 => rfl
  | m + 1 => by show smN (fun c => f c + g c) m + (f m + g m) = smN f m + f m + (smN g m + g m); rw [smN_add m]; omega
theorem smN_one {d : Nat} : ∀ m, smN (fun c => if d = c then 1 else 0) m = if d < m then 1 else 0
  | 0 => rfl
  | m + 1 => by
    show smN (fun c => if d = c then 1 else 0) m + (if d = m then 1 else 0) = _
    rw [smN_one m]
    by_cases h : d < m
    · rw [if_pos h, if_neg (by omega), if_pos (by omega)]
    · rw [if_neg h]
      by_cases h2 : d = m
      · rw [if_pos h2, if_pos (by omega)]
      · rw [if_neg h2, if_neg (by omega)]
theorem smN_ext {f g : Nat → Nat} {m : Nat} (h : ∀ c, c < m → f c = g c) : smN f m = smN g m := by
  induction m with
  | zero => rfl
  | succ m ih => show smN f m + f m = smN g m + g m; rw [ih (fun c hc => h c (by omega)), h m (by omega)]
theorem cnt_sum {P : Nat → Int32} : ∀ n, (∀ k, k < n → ∃ d, d < 54 ∧ P k = nI d) → smN (fun c => cnt P c n) 54 = n := by
  intro n
  induction n with
  | zero => intro _; exact smN_0 54
  | succ n ih =>
    intro hp
    obtain ⟨d, hd, e⟩ := hp n (Nat.lt_succ_self n)
    show smN (fun c => cnt P c n + (if P n = nI c then 1 else 0)) 54 = n + 1
    rw [smN_add, ih (fun k hk => hp k (by omega))]
    have : smN (fun c => if P n = nI c then 1 else 0) 54 = smN (fun c => if d = c then 1 else 0) 54 := smN_ext (fun c hc => by simp only [e, nIeq (show d < 2 ^ 31 by omega) (show c < 2 ^ 31 by omega)])
    rw [this, smN_one, if_pos hd]
theorem ct_le_sm {f : Nat → Nat} {m : Nat} : ctF (fun c => decide (0 < f c)) m ≤ smN f m := by
  induction m with
  | zero => exact Nat.le_refl 0
  | succ m ih =>
    show ctF _ m + _ ≤ smN f m + f m
    by_cases h : 0 < f m <;> simp [h] <;> omega
theorem ct_sm {f : Nat → Nat} {m : Nat} : (ctF (fun c => decide (0 < f c)) m = smN f m) = (anyB (fun c => decide (1 < f c)) m = false) := by
  induction m with
  | zero => exact propext ⟨fun _ => rfl, fun _ => rfl⟩
  | succ m ih =>
    have := @ct_le_sm f m
    show (ctF (fun c => decide (0 < f c)) m + (if decide (0 < f m) = true then 1 else 0) = smN f m + f m) = ((anyB (fun c => decide (1 < f c)) m || decide (1 < f m)) = false)
    rw [Bool.or_eq_false_iff, ← ih]
    refine propext ⟨fun h => ?_, fun h => ?_⟩
    · by_cases h0 : 0 < f m
      · rw [if_pos (by simpa using h0)] at h
        refine ⟨by omega, ?_⟩
        rw [decide_eq_false_iff_not]
        omega
      · rw [if_neg (by simpa using h0)] at h
        refine ⟨by omega, ?_⟩
        rw [decide_eq_false_iff_not]
        omega
    · obtain ⟨h1, h2⟩ := h
      rw [decide_eq_false_iff_not] at h2
      by_cases h0 : 0 < f m
      · rw [if_pos (by simpa using h0)]
        omega
      · rw [if_neg (by simpa using h0)]
        omega
theorem ctF_ext {f g : Nat → Bool} {m : Nat} (h : ∀ c, c < m → f c = g c) : ctF f m = ctF g m := by
  induction m with
  | zero => rfl
  | succ m ih => show ctF f m + _ = ctF g m + _; rw [ih (fun c hc => h c (by omega)), h m (by omega)]
theorem ctF_cut {f : Nat → Bool} {a b : Nat} (hab : a ≤ b) (h : ∀ c, a ≤ c → c < b → f c = false) : ctF f b = ctF f a := by
  induction b with
  | zero => rw [Nat.le_zero.mp hab]
  | succ b ih =>
    by_cases e : a = b + 1
    · rw [e]
    · show ctF f b + (if f b = true then 1 else 0) = _
      rw [ih (by omega) (fun c h1 h2 => h c h1 (by omega)), h b (by omega) (by omega)]
      rfl
theorem cnt_out {P : Nat → Int32} {c : Nat} (h1 : 54 ≤ c) (h2 : c < 64) : ∀ n, (∀ k, k < n → ∃ d, d < 54 ∧ P k = nI d) → cnt P c n = 0 := by
  intro n
  induction n with
  | zero => intro _; rfl
  | succ n ih =>
    intro hp
    obtain ⟨d, hd, e⟩ := hp n (Nat.lt_succ_self n)
    show cnt P c n + (if P n = nI c then 1 else 0) = 0
    rw [ih (fun k hk => hp k (by omega)), e]
    simp only [nIeq (show d < 2 ^ 31 by omega) (show c < 2 ^ 31 by omega)]
    rw [if_neg (by omega)]
/-- the second test: no card is there twice -/
theorem db_bit {P : Nat → Int32} {n : Nat} (hn : n ≤ 60) (hp : ∀ k, k < n → ∃ d, d < 54 ∧ P k = nI d) : (bcI (csF P n) = nI n) = (anyB (fun c => decide (1 < cnt P c n)) 54 = false) := by
  rw [bc_ct, ← ct_sm, cnt_sum n hp]
  have e : ctF (fun c => (uN (csF P n)).testBit c) 64 = ctF (fun c => decide (0 < cnt P c n)) 54 := by
    rw [ctF_ext (fun c hc => cs_bit hc n hp)]
    apply ctF_cut (by decide)
    intro c hc hc2
    rw [cnt_out hc hc2 n hp]
    rfl
  rw [e]
  have := @ctF_le (fun c => decide (0 < cnt P c n)) 54
  exact nIeq (by omega) (by omega)
/-- the third test: nothing foreign is there -/
theorem fo_bit {P : Nat → Int32} {K : Int32} {n : Nat} (hK : kdF K = true) (hp : ∀ k, k < n → ∃ d, d < 54 ∧ P k = nI d) (hm : anyB (fun c => kdOf K (nI c) && decide (cnt P c n = 0)) 54 = false) : (csF P n = ksF K) = (anyB (fun c => !kdOf K (nI c) && decide (0 < cnt P c n)) 54 = false) := by
  rw [anyB_ff] at hm ⊢
  refine propext ⟨fun h c hc => ?_, fun h => ?_⟩
  · have e : (uN (csF P n)).testBit c = (uN (ksF K)).testBit c := by rw [h]
    rw [ks_bit hK (by omega), cs_bit (by omega) n hp] at e
    rw [e]
    cases hk : kdOf K (nI c) <;> simp [hc]
  · apply uN_ext
    intro c hc
    rw [ks_bit hK hc, cs_bit hc n hp]
    by_cases h5 : c < 54
    · have h1 := h c h5
      have h2 := hm c h5
      cases hk : kdOf K (nI c)
      · rw [hk] at h1; simp at h1; simp [h1]
      · rw [hk] at h2; simp at h2; simp; omega
    · rw [cnt_out (by omega) hc n hp]
      simp [h5]
theorem sp14 {q n : Nat} {K : Int32} {M : AMem} {Q : AR → Prop} (hs : PK M q) (hn : mI M q 4 = nI n) (hn60 : n ≤ 60) (hK : kdF K = true) (hk : mL M q 0 = ksF K) (hp : ∀ k, k < n → ∃ d, d < 54 ∧ mI M (q + 1) k = nI d) : CaP 14 [.ref q] M Q = Q (M, .inl (some (.int (wrS (mI M (q + 1)) n K (mI M q 1) (mI M q 2))))) := by
  have e1 := ms_bit hK hp
  have e2 := db_bit hn60 hp
  have e3 := @fo_bit _ _ _ hK hp
  unfold CaP wrS
  generalize hA : ksF K &&& (csF (mI M (q + 1)) n ^^^ -1) = A at e1
  have hA2 : ksF K &&& ~~~csF (mI M (q + 1)) n = A := by rw [← hA]; simp
  generalize hm : anyB (fun c => kdOf K (nI c) && decide (cnt (mI M (q + 1)) c n = 0)) 54 = b1 at e1 e3
  generalize hd : anyB (fun c => decide (1 < cnt (mI M (q + 1)) c n)) 54 = b2 at e2
  generalize hf : anyB (fun c => !kdOf K (nI c) && decide (0 < cnt (mI M (q + 1)) c n)) 54 = b3 at e3
  cases b1
  · cases b2
    · have e3' := e3 rfl
      cases b3
      · simp [lv_args, sStep, amStep, a_nx, a_ii, a_jj, a_ji, a_ld, a_st, a_if, a_ald, a_c1, a_c2, lkp, lput, lput2, lins, oP_none, oP_next, oP_call, oP_ret, oP_thr, outP_ite, aft_ret, aft_void, aft_thr, fHnd, List.isEmpty_nil, List.filter_cons, List.filter_nil, Value.category, csum, List.map_cons, List.map_nil, List.sum_cons, List.sum_nil, List.cons_append, List.nil_append, Option.toList, vp_nar_int, narrow_b1, narrow_b0, nc115, vc115, fc115, nc111, vc111, fc111, nc100, vc100, fc100, nc109, vc109, fc109, nc120, vc120, fc120, nc119, vc119, fc119, nc116, vc116, fc116, nc45, vc45, fc45, nc32, vc32, fc32, nc102, vc102, fc102, nc106, vc106, fc106, fin3, rf_some, rf_none, upd_ap, va_up_ap, nar_bi, fits_bi, nvp_bi, bi_t, bi_f, fval, fty, ftabs, wrv_0, wrv_1, wrv_2, wrv_3, wrv_5, mT_stI, mI_stI, mL_stI, mD_stI, mR_stI, mN_stI, mS_stI, mT_stL, mI_stL, mL_stL, mD_stL, mR_stL, mN_stL, mS_stL, mT_stD, mI_stD, mL_stD, mD_stD, mR_stD, mN_stD, mS_stD, mT_stR, mI_stR, mL_stR, mD_stR, mR_stR, mN_stR, mS_stR, mT_stN, mI_stN, mL_stN, mD_stN, mR_stN, mN_stN, mS_stN, e14_0, e14_1, e14_4, e14_5, e14_6, e14_9, e14_10, e14_13, e14_14, e14_15, e14_16, e14_17, e14_20, e14_22, e14_23, e14_24, e14_27, e14_28, e14_31, e14_34, e14_36, e14_37, e14_38, e14_39, e14_42, e14_43, e14_46, e14_48, e14_49, e14_50, e14_53, e14_56, e14_58, e14_59, e14_60, e14_63, e14_66, e14_68, e14_71, e14_73, rt14, hn14, pk0 hs, cl13, sp13 hs hn hn60, cl168, sp168, hk, hn, lgc0, lcon0, l0, hA, hA2, e1, e2, e3']
        by_cases h1 : mI M q 1 = 0
        · by_cases h2 : mI M q 2 = 0 <;> simp [h1, h2]
        · simp [h1]
      · simp [lv_args, sStep, amStep, a_nx, a_ii, a_jj, a_ji, a_ld, a_st, a_if, a_ald, a_c1, a_c2, lkp, lput, lput2, lins, oP_none, oP_next, oP_call, oP_ret, oP_thr, outP_ite, aft_ret, aft_void, aft_thr, fHnd, List.isEmpty_nil, List.filter_cons, List.filter_nil, Value.category, csum, List.map_cons, List.map_nil, List.sum_cons, List.sum_nil, List.cons_append, List.nil_append, Option.toList, vp_nar_int, narrow_b1, narrow_b0, nc115, vc115, fc115, nc111, vc111, fc111, nc100, vc100, fc100, nc109, vc109, fc109, nc120, vc120, fc120, nc119, vc119, fc119, nc116, vc116, fc116, nc45, vc45, fc45, nc32, vc32, fc32, nc102, vc102, fc102, nc106, vc106, fc106, fin3, rf_some, rf_none, upd_ap, va_up_ap, nar_bi, fits_bi, nvp_bi, bi_t, bi_f, fval, fty, ftabs, wrv_0, wrv_1, wrv_2, wrv_3, wrv_5, mT_stI, mI_stI, mL_stI, mD_stI, mR_stI, mN_stI, mS_stI, mT_stL, mI_stL, mL_stL, mD_stL, mR_stL, mN_stL, mS_stL, mT_stD, mI_stD, mL_stD, mD_stD, mR_stD, mN_stD, mS_stD, mT_stR, mI_stR, mL_stR, mD_stR, mR_stR, mN_stR, mS_stR, mT_stN, mI_stN, mL_stN, mD_stN, mR_stN, mN_stN, mS_stN, e14_0, e14_1, e14_4, e14_5, e14_6, e14_9, e14_10, e14_13, e14_14, e14_15, e14_16, e14_17, e14_20, e14_22, e14_23, e14_24, e14_27, e14_28, e14_31, e14_34, e14_36, e14_37, e14_38, e14_39, e14_42, e14_43, e14_46, e14_48, e14_49, e14_50, e14_53, e14_56, e14_58, e14_59, e14_60, e14_63, e14_66, e14_68, e14_71, e14_73, rt14, hn14, pk0 hs, cl13, sp13 hs hn hn60, cl168, sp168, hk, hn, lgc0, lcon0, l0, hA, hA2, e1, e2, e3']
    · simp [lv_args, sStep, amStep, a_nx, a_ii, a_jj, a_ji, a_ld, a_st, a_if, a_ald, a_c1, a_c2, lkp, lput, lput2, lins, oP_none, oP_next, oP_call, oP_ret, oP_thr, outP_ite, aft_ret, aft_void, aft_thr, fHnd, List.isEmpty_nil, List.filter_cons, List.filter_nil, Value.category, csum, List.map_cons, List.map_nil, List.sum_cons, List.sum_nil, List.cons_append, List.nil_append, Option.toList, vp_nar_int, narrow_b1, narrow_b0, nc115, vc115, fc115, nc111, vc111, fc111, nc100, vc100, fc100, nc109, vc109, fc109, nc120, vc120, fc120, nc119, vc119, fc119, nc116, vc116, fc116, nc45, vc45, fc45, nc32, vc32, fc32, nc102, vc102, fc102, nc106, vc106, fc106, fin3, rf_some, rf_none, upd_ap, va_up_ap, nar_bi, fits_bi, nvp_bi, bi_t, bi_f, fval, fty, ftabs, wrv_0, wrv_1, wrv_2, wrv_3, wrv_5, mT_stI, mI_stI, mL_stI, mD_stI, mR_stI, mN_stI, mS_stI, mT_stL, mI_stL, mL_stL, mD_stL, mR_stL, mN_stL, mS_stL, mT_stD, mI_stD, mL_stD, mD_stD, mR_stD, mN_stD, mS_stD, mT_stR, mI_stR, mL_stR, mD_stR, mR_stR, mN_stR, mS_stR, mT_stN, mI_stN, mL_stN, mD_stN, mR_stN, mN_stN, mS_stN, e14_0, e14_1, e14_4, e14_5, e14_6, e14_9, e14_10, e14_13, e14_14, e14_15, e14_16, e14_17, e14_20, e14_22, e14_23, e14_24, e14_27, e14_28, e14_31, e14_34, e14_36, e14_37, e14_38, e14_39, e14_42, e14_43, e14_46, e14_48, e14_49, e14_50, e14_53, e14_56, e14_58, e14_59, e14_60, e14_63, e14_66, e14_68, e14_71, e14_73, rt14, hn14, pk0 hs, cl13, sp13 hs hn hn60, cl168, sp168, hk, hn, lgc0, lcon0, l0, hA, hA2, e1, e2]
  · simp [lv_args, sStep, amStep, a_nx, a_ii, a_jj, a_ji, a_ld, a_st, a_if, a_ald, a_c1, a_c2, lkp, lput, lput2, lins, oP_none, oP_next, oP_call, oP_ret, oP_thr, outP_ite, aft_ret, aft_void, aft_thr, fHnd, List.isEmpty_nil, List.filter_cons, List.filter_nil, Value.category, csum, List.map_cons, List.map_nil, List.sum_cons, List.sum_nil, List.cons_append, List.nil_append, Option.toList, vp_nar_int, narrow_b1, narrow_b0, nc115, vc115, fc115, nc111, vc111, fc111, nc100, vc100, fc100, nc109, vc109, fc109, nc120, vc120, fc120, nc119, vc119, fc119, nc116, vc116, fc116, nc45, vc45, fc45, nc32, vc32, fc32, nc102, vc102, fc102, nc106, vc106, fc106, fin3, rf_some, rf_none, upd_ap, va_up_ap, nar_bi, fits_bi, nvp_bi, bi_t, bi_f, fval, fty, ftabs, wrv_0, wrv_1, wrv_2, wrv_3, wrv_5, mT_stI, mI_stI, mL_stI, mD_stI, mR_stI, mN_stI, mS_stI, mT_stL, mI_stL, mL_stL, mD_stL, mR_stL, mN_stL, mS_stL, mT_stD, mI_stD, mL_stD, mD_stD, mR_stD, mN_stD, mS_stD, mT_stR, mI_stR, mL_stR, mD_stR, mR_stR, mN_stR, mS_stR, mT_stN, mI_stN, mL_stN, mD_stN, mR_stN, mN_stN, mS_stN, e14_0, e14_1, e14_4, e14_5, e14_6, e14_9, e14_10, e14_13, e14_14, e14_15, e14_16, e14_17, e14_20, e14_22, e14_23, e14_24, e14_27, e14_28, e14_31, e14_34, e14_36, e14_37, e14_38, e14_39, e14_42, e14_43, e14_46, e14_48, e14_49, e14_50, e14_53, e14_56, e14_58, e14_59, e14_60, e14_63, e14_66, e14_68, e14_71, e14_73, rt14, hn14, pk0 hs, cl13, sp13 hs hn hn60, cl168, sp168, hk, hn, lgc0, lcon0, l0, hA, hA2, e1]
theorem sp15 {q n : Nat} {K : Int32} {M : AMem} {Q : AR → Prop} (hs : PK M q) (hn : mI M q 4 = nI n) (hn60 : n ≤ 60) (hk : mL M q 0 = ksF K) (ho : csF (mI M (q + 1)) n = ksF K ∧ bcI (ksF K) = nI n) : CaP 15 [.ref q] M Q = Q (M, .inl (some (.int 1))) := by
  unfold CaP
  simp [lv_args, sStep, amStep, a_nx, a_ii, a_jj, a_ji, a_ld, a_st, a_if, a_ald, a_c1, a_c2, lkp, lput, lput2, lins, oP_none, oP_next, oP_call, oP_ret, oP_thr, outP_ite, aft_ret, aft_void, aft_thr, fHnd, List.isEmpty_nil, List.filter_cons, List.filter_nil, Value.category, csum, List.map_cons, List.map_nil, List.sum_cons, List.sum_nil, List.cons_append, List.nil_append, Option.toList, vp_nar_int, narrow_b1, narrow_b0, nc115, vc115, fc115, nc111, vc111, fc111, nc100, vc100, fc100, nc109, vc109, fc109, nc120, vc120, fc120, nc119, vc119, fc119, nc116, vc116, fc116, nc45, vc45, fc45, nc32, vc32, fc32, nc102, vc102, fc102, nc106, vc106, fc106, fin3, rf_some, rf_none, upd_ap, va_up_ap, nar_bi, fits_bi, nvp_bi, bi_t, bi_f, fval, fty, ftabs, wrv_0, wrv_1, wrv_2, wrv_3, wrv_5, mT_stI, mI_stI, mL_stI, mD_stI, mR_stI, mN_stI, mS_stI, mT_stL, mI_stL, mL_stL, mD_stL, mR_stL, mN_stL, mS_stL, mT_stD, mI_stD, mL_stD, mD_stD, mR_stD, mN_stD, mS_stD, mT_stR, mI_stR, mL_stR, mD_stR, mR_stR, mN_stR, mS_stR, mT_stN, mI_stN, mL_stN, mD_stN, mR_stN, mN_stN, mS_stN, e15_0, e15_1, e15_4, e15_5, e15_8, e15_9, e15_12, e15_13, e15_16, e15_19, e15_20, e15_23, e15_26, e15_27, e15_30, e15_31, rt15, hn15, pk0 hs, cl13, sp13 hs hn hn60, cl168, sp168, hk, hn, lgc0, ho.1, ho.2]
theorem sp17 {q n : Nat} {K : Int32} {M : AMem} {Q : AR → Prop} (hs : PK M q) (hn : mI M q 4 = nI n) (hn60 : n ≤ 60) (hK : kdF K = true) (hk : mL M q 0 = ksF K) (hp : ∀ k, k < n → ∃ d, d < 54 ∧ mI M (q + 1) k = nI d)
    (hw : ¬ mI M q 8 = -1 → mI M q 5 = 115 → wrS (mI M (q + 1)) n K (mI M q 1) (mI M q 2) = 45) (ho : mI M q 6 = 0 → csF (mI M (q + 1)) n = ksF K ∧ bcI (ksF K) = nI n) : CaP 17 [.ref q] M Q = Q (M, .inl (some (.int 1))) := by
  have e14 := fun Q => @sp14 q n K M Q hs hn hn60 hK hk hp
  have e28 : EvP 17 28 [(0, .ref q)] [] M Q = Q (M, .inl (some (.int 1))) := by
    by_cases h6 : mI M q 6 = 0
    · have e15 := fun Q => @sp15 q n K M Q hs hn hn60 hk (ho h6)
      simp [lv_args, sStep, amStep, a_nx, a_ii, a_jj, a_ji, a_ld, a_st, a_if, a_ald, a_c1, a_c2, lkp, lput, lput2, lins, oP_none, oP_next, oP_call, oP_ret, oP_thr, outP_ite, aft_ret, aft_void, aft_thr, fHnd, List.isEmpty_nil, List.filter_cons, List.filter_nil, Value.category, csum, List.map_cons, List.map_nil, List.sum_cons, List.sum_nil, List.cons_append, List.nil_append, Option.toList, vp_nar_int, narrow_b1, narrow_b0, nc115, vc115, fc115, nc111, vc111, fc111, nc100, vc100, fc100, nc109, vc109, fc109, nc120, vc120, fc120, nc119, vc119, fc119, nc116, vc116, fc116, nc45, vc45, fc45, nc32, vc32, fc32, nc102, vc102, fc102, nc106, vc106, fc106, fin3, rf_some, rf_none, upd_ap, va_up_ap, nar_bi, fits_bi, nvp_bi, bi_t, bi_f, fval, fty, ftabs, wrv_0, wrv_1, wrv_2, wrv_3, wrv_5, mT_stI, mI_stI, mL_stI, mD_stI, mR_stI, mN_stI, mS_stI, mT_stL, mI_stL, mL_stL, mD_stL, mR_stL, mN_stL, mS_stL, mT_stD, mI_stD, mL_stD, mD_stD, mR_stD, mN_stD, mS_stD, mT_stR, mI_stR, mL_stR, mD_stR, mR_stR, mN_stR, mS_stR, mT_stN, mI_stN, mL_stN, mD_stN, mR_stN, mN_stN, mS_stN, e17_0, e17_1, e17_4, e17_5, e17_8, e17_9, e17_12, e17_14, e17_17, e17_18, e17_21, e17_23, e17_26, e17_27, e17_28, e17_29, e17_32, e17_35, e17_36, e17_39, e17_42, e17_43, e17_46, e17_47, rt17, hn17, pk0 hs, h6, cl15, e15]
    · simp [lv_args, sStep, amStep, a_nx, a_ii, a_jj, a_ji, a_ld, a_st, a_if, a_ald, a_c1, a_c2, lkp, lput, lput2, lins, oP_none, oP_next, oP_call, oP_ret, oP_thr, outP_ite, aft_ret, aft_void, aft_thr, fHnd, List.isEmpty_nil, List.filter_cons, List.filter_nil, Value.category, csum, List.map_cons, List.map_nil, List.sum_cons, List.sum_nil, List.cons_append, List.nil_append, Option.toList, vp_nar_int, narrow_b1, narrow_b0, nc115, vc115, fc115, nc111, vc111, fc111, nc100, vc100, fc100, nc109, vc109, fc109, nc120, vc120, fc120, nc119, vc119, fc119, nc116, vc116, fc116, nc45, vc45, fc45, nc32, vc32, fc32, nc102, vc102, fc102, nc106, vc106, fc106, fin3, rf_some, rf_none, upd_ap, va_up_ap, nar_bi, fits_bi, nvp_bi, bi_t, bi_f, fval, fty, ftabs, wrv_0, wrv_1, wrv_2, wrv_3, wrv_5, mT_stI, mI_stI, mL_stI, mD_stI, mR_stI, mN_stI, mS_stI, mT_stL, mI_stL, mL_stL, mD_stL, mR_stL, mN_stL, mS_stL, mT_stD, mI_stD, mL_stD, mD_stD, mR_stD, mN_stD, mS_stD, mT_stR, mI_stR, mL_stR, mD_stR, mR_stR, mN_stR, mS_stR, mT_stN, mI_stN, mL_stN, mD_stN, mR_stN, mN_stN, mS_stN, e17_0, e17_1, e17_4, e17_5, e17_8, e17_9, e17_12, e17_14, e17_17, e17_18, e17_21, e17_23, e17_26, e17_27, e17_28, e17_29, e17_32, e17_35, e17_36, e17_39, e17_42, e17_43, e17_46, e17_47, rt17, hn17, pk0 hs, h6]
  unfold CaP
  by_cases h8 : mI M q 8 = -1
  · simp [lv_args, sStep, amStep, a_nx, a_ii, a_jj, a_ji, a_ld, a_st, a_if, a_ald, a_c1, a_c2, lkp, lput, lput2, lins, oP_none, oP_next, oP_call, oP_ret, oP_thr, outP_ite, aft_ret, aft_void, aft_thr, fHnd, List.isEmpty_nil, List.filter_cons, List.filter_nil, Value.category, csum, List.map_cons, List.map_nil, List.sum_cons, List.sum_nil, List.cons_append, List.nil_append, Option.toList, vp_nar_int, narrow_b1, narrow_b0, nc115, vc115, fc115, nc111, vc111, fc111, nc100, vc100, fc100, nc109, vc109, fc109, nc120, vc120, fc120, nc119, vc119, fc119, nc116, vc116, fc116, nc45, vc45, fc45, nc32, vc32, fc32, nc102, vc102, fc102, nc106, vc106, fc106, fin3, rf_some, rf_none, upd_ap, va_up_ap, nar_bi, fits_bi, nvp_bi, bi_t, bi_f, fval, fty, ftabs, wrv_0, wrv_1, wrv_2, wrv_3, wrv_5, mT_stI, mI_stI, mL_stI, mD_stI, mR_stI, mN_stI, mS_stI, mT_stL, mI_stL, mL_stL, mD_stL, mR_stL, mN_stL, mS_stL, mT_stD, mI_stD, mL_stD, mD_stD, mR_stD, mN_stD, mS_stD, mT_stR, mI_stR, mL_stR, mD_stR, mR_stR, mN_stR, mS_stR, mT_stN, mI_stN, mL_stN, mD_stN, mR_stN, mN_stN, mS_stN, e17_0, e17_1, e17_4, e17_5, e17_8, e17_9, e17_12, e17_14, e17_17, e17_18, e17_21, e17_23, e17_26, e17_27, e17_29, e17_32, e17_35, e17_36, e17_39, e17_42, e17_43, e17_46, e17_47, rt17, hn17, pk0 hs, h8, e28]
  · by_cases h5 : mI M q 5 = 115
    · simp [lv_args, sStep, amStep, a_nx, a_ii, a_jj, a_ji, a_ld, a_st, a_if, a_ald, a_c1, a_c2, lkp, lput, lput2, lins, oP_none, oP_next, oP_call, oP_ret, oP_thr, outP_ite, aft_ret, aft_void, aft_thr, fHnd, List.isEmpty_nil, List.filter_cons, List.filter_nil, Value.category, csum, List.map_cons, List.map_nil, List.sum_cons, List.sum_nil, List.cons_append, List.nil_append, Option.toList, vp_nar_int, narrow_b1, narrow_b0, nc115, vc115, fc115, nc111, vc111, fc111, nc100, vc100, fc100, nc109, vc109, fc109, nc120, vc120, fc120, nc119, vc119, fc119, nc116, vc116, fc116, nc45, vc45, fc45, nc32, vc32, fc32, nc102, vc102, fc102, nc106, vc106, fc106, fin3, rf_some, rf_none, upd_ap, va_up_ap, nar_bi, fits_bi, nvp_bi, bi_t, bi_f, fval, fty, ftabs, wrv_0, wrv_1, wrv_2, wrv_3, wrv_5, mT_stI, mI_stI, mL_stI, mD_stI, mR_stI, mN_stI, mS_stI, mT_stL, mI_stL, mL_stL, mD_stL, mR_stL, mN_stL, mS_stL, mT_stD, mI_stD, mL_stD, mD_stD, mR_stD, mN_stD, mS_stD, mT_stR, mI_stR, mL_stR, mD_stR, mR_stR, mN_stR, mS_stR, mT_stN, mI_stN, mL_stN, mD_stN, mR_stN, mN_stN, mS_stN, e17_0, e17_1, e17_4, e17_5, e17_8, e17_9, e17_12, e17_14, e17_17, e17_18, e17_21, e17_23, e17_26, e17_27, e17_29, e17_32, e17_35, e17_36, e17_39, e17_42, e17_43, e17_46, e17_47, rt17, hn17, pk0 hs, h8, h5, e28, cl14, e14, hw h8 h5]
    · simp [lv_args, sStep, amStep, a_nx, a_ii, a_jj, a_ji, a_ld, a_st, a_if, a_ald, a_c1, a_c2, lkp, lput, lput2, lins, oP_none, oP_next, oP_call, oP_ret, oP_thr, outP_ite, aft_ret, aft_void, aft_thr, fHnd, List.isEmpty_nil, List.filter_cons, List.filter_nil, Value.category, csum, List.map_cons, List.map_nil, List.sum_cons, List.sum_nil, List.cons_append, List.nil_append, Option.toList, vp_nar_int, narrow_b1, narrow_b0, nc115, vc115, fc115, nc111, vc111, fc111, nc100, vc100, fc100, nc109, vc109, fc109, nc120, vc120, fc120, nc119, vc119, fc119, nc116, vc116, fc116, nc45, vc45, fc45, nc32, vc32, fc32, nc102, vc102, fc102, nc106, vc106, fc106, fin3, rf_some, rf_none, upd_ap, va_up_ap, nar_bi, fits_bi, nvp_bi, bi_t, bi_f, fval, fty, ftabs, wrv_0, wrv_1, wrv_2, wrv_3, wrv_5, mT_stI, mI_stI, mL_stI, mD_stI, mR_stI, mN_stI, mS_stI, mT_stL, mI_stL, mL_stL, mD_stL, mR_stL, mN_stL, mS_stL, mT_stD, mI_stD, mL_stD, mD_stD, mR_stD, mN_stD, mS_stD, mT_stR, mI_stR, mL_stR, mD_stR, mR_stR, mN_stR, mS_stR, mT_stN, mI_stN, mL_stN, mD_stN, mR_stN, mN_stN, mS_stN, e17_0, e17_1, e17_4, e17_5, e17_8, e17_9, e17_12, e17_14, e17_17, e17_18, e17_21, e17_23, e17_26, e17_27, e17_29, e17_32, e17_35, e17_36, e17_39, e17_42, e17_43, e17_46, e17_47, rt17, hn17, pk0 hs, h8, h5, e28]
