/-! ===== collate, the call ===== -/
theorem tr35 {f g : Nat → Int32} (h : f = g) : allB (trnF f) 35 = allB (trnF g) 35 := by rw [h]
theorem cs63 {B j : Nat} {K : Int32} {ow th : Bool} {M Y : AMem} (h0 : ST B M) (hK : kdF K = true) (hx : dnF (lakF (mI M (B + 3)) K) 54 = -1) (hj : mI M B 10 = nI j) (hj12 : j < 12) (how : ow = !allB (trnF (mI M (B + 7))) 35) (hth : th = !decide (100 ≤ mI M (B + 5) 2)) (hN : B + 45 ≤ mN M) (e9 : ∀ Q, CaP 9 [.ref (mN M), .long (ksF K), .int (bi ow), .int (bi th)] (stN (stI M (B + 3) (giF (mI M (B + 3)) K 54)) 4 0 9) Q = Q (Y, .inl none)) (hY : ST B Y) (hP : mT Y (mN M) = (4, 0)) : ∀ Q, CaP 63 [.ref B, .int K] M Q = Q (stI (stR Y (B + 8) (va_up (mR Y (B + 8)) j (some (mN M)))) B (upd (mI Y B) 10 (nI (j + 1))), .inl (some (.int (nI j)))) := by
  intro Q
  have hX : ST B (stN (stI M (B + 3) (giF (mI M (B + 3)) K 54)) 4 0 9) := by
    refine ⟨fun k hk => ?_, fun e he => ?_, ?_⟩
    · rw [mT_stN, mT_stI, mN_stI, va_up_ap, if_neg (by omega)]; exact h0.1 k hk
    · have hb : e.1 < 45 := by
        have : ∀ e ∈ stR0, e.1 < 45 := by decide
        exact this e he
      rw [mR_stN, mR_stI, mN_stI, va_up_ap, if_neg (by omega)]; exact h0.2.1 e he
    · rw [mN_stN, mN_stI]; omega
  have q7 : mI (stN (stI M (B + 3) (giF (mI M (B + 3)) K 54)) 4 0 9) (B + 7) = mI M (B + 7) := by
    rw [mI_stN, mI_stI, mN_stI, va_up_ap, if_neg (by omega), va_up_ap, if_neg (by omega)]
  have q5 : mI (stN (stI M (B + 3) (giF (mI M (B + 3)) K 54)) 4 0 9) (B + 5) = mI M (B + 5) := by
    rw [mI_stN, mI_stI, mN_stI, va_up_ap, if_neg (by omega), va_up_ap, if_neg (by omega)]
  have e2 := fun Q => @sp2 B _ Q hX
  have e6 := fun Q => @sp6 B _ Q hX
  rw [q7] at e2
  rw [q5] at e6
  have hn : mT (stN (stI M (B + 3) (giF (mI M (B + 3)) K 54)) 4 0 9) (mN M) = (4, 0) := by rw [mT_stN, mN_stI, va_up_ap, if_pos rfl]
  have t0 := tT0 hX
  have t5 := tT5 hX
  have t6 := tT6 hX
  have r7 := tR0_7 hX
  have r8 := tR0_8 hX
  generalize hXX : stN (stI M (B + 3) (giF (mI M (B + 3)) K 54)) 4 0 9 = X at e2 e6 hn t0 t5 t6 r7 r8 e9
  unfold CaP
  cases hb1 : allB (trnF (mI M (B + 7))) 35 <;> cases hb2 : decide (100 ≤ mI M (B + 5) 2) <;> rw [hb1] at how e2 <;> rw [hb2] at hth e6 <;> subst how <;> subst hth <;> simp [bi] at e9 e2 e6 <;>
  simp [lv_args, sStep, amStep, a_nx, a_ii, a_jj, a_ji, a_ld, a_st, a_if, a_ald, a_c1, a_c2, lkp, lput, lput2, lins, oP_none, oP_next, oP_call, oP_ret, oP_thr, outP_ite, aft_ret, aft_void, aft_thr, fHnd, List.isEmpty_nil, List.filter_cons, List.filter_nil, Value.category, csum, List.map_cons, List.map_nil, List.sum_cons, List.sum_nil, List.cons_append, List.nil_append, Option.toList, vp_nar_int, narrow_b1, narrow_b0, nc115, vc115, fc115, nc111, vc111, fc111, nc100, vc100, fc100, nc109, vc109, fc109, nc120, vc120, fc120, nc119, vc119, fc119, nc116, vc116, fc116, nc45, vc45, fc45, nc32, vc32, fc32, nc102, vc102, fc102, nc106, vc106, fc106, fin3, rf_some, rf_none, upd_ap, va_up_ap, nar_bi, fits_bi, nvp_bi, bi_t, bi_f, fval, fty, ftabs, wrv_0, wrv_1, wrv_2, wrv_3, wrv_5, mT_stI, mI_stI, mL_stI, mD_stI, mR_stI, mN_stI, mS_stI, mT_stL, mI_stL, mL_stL, mD_stL, mR_stL, mN_stL, mS_stL, mT_stD, mI_stD, mL_stD, mD_stD, mR_stD, mN_stD, mS_stD, mT_stR, mI_stR, mL_stR, mD_stR, mR_stR, mN_stR, mS_stR, mT_stN, mI_stN, mL_stN, mD_stN, mR_stN, mN_stN, mS_stN, e63_0, e63_1, e63_4, e63_5, e63_6, e63_9, e63_10, e63_13, e63_14, e63_17, e63_27, e63_28, e63_31, e63_33, e63_35, e63_38, e63_40, e63_41, e63_44, e63_45, e63_48, e63_58, e63_59, e63_62, e63_63, e63_66, e63_67, e63_70, e63_72, e63_75, e63_76, e63_77, e63_78, e63_81, e63_84, e63_87, e63_88, e63_91, e63_92, e63_93, e63_96, e63_99, e63_102, e63_103, e63_106, e63_107, e63_110, e63_111, e63_112, e63_114, e63_115, e63_116, e63_119, e63_121, rt63, hn63, h0, tT0, tT1, tT2, tT3, tT4, tT5, tT6, tT7, tT8, tT9, tT10, tT11, tT12, tT13, tT14, tT15, tT16, tT17, tT18, tT19, tT20, tT21, tT22, tT23, tT24, tT25, tT26, tT27, tT28, tT29, tT30, tT31, tT32, tT33, tT34, tT35, tT36, tT37, tT38, tT39, tT40, tT41, tT42, tT43, tT44, tR0_0, tR0_6, tR0_7, tR0_8, tR0_9, tR0_11, tR0_12, tR0_14, tR2_0, tR2_1, tR6_0, tR9_0, tR9_1, tR14_0, tR14_1, tR14_2, tR14_3, tR14_4, tR14_5, tR14_6, tR14_7, tR14_8, tR14_9, tR14_10, tR14_11, tR14_12, tR14_13, tR14_14, tR14_15, tR14_16, tR14_17, tR14_18, tR14_19, tR14_20, tR14_21, tR14_22, tR14_23, tR14_24, tR14_25, tR14_26, tR14_27, ST_stI, ST_stL, ST_stD, cl92, sp92, hK, cl25, sp25 h0 hK, hx, hj, nlt0 (show j < 2 ^ 31 by omega), ge12 hj12, nlt12 hj12, cl27, sp27 h0 hK, hXX, t0, t5, t6, r7, r8, hn, cl2, e2, cl6, e6, cl9, e9, tT0 hY, tT8 hY, hP, elK, inb_nI hj12, nI_clamp (show j < 2 ^ 31 by omega), fNs, nI_1]
