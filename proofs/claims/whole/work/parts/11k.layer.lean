/-! ===== layers; how long until a pack comes back ===== -/
theorem sumF_ext {f g : Nat → Int32} : ∀ n, (∀ k, k < n → f k = g k) → sumF f n = sumF g n := by
  intro n
  induction n with
  | zero => intro _; rfl
  | succ n ih => intro h; show sumF f n + f n = sumF g n + g n; rw [ih (fun k hk => h k (by omega)), h n (by omega)]
theorem sumF_upd {f : Nat → Int32} {n : Nat} {x : Int32} : sumF (upd f n x) (n + 1) = sumF f n + x := by
  show sumF (upd f n x) n + upd f n x n = _
  rw [sumF_ext n (fun k hk => by rw [upd_ap, if_neg (by omega)]), upd_ap, if_pos rfl]
theorem snF_ext {f g : Nat → Int32} : ∀ n, (∀ k, k ≤ n → f k = g k) → snF f n = snF g n := by
  intro n
  induction n with
  | zero => intro _; rfl
  | succ n ih =>
    intro h
    show snF f n + (if f (n + 1) = f n then 0 else 1) = snF g n + (if g (n + 1) = g n then 0 else 1)
    rw [ih (fun k hk => h k (by omega)), h n (by omega), h (n + 1) (by omega)]
theorem ne5' {n : Nat} (h : n < 5) : nI n < (5 : Int32) := Int32.not_le.mp (nI_ge h (by decide))
theorem op13 {B s L : Nat} {M : AMem} {ns np no nl : Nat} {p q o : Nat → Nat} (h : INV B s L M ns np no nl p q o) (x y : Int32) (b : Bool) : GO B s L 57 130 [.int x, .int y, .int (bi b)] [(0, 1), (1, 2)] M := by
  have h0 := INV_ST h
  have hsB := h.1.1.2.1
  have hN := ad_N h.1
  obtain ⟨⟨a1, a2⟩, ⟨a3, a4⟩, ⟨a5, a6⟩, ⟨a7, a8⟩, a9, a10, a11, a12, a13, a14⟩ := h.2.1
  obtain ⟨b0, b1, b2, b3, b4⟩ := iv_4 h
  by_cases hx : (inR x 1 20 && inR y 0 60) = true
  · have hx2 := hx
    rw [Bool.and_eq_true] at hx2
    by_cases hl : nl < 5
    · have ht : mI M (B + 5) 1 + x = sumF (upd (mI M (B + 22)) nl x) (nl + 1) := by rw [sumF_upd, b1]
      refine go_w5 (M1 := stI M (B + 5) (glF (mI M (B + 5)) x y b)) (M5 := mF B (stI (stI (stI (stI M (B + 5) (glF (mI M (B + 5)) x y b)) (B + 22) (upd (mI M (B + 22)) nl x)) (B + 23) (upd (mI M (B + 23)) nl y)) (B + 24) (upd (mI M (B + 24)) nl (bi b))) 29 (nI (nl + 1))) (r := mI M (B + 5) 1 + x) hsB (fun Q => ?_) (SK_Bk (SK_rf h0) hsB) (fun Q => ?_) (SK_Bk (SK_Bk (SK_Bk (SK_Bk (SK_Bk (SK_rf h0) hsB) hsB) hsB) hsB) hsB) (by unfold mF; simp only [mN_stI]; exact Nat.le_add_right _ _) (by unfold mF; simp only [mS_stI]; exact Nat.le_add_right _ _) ⟨ns, np, no, nl + 1, p, q, o, ?_⟩
      · have hg1 : glF (mI M (B + 5)) x y b 1 = mI M (B + 5) 1 + x := by
          unfold glF
          by_cases e : 0 < mI M (B + 5) 0 ∧ ¬ mI M (B + 5) 4 = bi b
          · simp [upd_ap, e]
          · simp only [upd_ap, if_neg e]
            rfl
        unfold CaP
        simp [lv_args, sStep, amStep, a_nx, a_ii, a_jj, a_ji, a_ld, a_st, a_if, a_ald, a_c1, a_c2, lkp, lput, lput2, lins, oP_none, oP_next, oP_call, oP_ret, oP_thr, outP_ite, aft_ret, aft_void, aft_thr, fHnd, List.isEmpty_nil, List.filter_cons, List.filter_nil, Value.category, csum, List.map_cons, List.map_nil, List.sum_cons, List.sum_nil, List.cons_append, List.nil_append, Option.toList, vp_nar_int, narrow_b1, narrow_b0, nc115, vc115, fc115, nc111, vc111, fc111, nc100, vc100, fc100, nc109, vc109, fc109, nc120, vc120, fc120, nc119, vc119, fc119, nc116, vc116, fc116, nc45, vc45, fc45, nc32, vc32, fc32, nc102, vc102, fc102, nc106, vc106, fc106, fin3, rf_some, rf_none, upd_ap, va_up_ap, nar_bi, fits_bi, nvp_bi, bi_t, bi_f, fval, fty, ftabs, wrv_0, wrv_1, wrv_2, wrv_3, wrv_5, mT_stI, mI_stI, mL_stI, mD_stI, mR_stI, mN_stI, mS_stI, mT_stL, mI_stL, mL_stL, mD_stL, mR_stL, mN_stL, mS_stL, mT_stD, mI_stD, mL_stD, mD_stD, mR_stD, mN_stD, mS_stD, mT_stR, mI_stR, mL_stR, mD_stR, mR_stR, mN_stR, mS_stR, mT_stN, mI_stN, mL_stN, mD_stN, mR_stN, mN_stN, mS_stN, e57_0, e57_1, e57_2, e57_4, e57_7, e57_10, e57_11, e57_12, e57_14, e57_17, e57_20, e57_30, e57_31, e57_34, e57_37, e57_38, e57_41, e57_51, e57_52, e57_55, e57_56, e57_57, e57_58, e57_61, e57_62, e57_65, e57_68, rt57, hn57, h0, tT0, tT1, tT2, tT3, tT4, tT5, tT6, tT7, tT8, tT9, tT10, tT11, tT12, tT13, tT14, tT15, tT16, tT17, tT18, tT19, tT20, tT21, tT22, tT23, tT24, tT25, tT26, tT27, tT28, tT29, tT30, tT31, tT32, tT33, tT34, tT35, tT36, tT37, tT38, tT39, tT40, tT41, tT42, tT43, tT44, tR0_0, tR0_6, tR0_7, tR0_8, tR0_9, tR0_11, tR0_12, tR0_14, tR2_0, tR2_1, tR6_0, tR9_0, tR9_1, tR14_0, tR14_1, tR14_2, tR14_3, tR14_4, tR14_5, tR14_6, tR14_7, tR14_8, tR14_9, tR14_10, tR14_11, tR14_12, tR14_13, tR14_14, tR14_15, tR14_16, tR14_17, tR14_18, tR14_19, tR14_20, tR14_21, tR14_22, tR14_23, tR14_24, tR14_25, tR14_26, tR14_27, ST_stI, ST_stL, ST_stD, cl87, sp87, hx2.1, hx2.2, bi_ne, b0, ne5' hl, nI_ge hl (by decide), cl4, sp4 h0, hg1]
      · have q1 : ∀ f r, ST B (oM B (stI M (B + 5) f) r) := fun _ _ => h0
        have qk : ∀ f k, k < 45 → ¬ k = 5 → (va_up (mI M) (B + 5) f) (B + k) = mI M (B + k) := fun f k hk h5 => by rw [va_up_ap, if_neg (by omega)]
        rw [sp130 (q1 _ _) (n := nl) hx (by simp only [mI_oM, mI_stI, qk _ 14 (by decide) (by decide)]; exact a7) hl]
        simp only [thr_cm (show ¬ 22 = 14 by decide), thr_cm (show ¬ 23 = 14 by decide), thr_cm (show ¬ 24 = 14 by decide), thr_mF (show ¬ 29 = 36 by decide), mI_oM, mI_stI, qk _ 22 (by decide) (by decide), qk _ 23 (by decide) (by decide), qk _ 24 (by decide) (by decide), oM_stI, ht]
        rfl
      · refine INV_set [1, 4] h (fun _ _ => rfl) (fun _ _ => rfl) (Nat.le_refl _) (fun a _ ha _ => ?_) (fun a _ ha => rfl) (Or.inr ⟨rfl, rfl⟩) (fun _ => ?_) (fun e => absurd e (by decide)) (fun e => absurd e (by decide)) (fun _ => ?_) (fun e => absurd e (by decide)) (fun e => absurd e (by decide)) (fun e => absurd e (by decide)) (fun e => absurd e (by decide))
        · have ha1 := ng ha (j := 1) rfl
          have ha4 := ng ha (j := 4) rfl
          exact (va_ne (gr_k (B := B) (k := 14) (T := mT M) (by decide)) ha1).trans ((va_ne (gr_k (B := B) (k := 24) (T := mT M) (by decide)) ha4).trans ((va_ne (gr_k (B := B) (k := 23) (T := mT M) (by decide)) ha4).trans ((va_ne (gr_k (B := B) (k := 22) (T := mT M) (by decide)) ha4).trans (va_ne (gr_k (B := B) (k := 5) (T := mT M) (by decide)) ha4))))
        · unfold D1
          simp [mF, mI_stI, va_up_ap, upd_ap, a1, a2, a3, a4, a5, a6, a9, a10, a11, a12]
          exact ⟨by omega, a10 ▸ a13, a11 ▸ a14⟩
        · have g0 : glF (mI M (B + 5)) x y b 0 = nI (nl + 1) := by
            unfold glF
            by_cases e : 0 < mI M (B + 5) 0 ∧ ¬ mI M (B + 5) 4 = bi b
            · simp [upd_ap, e, b0, nI_1]
            · simp [upd_ap, if_neg e, b0, nI_1]
          have g1 : glF (mI M (B + 5)) x y b 1 = mI M (B + 5) 1 + x := by
            unfold glF
            by_cases e : 0 < mI M (B + 5) 0 ∧ ¬ mI M (B + 5) 4 = bi b
            · simp [upd_ap, e]
            · simp [upd_ap, if_neg e]
          have g2 : glF (mI M (B + 5)) x y b 2 = mI M (B + 5) 2 + y := by
            unfold glF
            by_cases e : 0 < mI M (B + 5) 0 ∧ ¬ mI M (B + 5) 4 = bi b
            · simp [upd_ap, e]
            · simp [upd_ap, if_neg e]
          have g4 : glF (mI M (B + 5)) x y b 4 = bi b := by
            unfold glF
            simp [upd_ap]
          have g3 : glF (mI M (B + 5)) x y b 3 = if 0 < mI M (B + 5) 0 ∧ ¬ mI M (B + 5) 4 = bi b then mI M (B + 5) 3 + 1 else mI M (B + 5) 3 := by
            unfold glF
            by_cases e : 0 < mI M (B + 5) 0 ∧ ¬ mI M (B + 5) 4 = bi b
            · simp [upd_ap, e]
            · simp [upd_ap, if_neg e]
          unfold D4 mF
          simp only [mI_stI, va_up_ap, if_neg (show ¬ B + 5 = B + 14 by omega), if_neg (show ¬ B + 5 = B + 24 by omega), if_neg (show ¬ B + 5 = B + 23 by omega), if_neg (show ¬ B + 5 = B + 22 by omega), if_neg (show ¬ B + 22 = B + 14 by omega), if_neg (show ¬ B + 22 = B + 24 by omega), if_neg (show ¬ B + 22 = B + 23 by omega), if_neg (show ¬ B + 23 = B + 14 by omega), if_neg (show ¬ B + 23 = B + 24 by omega), if_neg (show ¬ B + 24 = B + 14 by omega), if_true]
          refine ⟨g0, by rw [g1, ht], by rw [g2, sumF_upd, b2], ?_, fun _ => ?_⟩
          · rw [g3, Nat.add_sub_cancel, b0]
            simp only [lt0 (show nl < 2 ^ 31 by omega)]
            cases nl with
            | zero => rw [if_neg (by omega), b3]; rfl
            | succ m =>
              have b4' := b4 (Nat.succ_pos m)
              rw [Nat.add_sub_cancel] at b3 b4'
              have e1 : snF (upd (mI M (B + 24)) (m + 1) (bi b)) m = snF (mI M (B + 24)) m := snF_ext m (fun k hk => by rw [upd_ap, if_neg (by omega)])
              show _ = snF (upd (mI M (B + 24)) (m + 1) (bi b)) m + (if upd (mI M (B + 24)) (m + 1) (bi b) (m + 1) = upd (mI M (B + 24)) (m + 1) (bi b) m then 0 else 1)
              rw [e1, upd_ap, if_pos rfl, upd_ap, if_neg (show ¬ m = m + 1 by omega), b3, b4']
              by_cases e : mI M (B + 24) m = bi b
              · rw [if_neg (fun h => h.2 e), if_pos e.symm, Int32.add_zero]
              · rw [if_pos ⟨by omega, e⟩, if_neg (fun h => e h.symm)]
          · rw [g4, Nat.add_sub_cancel, upd_ap, if_pos rfl]
    · have hn5 : nl = 5 := by omega
      refine go_th (GO_th h 1 2 0 (by simp) (fun Q => ?_) (fun h2 Q => ?_))
      · unfold CaP
        simp [lv_args, sStep, amStep, a_nx, a_ii, a_jj, a_ji, a_ld, a_st, a_if, a_ald, a_c1, a_c2, lkp, lput, lput2, lins, oP_none, oP_next, oP_call, oP_ret, oP_thr, outP_ite, aft_ret, aft_void, aft_thr, fHnd, List.isEmpty_nil, List.filter_cons, List.filter_nil, Value.category, csum, List.map_cons, List.map_nil, List.sum_cons, List.sum_nil, List.cons_append, List.nil_append, Option.toList, vp_nar_int, narrow_b1, narrow_b0, nc115, vc115, fc115, nc111, vc111, fc111, nc100, vc100, fc100, nc109, vc109, fc109, nc120, vc120, fc120, nc119, vc119, fc119, nc116, vc116, fc116, nc45, vc45, fc45, nc32, vc32, fc32, nc102, vc102, fc102, nc106, vc106, fc106, fin3, rf_some, rf_none, upd_ap, va_up_ap, nar_bi, fits_bi, nvp_bi, bi_t, bi_f, fval, fty, ftabs, wrv_0, wrv_1, wrv_2, wrv_3, wrv_5, mT_stI, mI_stI, mL_stI, mD_stI, mR_stI, mN_stI, mS_stI, mT_stL, mI_stL, mL_stL, mD_stL, mR_stL, mN_stL, mS_stL, mT_stD, mI_stD, mL_stD, mD_stD, mR_stD, mN_stD, mS_stD, mT_stR, mI_stR, mL_stR, mD_stR, mR_stR, mN_stR, mS_stR, mT_stN, mI_stN, mL_stN, mD_stN, mR_stN, mN_stN, mS_stN, e57_0, e57_1, e57_2, e57_4, e57_7, e57_10, e57_11, e57_12, e57_14, e57_17, e57_20, e57_30, e57_31, e57_34, e57_37, e57_38, e57_41, e57_51, e57_52, e57_55, e57_56, e57_57, e57_58, e57_61, e57_62, e57_65, e57_68, rt57, hn57, h0, tT0, tT1, tT2, tT3, tT4, tT5, tT6, tT7, tT8, tT9, tT10, tT11, tT12, tT13, tT14, tT15, tT16, tT17, tT18, tT19, tT20, tT21, tT22, tT23, tT24, tT25, tT26, tT27, tT28, tT29, tT30, tT31, tT32, tT33, tT34, tT35, tT36, tT37, tT38, tT39, tT40, tT41, tT42, tT43, tT44, tR0_0, tR0_6, tR0_7, tR0_8, tR0_9, tR0_11, tR0_12, tR0_14, tR2_0, tR2_1, tR6_0, tR9_0, tR9_1, tR14_0, tR14_1, tR14_2, tR14_3, tR14_4, tR14_5, tR14_6, tR14_7, tR14_8, tR14_9, tR14_10, tR14_11, tR14_12, tR14_13, tR14_14, tR14_15, tR14_16, tR14_17, tR14_18, tR14_19, tR14_20, tR14_21, tR14_22, tR14_23, tR14_24, tR14_25, tR14_26, tR14_27, ST_stI, ST_stL, ST_stD, cl87, sp87, hx2.1, hx2.2, bi_ne, b0, hn5, show (5 : Int32) ≤ nI 5 by decide, show ¬ nI 5 < (5 : Int32) by decide]
      · exact sp130y (INV_ST h2) hx (by rw [(iv_nl h2).1, hn5]; rfl)
  · refine go_th (GO_th h 0 1 0 (by simp) (fun Q => ?_) (fun h2 Q => sp130x (INV_ST h2) (nt hx)))
    unfold CaP
    cases e1 : inR x 1 20
    · simp [lv_args, sStep, amStep, a_nx, a_ii, a_jj, a_ji, a_ld, a_st, a_if, a_ald, a_c1, a_c2, lkp, lput, lput2, lins, oP_none, oP_next, oP_call, oP_ret, oP_thr, outP_ite, aft_ret, aft_void, aft_thr, fHnd, List.isEmpty_nil, List.filter_cons, List.filter_nil, Value.category, csum, List.map_cons, List.map_nil, List.sum_cons, List.sum_nil, List.cons_append, List.nil_append, Option.toList, vp_nar_int, narrow_b1, narrow_b0, nc115, vc115, fc115, nc111, vc111, fc111, nc100, vc100, fc100, nc109, vc109, fc109, nc120, vc120, fc120, nc119, vc119, fc119, nc116, vc116, fc116, nc45, vc45, fc45, nc32, vc32, fc32, nc102, vc102, fc102, nc106, vc106, fc106, fin3, rf_some, rf_none, upd_ap, va_up_ap, nar_bi, fits_bi, nvp_bi, bi_t, bi_f, fval, fty, ftabs, wrv_0, wrv_1, wrv_2, wrv_3, wrv_5, mT_stI, mI_stI, mL_stI, mD_stI, mR_stI, mN_stI, mS_stI, mT_stL, mI_stL, mL_stL, mD_stL, mR_stL, mN_stL, mS_stL, mT_stD, mI_stD, mL_stD, mD_stD, mR_stD, mN_stD, mS_stD, mT_stR, mI_stR, mL_stR, mD_stR, mR_stR, mN_stR, mS_stR, mT_stN, mI_stN, mL_stN, mD_stN, mR_stN, mN_stN, mS_stN, e57_0, e57_1, e57_2, e57_4, e57_7, e57_10, e57_11, e57_12, e57_14, e57_17, e57_20, e57_30, e57_31, e57_34, e57_37, e57_38, e57_41, e57_51, e57_52, e57_55, e57_56, e57_57, e57_58, e57_61, e57_62, e57_65, e57_68, rt57, hn57, h0, tT0, tT1, tT2, tT3, tT4, tT5, tT6, tT7, tT8, tT9, tT10, tT11, tT12, tT13, tT14, tT15, tT16, tT17, tT18, tT19, tT20, tT21, tT22, tT23, tT24, tT25, tT26, tT27, tT28, tT29, tT30, tT31, tT32, tT33, tT34, tT35, tT36, tT37, tT38, tT39, tT40, tT41, tT42, tT43, tT44, tR0_0, tR0_6, tR0_7, tR0_8, tR0_9, tR0_11, tR0_12, tR0_14, tR2_0, tR2_1, tR6_0, tR9_0, tR9_1, tR14_0, tR14_1, tR14_2, tR14_3, tR14_4, tR14_5, tR14_6, tR14_7, tR14_8, tR14_9, tR14_10, tR14_11, tR14_12, tR14_13, tR14_14, tR14_15, tR14_16, tR14_17, tR14_18, tR14_19, tR14_20, tR14_21, tR14_22, tR14_23, tR14_24, tR14_25, tR14_26, tR14_27, ST_stI, ST_stL, ST_stD, cl87, sp87, e1, bi]
    · cases e2 : inR y 0 60
      · simp [lv_args, sStep, amStep, a_nx, a_ii, a_jj, a_ji, a_ld, a_st, a_if, a_ald, a_c1, a_c2, lkp, lput, lput2, lins, oP_none, oP_next, oP_call, oP_ret, oP_thr, outP_ite, aft_ret, aft_void, aft_thr, fHnd, List.isEmpty_nil, List.filter_cons, List.filter_nil, Value.category, csum, List.map_cons, List.map_nil, List.sum_cons, List.sum_nil, List.cons_append, List.nil_append, Option.toList, vp_nar_int, narrow_b1, narrow_b0, nc115, vc115, fc115, nc111, vc111, fc111, nc100, vc100, fc100, nc109, vc109, fc109, nc120, vc120, fc120, nc119, vc119, fc119, nc116, vc116, fc116, nc45, vc45, fc45, nc32, vc32, fc32, nc102, vc102, fc102, nc106, vc106, fc106, fin3, rf_some, rf_none, upd_ap, va_up_ap, nar_bi, fits_bi, nvp_bi, bi_t, bi_f, fval, fty, ftabs, wrv_0, wrv_1, wrv_2, wrv_3, wrv_5, mT_stI, mI_stI, mL_stI, mD_stI, mR_stI, mN_stI, mS_stI, mT_stL, mI_stL, mL_stL, mD_stL, mR_stL, mN_stL, mS_stL, mT_stD, mI_stD, mL_stD, mD_stD, mR_stD, mN_stD, mS_stD, mT_stR, mI_stR, mL_stR, mD_stR, mR_stR, mN_stR, mS_stR, mT_stN, mI_stN, mL_stN, mD_stN, mR_stN, mN_stN, mS_stN, e57_0, e57_1, e57_2, e57_4, e57_7, e57_10, e57_11, e57_12, e57_14, e57_17, e57_20, e57_30, e57_31, e57_34, e57_37, e57_38, e57_41, e57_51, e57_52, e57_55, e57_56, e57_57, e57_58, e57_61, e57_62, e57_65, e57_68, rt57, hn57, h0, tT0, tT1, tT2, tT3, tT4, tT5, tT6, tT7, tT8, tT9, tT10, tT11, tT12, tT13, tT14, tT15, tT16, tT17, tT18, tT19, tT20, tT21, tT22, tT23, tT24, tT25, tT26, tT27, tT28, tT29, tT30, tT31, tT32, tT33, tT34, tT35, tT36, tT37, tT38, tT39, tT40, tT41, tT42, tT43, tT44, tR0_0, tR0_6, tR0_7, tR0_8, tR0_9, tR0_11, tR0_12, tR0_14, tR2_0, tR2_1, tR6_0, tR9_0, tR9_1, tR14_0, tR14_1, tR14_2, tR14_3, tR14_4, tR14_5, tR14_6, tR14_7, tR14_8, tR14_9, tR14_10, tR14_11, tR14_12, tR14_13, tR14_14, tR14_15, tR14_16, tR14_17, tR14_18, tR14_19, tR14_20, tR14_21, tR14_22, tR14_23, tR14_24, tR14_25, tR14_26, tR14_27, ST_stI, ST_stL, ST_stD, cl87, sp87, e1, e2, bi]
      · rw [e1, e2] at hx
        exact absurd rfl hx
/-- shuffles after each other -/
def itF (s : Nat → Nat) : Nat → Nat → Nat
  | 0, k => k
  | r + 1, k => itF s r (s k)
theorem it_lt {n : Nat} : ∀ r k, k < n → itF (sgF true n) r k < n := by
  intro r
  induction r with
  | zero => intro k hk; exact hk
  | succ r ih => intro k hk; exact ih _ (sg_lt hk)
theorem it_cg {n : Nat} : ∀ r k, k < n → itF (sgF true n) r k = itF (cgF true n) r k := by
  intro r
  induction r with
  | zero => intro k _; rfl
  | succ r ih =>
    intro k hk
    show itF (sgF true n) r (sgF true n k) = itF (cgF true n) r (cgF true n k)
    rw [ih _ (sg_lt hk), sg_cg hk]
theorem nw_it {n : Nat} {f : Nat → Int32} : ∀ r k, k < n → nwF n f r k = f (itF (sgF true n) r k) := by
  intro r
  induction r with
  | zero => intro k _; rfl
  | succ r ih =>
    intro k hk
    show cpF (nwF n f r) (fun k => nwF n f r (sgF true n k)) n k = f (itF (sgF true n) r (sgF true n k))
    rw [cpF_lt hk]
    exact ih _ (sg_lt hk)
theorem period_ex : ∀ n, n < 61 → (List.range 60).any (fun r => (List.range n).all (fun k => itF (cgF true n) (r + 1) k == k)) = true := by decide +kernel
theorem bk_it {n : Nat} {t P : Nat → Int32} {r : Nat} : bkF n (cpF t P n) P r = (decide (0 < r) && allB (fun k => decide (P (itF (sgF true n) r k) = P k)) n) := by
  unfold bkF
  congr 1
  have : ∀ m, m ≤ n → allB (fun k => decide (nwF n (cpF t P n) r k = P k)) m = allB (fun k => decide (P (itF (sgF true n) r k) = P k)) m := by
    intro m
    induction m with
    | zero => intro _; rfl
    | succ m ih =>
      intro hm
      show (allB _ m && decide (nwF n (cpF t P n) r m = P m)) = (allB _ m && decide (P (itF (sgF true n) r m) = P m))
      rw [ih (by omega), nw_it r m (by omega), cpF_lt (it_lt r m (by omega))]
  exact this n (Nat.le_refl n)
theorem least_ex {P : Nat → Bool} : ∀ r, P r = true → ∃ p, p ≤ r ∧ P p = true ∧ ∀ j, j < p → P j = false := by
  intro r
  induction r using Nat.strongRecOn with
  | ind r ih =>
    intro h
    by_cases hex : ∃ j, j < r ∧ P j = true
    · obtain ⟨j, hj, h2⟩ := hex
      obtain ⟨p, h3, h4, h5⟩ := ih j hj h2
      exact ⟨p, by omega, h4, h5⟩
    · exact ⟨r, Nat.le_refl r, h, fun j hj => by cases e : P j; rfl; exact absurd ⟨j, hj, e⟩ hex⟩
theorem per_ex {n : Nat} (hn : n ≤ 60) (P : Nat → Int32) : ∃ r, 0 < r ∧ r ≤ 60 ∧ (decide (0 < r) && allB (fun k => decide (P (itF (sgF true n) r k) = P k)) n) = true ∧ ∀ j, j < r → (decide (0 < j) && allB (fun k => decide (P (itF (sgF true n) j k) = P k)) n) = false := by
  obtain ⟨r0, h1, h2⟩ := List.any_eq_true.mp (period_ex n (by omega))
  rw [List.mem_range] at h1
  rw [List.all_eq_true] at h2
  have h3 : (decide (0 < r0 + 1) && allB (fun k => decide (P (itF (sgF true n) (r0 + 1) k) = P k)) n) = true := by
    rw [Bool.and_eq_true]
    refine ⟨by simp, allB_iff.mpr fun k hk => ?_⟩
    have := h2 k (List.mem_range.mpr hk)
    rw [beq_iff_eq] at this
    rw [it_cg _ k hk, this]
    simp
  obtain ⟨p, h4, h5, h6⟩ := least_ex (P := fun r => decide (0 < r) && allB (fun k => decide (P (itF (sgF true n) r k) = P k)) n) (r0 + 1) h3
  refine ⟨p, ?_, by omega, h5, h6⟩
  simp only [Bool.and_eq_true, decide_eq_true_eq] at h5
  exact h5.1
