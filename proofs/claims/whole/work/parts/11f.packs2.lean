/-! ===== calls on one pack, continued ===== -/
theorem iv_nq {B s L : Nat} {M : AMem} {ns np no nl : Nat} {p q o : Nat → Nat} (h : INV B s L M ns np no nl p q o) {i : Nat} (hi : i < np) : (∀ k, k < 45 → ¬ B + k = q i) ∧ (∀ k, k < 45 → ¬ q i = B + k) := by
  have := q_lo h hi
  exact ⟨fun k hk => by omega, fun k hk => by omega⟩
theorem thr_thr {B : Nat} {M : AMem} {w w' : Int32} : thr B (thr B M w) w' = thr B M w' := by
  unfold thr
  simp only [stI_stI, mI_stI, va_up_ap, if_true, upd_upd]
theorem oM_stI {B a : Nat} {M : AMem} {f : Nat → Int32} {r : Int32} : stI (oM B M r) a f = oM B (stI M a f) r := rfl
/-- thrown, with counts left behind -/
theorem GO_ts {B s L c m x : Nat} {as : List Value} {th : List (Nat × Int32)} {M : AMem} {ns np no nl : Nat} {p q o : Nat → Nat} (h : INV B s L M ns np no nl p q o) (E : Nat) (w v : Int32) (he : (E, w) ∈ th) (hx : gr B (mT M) (B + x) = 9) (hx4 : x < 45) (h1 : ∀ Q, CaP c (.ref B :: as) M Q = Q (stN M 0 0 6, .inr E)) (h2 : INV B s L (stN M 0 0 6) ns np no nl p q o → ∃ z, ∀ Q, CaP m (.ref (B + 14) :: as) (stN M 0 0 6) Q = Q (thr B (stI (stN M 0 0 6) (B + x) z) w, .inl (some (.int v)))) : ∃ M2, CS B s L M M2 ∧ ∃ e ∈ th, Pth B s c m as M M2 e.1 e.2 := by
  have i2 := @INV_stN B s L 0 0 6 M ns np no nl p q o h
  have hs := h.1.1.2.1
  have hN := ad_N h.1
  have k1 : SK B s M (stN M 0 0 6) := SK_stN h
  obtain ⟨z, h2⟩ := h2 i2
  have hx' : gr B (mT (stN M 0 0 6)) (B + x) = 9 := by
    rw [gr_k hx4] at hx ⊢
    exact hx
  exact ⟨_, ⟨⟨ns, np, no, nl, p, q, o, INV_thr (INV_sc i2 hx')⟩, Nat.le_trans (Nat.le_of_eq (show _ = mN M + 1 from rfl)) (by omega), Nat.le_trans (Nat.le_of_eq (show _ = mS M + 6 from rfl)) (by omega)⟩, (E, w), he, _, v, h1, k1, h2, SK_thr (SK_stI k1 (by omega)) hs, thr_36⟩
theorem op33 {B s L : Nat} {M : AMem} {ns np no nl : Nat} {p q o : Nat → Nat} (h : INV B s L M ns np no nl p q o) (x : Int32) : GO B s L 77 156 [.int x] [(2, 1), (3, 2)] M := by
  have h0 := INV_ST h
  have hsB := h.1.1.2.1
  have hN := ad_N h.1
  by_cases hx : inR x 0 (nI np - 1) = true
  · obtain ⟨i, hi, rfl⟩ := in_ix (iv_np h).2 (by decide) hx
    obtain ⟨h6, hr, hs⟩ := iv_rp h hi
    obtain ⟨lo, hi2⟩ := q_lo h hi
    obtain ⟨u1, u2⟩ := iv_nq h hi
    have hP := iv_PD h hi
    obtain ⟨n, Kd, c1, c2, c3, c4, ⟨c5, c5'⟩, ⟨c6, c6'⟩, c7, ⟨c8, c8'⟩, c9, c10, c11⟩ := hP
    by_cases h5 : mI M (B + 26) i = 100
    · refine go_th (GO_th h 3 2 0 (by simp) (fun Q => ?_) (fun h2 Q => ?_))
      · unfold CaP
        simp [lv_args, sStep, amStep, a_nx, a_ii, a_jj, a_ji, a_ld, a_st, a_if, a_ald, a_c1, a_c2, lkp, lput, lput2, lins, oP_none, oP_next, oP_call, oP_ret, oP_thr, outP_ite, aft_ret, aft_void, aft_thr, fHnd, List.isEmpty_nil, List.filter_cons, List.filter_nil, Value.category, csum, List.map_cons, List.map_nil, List.sum_cons, List.sum_nil, List.cons_append, List.nil_append, Option.toList, vp_nar_int, narrow_b1, narrow_b0, nc115, vc115, fc115, nc111, vc111, fc111, nc100, vc100, fc100, nc109, vc109, fc109, nc120, vc120, fc120, nc119, vc119, fc119, nc116, vc116, fc116, nc45, vc45, fc45, nc32, vc32, fc32, nc102, vc102, fc102, nc106, vc106, fc106, fin3, rf_some, rf_none, upd_ap, va_up_ap, nar_bi, fits_bi, nvp_bi, bi_t, bi_f, fval, fty, ftabs, wrv_0, wrv_1, wrv_2, wrv_3, wrv_5, mT_stI, mI_stI, mL_stI, mD_stI, mR_stI, mN_stI, mS_stI, mT_stL, mI_stL, mL_stL, mD_stL, mR_stL, mN_stL, mS_stL, mT_stD, mI_stD, mL_stD, mD_stD, mR_stD, mN_stD, mS_stD, mT_stR, mI_stR, mL_stR, mD_stR, mR_stR, mN_stR, mS_stR, mT_stN, mI_stN, mL_stN, mD_stN, mR_stN, mN_stN, mS_stN, e77_0, e77_1, e77_2, e77_5, e77_6, e77_7, e77_10, e77_12, e77_15, e77_26, e77_27, e77_29, e77_32, e77_33, e77_36, rt77, hn77, h0, tT0, tT1, tT2, tT3, tT4, tT5, tT6, tT7, tT8, tT9, tT10, tT11, tT12, tT13, tT14, tT15, tT16, tT17, tT18, tT19, tT20, tT21, tT22, tT23, tT24, tT25, tT26, tT27, tT28, tT29, tT30, tT31, tT32, tT33, tT34, tT35, tT36, tT37, tT38, tT39, tT40, tT41, tT42, tT43, tT44, tR0_0, tR0_6, tR0_7, tR0_8, tR0_9, tR0_11, tR0_12, tR0_14, tR2_0, tR2_1, tR6_0, tR9_0, tR9_1, tR14_0, tR14_1, tR14_2, tR14_3, tR14_4, tR14_5, tR14_6, tR14_7, tR14_8, tR14_9, tR14_10, tR14_11, tR14_12, tR14_13, tR14_14, tR14_15, tR14_16, tR14_17, tR14_18, tR14_19, tR14_20, tR14_21, tR14_22, tR14_23, tR14_24, tR14_25, tR14_26, tR14_27, ST_stI, ST_stL, ST_stD, cl98, sp98 h0 h6 hr, pk0 hs, c5, h5]
      · refine sp156y (INV_ST h2) h6 (iv_ix (iv_np h2).1 hx) ?_
        rw [mI_stN, va_up_ap, if_neg (by omega)]
        exact h5
    · have hct : ctF (fun j => decide (j < np) && decide (mI (stI M (q i) (upd (mI M (q i)) 5 100)) (q j) 5 = 100)) 12 = ctF (fun k => decide (upd (mI M (B + 26)) i 100 k = 100)) np := by
        rw [ctF_cut (iv_np h).2 (fun c h1 h2 => by simp [show ¬ c < np by omega])]
        refine ctF_ext (fun c hc => ?_)
        by_cases e : c = i
        · subst e
          simp [mI_stI, va_up_ap, upd_ap, hc]
        · obtain ⟨_, _, _, _, _, _, ⟨d5, _⟩, _⟩ := iv_PD h hc
          simp [mI_stI, va_up_ap, upd_ap, hc, e, (q_ne h hi hc e).1, d5]
      refine go_w5 (M1 := stI M (q i) (upd (mI M (q i)) 5 100)) (M5 := stI (stI M (q i) (upd (mI M (q i)) 5 100)) (B + 26) (upd (mI M (B + 26)) i 100)) (r := nI (ctF (fun k => decide (upd (mI M (B + 26)) i 100 k = 100)) np)) hsB (fun Q => ?_) (SK_stI (SK_rf h0) (by omega)) (fun Q => ?_) (SK_Bk (SK_stI (SK_rf h0) (by omega)) hsB) (Nat.le_add_right (mN M) 8) (Nat.le_add_right (mS M) 400) ?_
      · have q2 : ST B (stI M (q i) (upd (mI M (q i)) 5 100)) := h0
        have e99 := fun Q => @sp99 B np q _ Q q2 h.1.2.1.2.1 (fun j hj => pk0 (iv_rp h hj).2.2)
        rw [hct] at e99
        unfold CaP
        simp [lv_args, sStep, amStep, a_nx, a_ii, a_jj, a_ji, a_ld, a_st, a_if, a_ald, a_c1, a_c2, lkp, lput, lput2, lins, oP_none, oP_next, oP_call, oP_ret, oP_thr, outP_ite, aft_ret, aft_void, aft_thr, fHnd, List.isEmpty_nil, List.filter_cons, List.filter_nil, Value.category, csum, List.map_cons, List.map_nil, List.sum_cons, List.sum_nil, List.cons_append, List.nil_append, Option.toList, vp_nar_int, narrow_b1, narrow_b0, nc115, vc115, fc115, nc111, vc111, fc111, nc100, vc100, fc100, nc109, vc109, fc109, nc120, vc120, fc120, nc119, vc119, fc119, nc116, vc116, fc116, nc45, vc45, fc45, nc32, vc32, fc32, nc102, vc102, fc102, nc106, vc106, fc106, fin3, rf_some, rf_none, upd_ap, va_up_ap, nar_bi, fits_bi, nvp_bi, bi_t, bi_f, fval, fty, ftabs, wrv_0, wrv_1, wrv_2, wrv_3, wrv_5, mT_stI, mI_stI, mL_stI, mD_stI, mR_stI, mN_stI, mS_stI, mT_stL, mI_stL, mL_stL, mD_stL, mR_stL, mN_stL, mS_stL, mT_stD, mI_stD, mL_stD, mD_stD, mR_stD, mN_stD, mS_stD, mT_stR, mI_stR, mL_stR, mD_stR, mR_stR, mN_stR, mS_stR, mT_stN, mI_stN, mL_stN, mD_stN, mR_stN, mN_stN, mS_stN, e77_0, e77_1, e77_2, e77_5, e77_6, e77_7, e77_10, e77_12, e77_15, e77_26, e77_27, e77_29, e77_32, e77_33, e77_36, rt77, hn77, h0, tT0, tT1, tT2, tT3, tT4, tT5, tT6, tT7, tT8, tT9, tT10, tT11, tT12, tT13, tT14, tT15, tT16, tT17, tT18, tT19, tT20, tT21, tT22, tT23, tT24, tT25, tT26, tT27, tT28, tT29, tT30, tT31, tT32, tT33, tT34, tT35, tT36, tT37, tT38, tT39, tT40, tT41, tT42, tT43, tT44, tR0_0, tR0_6, tR0_7, tR0_8, tR0_9, tR0_11, tR0_12, tR0_14, tR2_0, tR2_1, tR6_0, tR9_0, tR9_1, tR14_0, tR14_1, tR14_2, tR14_3, tR14_4, tR14_5, tR14_6, tR14_7, tR14_8, tR14_9, tR14_10, tR14_11, tR14_12, tR14_13, tR14_14, tR14_15, tR14_16, tR14_17, tR14_18, tR14_19, tR14_20, tR14_21, tR14_22, tR14_23, tR14_24, tR14_25, tR14_26, tR14_27, ST_stI, ST_stL, ST_stD, cl98, sp98 h0 h6 hr, pk0 hs, c5, h5, wr100, cl99, e99]
      · have q1 : ∀ f r, ST B (oM B (stI M (q i) f) r) := fun _ _ => h0
        have q30 : ∀ f, (va_up (mI M) (q i) f) (B + 14) = mI M (B + 14) := fun f => by rw [va_up_ap, if_neg (by omega)]
        rw [sp156 (q1 _ _) h6 (np := np) (by simp only [mI_oM, mI_stI, q30]; exact (iv_np h).1) (iv_np h).2 (by simp only [mI_oM, mI_stI, q30]; exact iv_ix (iv_np h).1 hx) (by simp only [mI_oM, mI_stI, va_up_ap, if_neg (show ¬ B + 26 = q i by omega)]; exact h5), thr_cm (by decide)]
        simp only [mI_oM, mI_stI, va_up_ap, if_neg (show ¬ B + 26 = q i by omega)]
        rfl
      · refine ⟨ns, np, no, nl, p, q, o, INV_6 h hi rfl rfl rfl rfl (fun a _ ha ha9 => ?_) ?_ (fun j hj hji => ?_) (fun j hj => ?_) (fun j hj => ?_) (fun j hj k hk => ?_) (fun j hj => ?_) (fun j hj => ?_) (fun j hj => ?_) (fun j hj => ?_) (fun j hj => ?_)⟩
        · exact ((va_ne (gr_k (B := B) (k := 26) (T := mT M) (by decide)) ha).trans (va_ne (ad_q h.1 hi).1.2 ha))
        · refine ⟨n, Kd, c1, ?_, ?_, ?_, ?_, ?_, ?_, ?_, ?_, ?_, ?_⟩ <;> simp [mI_stI, mL_stI, va_up_ap, upd_ap, u1, u2, c2, c3, c4, c6, c7]
          · exact c6'
          · exact ⟨c8, c8'⟩
          · exact c10
        · obtain ⟨n1, n2, n3, n4⟩ := q_ne h hi hj hji
          obtain ⟨v1, v2⟩ := iv_nq h hj
          simp [mI_stI, va_up_ap, n1, n2, n3, n4, v1, v2]
        all_goals simp [mI_stI, mL_stI, va_up_ap, upd_ap, u1, u2, hj]
  · exact go_th (GO_th h 2 1 0 (by simp) (fun Q => by unfold CaP; simp [lv_args, sStep, amStep, a_nx, a_ii, a_jj, a_ji, a_ld, a_st, a_if, a_ald, a_c1, a_c2, lkp, lput, lput2, lins, oP_none, oP_next, oP_call, oP_ret, oP_thr, outP_ite, aft_ret, aft_void, aft_thr, fHnd, List.isEmpty_nil, List.filter_cons, List.filter_nil, Value.category, csum, List.map_cons, List.map_nil, List.sum_cons, List.sum_nil, List.cons_append, List.nil_append, Option.toList, vp_nar_int, narrow_b1, narrow_b0, nc115, vc115, fc115, nc111, vc111, fc111, nc100, vc100, fc100, nc109, vc109, fc109, nc120, vc120, fc120, nc119, vc119, fc119, nc116, vc116, fc116, nc45, vc45, fc45, nc32, vc32, fc32, nc102, vc102, fc102, nc106, vc106, fc106, fin3, rf_some, rf_none, upd_ap, va_up_ap, nar_bi, fits_bi, nvp_bi, bi_t, bi_f, fval, fty, ftabs, wrv_0, wrv_1, wrv_2, wrv_3, wrv_5, mT_stI, mI_stI, mL_stI, mD_stI, mR_stI, mN_stI, mS_stI, mT_stL, mI_stL, mL_stL, mD_stL, mR_stL, mN_stL, mS_stL, mT_stD, mI_stD, mL_stD, mD_stD, mR_stD, mN_stD, mS_stD, mT_stR, mI_stR, mL_stR, mD_stR, mR_stR, mN_stR, mS_stR, mT_stN, mI_stN, mL_stN, mD_stN, mR_stN, mN_stN, mS_stN, e77_0, e77_1, e77_2, e77_5, e77_6, e77_7, e77_10, e77_12, e77_15, e77_26, e77_27, e77_29, e77_32, e77_33, e77_36, rt77, hn77, h0, tT0, tT1, tT2, tT3, tT4, tT5, tT6, tT7, tT8, tT9, tT10, tT11, tT12, tT13, tT14, tT15, tT16, tT17, tT18, tT19, tT20, tT21, tT22, tT23, tT24, tT25, tT26, tT27, tT28, tT29, tT30, tT31, tT32, tT33, tT34, tT35, tT36, tT37, tT38, tT39, tT40, tT41, tT42, tT43, tT44, tR0_0, tR0_6, tR0_7, tR0_8, tR0_9, tR0_11, tR0_12, tR0_14, tR2_0, tR2_1, tR6_0, tR9_0, tR9_1, tR14_0, tR14_1, tR14_2, tR14_3, tR14_4, tR14_5, tR14_6, tR14_7, tR14_8, tR14_9, tR14_10, tR14_11, tR14_12, tR14_13, tR14_14, tR14_15, tR14_16, tR14_17, tR14_18, tR14_19, tR14_20, tR14_21, tR14_22, tR14_23, tR14_24, tR14_25, tR14_26, tR14_27, ST_stI, ST_stL, ST_stD, cl98, s98x h (nt hx)]) (fun h2 Q => sp156x (INV_ST h2) (by rw [(iv_np h2).1]; exact nt hx)))
