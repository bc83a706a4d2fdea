/-! ===== period, print ===== -/
theorem op32 {B s L : Nat} {M : AMem} {ns np no nl : Nat} {p q o : Nat → Nat} (h : INV B s L M ns np no nl p q o) (x : Int32) : GO B s L 76 155 [.int x] [(2, 1)] M := by
  have h0 := INV_ST h
  have hsB := h.1.1.2.1
  have hN := ad_N h.1
  by_cases hx : inR x 0 (nI np - 1) = true
  · obtain ⟨i, hi, rfl⟩ := in_ix (iv_np h).2 (by decide) hx
    obtain ⟨h6, hr, hs⟩ := iv_rp h hi
    obtain ⟨lo, hi2⟩ := q_lo h hi
    obtain ⟨n, Kd, c1, c2, c3, c4, ⟨c5, c5'⟩, ⟨c6, c6'⟩, c7, ⟨c8, c8'⟩, c9, c10, c11⟩ := iv_PD h hi
    have hn60 := c1.1
    obtain ⟨r, r1, r2, r3, r4⟩ := per_ex hn60 (mI M (q i + 1))
    have e41 := fun Q => @sp41 (q i + 1) n r B M Q h0 (pk1 hs) (by omega) (by omega) hn60 r1 (by omega) (by rw [bk_it]; exact r3) (fun j hj => by rw [bk_it]; exact r4 j hj)
    generalize ldF n (cpF (mI M (B + 11)) (mI M (q i + 1)) n) (mI M (B + 10)) r = z1 at e41
    generalize nwF n (cpF (mI M (B + 11)) (mI M (q i + 1)) n) r = z2 at e41
    have pe : ∀ j, (decide (0 < j) && allB (fun k => decide (mI M (q i + 1) (itF (sgF true n) j k) = mI M (q i + 1) k)) n) = (decide (0 < j) && allB (fun k => decide (mI M (B + 28) (60 * i + itF (sgF true n) j k) = mI M (B + 28) (60 * i + k))) n) := by
      intro j
      congr 1
      have : ∀ m, m ≤ n → allB (fun k => decide (mI M (q i + 1) (itF (sgF true n) j k) = mI M (q i + 1) k)) m = allB (fun k => decide (mI M (B + 28) (60 * i + itF (sgF true n) j k) = mI M (B + 28) (60 * i + k))) m := by
        intro m
        induction m with
        | zero => intro _; rfl
        | succ m ih =>
          intro hm
          show (allB _ m && decide (mI M (q i + 1) (itF (sgF true n) j m) = mI M (q i + 1) m)) = (allB _ m && decide (mI M (B + 28) (60 * i + itF (sgF true n) j m) = mI M (B + 28) (60 * i + m)))
          have := @it_lt n j m (by omega)
          rw [ih (by omega), c8 _ (by omega), c8 m (by omega)]
      exact this n (Nat.le_refl n)
    have hX : ST B (oM B (stI (stI M (B + 10) z1) (B + 11) z2) (nI r)) := h0
    have qk : ∀ k, k < 45 → ¬ k = 10 → ¬ k = 11 → mI (oM B (stI (stI M (B + 10) z1) (B + 11) z2) (nI r)) (B + k) = mI M (B + k) := fun k hk h1 h2 => by rw [mI_oM, mI_stI, va_up_ap, if_neg (by omega), mI_stI, va_up_ap, if_neg (by omega)]
    have q28 := qk 28 (by decide) (by decide) (by decide)
    obtain ⟨z3, z4, hm⟩ : ∃ z3 z4, ∀ Q, CaP 155 [.ref (B + 14), .int (nI i)] (oM B (stI (stI M (B + 10) z1) (B + 11) z2) (nI r)) Q = Q (thr B (stI (stI (oM B (stI (stI M (B + 10) z1) (B + 11) z2) (nI r)) (B + 30) z3) (B + 31) z4) 0, .inl (some (.int (nI r)))) := by
      generalize oM B (stI (stI M (B + 10) z1) (B + 11) z2) (nI r) = X at hX qk q28
      refine ⟨nwF n (cpF (mI X (B + 30)) (fun k => mI X (B + 28) (60 * i + k)) n) r, thF n (cpF (mI X (B + 30)) (fun k => mI X (B + 28) (60 * i + k)) n) (mI X (B + 31)) r, fun Q => ?_⟩
      rw [sp155 hX h6 (n := n) (p := r) (by rw [qk 32 (by decide) (by decide) (by decide)]; exact c2.2) hn60 (by rw [qk 14 (by decide) (by decide) (by decide)]; exact iv_ix (iv_np h).1 hx) (by omega) (by rw [bk_it, q28, ← pe]; exact r3) (fun j hj => by rw [bk_it, q28, ← pe]; exact r4 j hj)]
      rw [thr_cm (show ¬ 30 = 14 by decide), thr_cm (show ¬ 31 = 14 by decide)]
    refine go_w5 (M1 := stI (stI M (B + 10) z1) (B + 11) z2) (M5 := stI (stI (stI (stI M (B + 10) z1) (B + 11) z2) (B + 30) z3) (B + 31) z4) (r := nI r) hsB (fun Q => ?_) (SK_Bk (SK_Bk (SK_rf h0) hsB) hsB) (fun Q => by rw [hm]; simp only [oM_stI]) (SK_Bk (SK_Bk (SK_Bk (SK_Bk (SK_rf h0) hsB) hsB) hsB) hsB) (by simp only [mN_stI]; exact Nat.le_add_right _ _) (by simp only [mS_stI]; exact Nat.le_add_right _ _) ⟨ns, np, no, nl, p, q, o, INV_ptw h (by simp only [mT_stI]) (by simp only [mR_stI]) (by simp only [mN_stI]) (by simp only [mL_stI]) (fun a ha => ?_)⟩
    · unfold CaP
      simp [lv_args, sStep, amStep, a_nx, a_ii, a_jj, a_ji, a_ld, a_st, a_if, a_ald, a_c1, a_c2, lkp, lput, lput2, lins, oP_none, oP_next, oP_call, oP_ret, oP_thr, outP_ite, aft_ret, aft_void, aft_thr, fHnd, List.isEmpty_nil, List.filter_cons, List.filter_nil, Value.category, csum, List.map_cons, List.map_nil, List.sum_cons, List.sum_nil, List.cons_append, List.nil_append, Option.toList, vp_nar_int, narrow_b1, narrow_b0, nc115, vc115, fc115, nc111, vc111, fc111, nc100, vc100, fc100, nc109, vc109, fc109, nc120, vc120, fc120, nc119, vc119, fc119, nc116, vc116, fc116, nc45, vc45, fc45, nc32, vc32, fc32, nc102, vc102, fc102, nc106, vc106, fc106, fin3, rf_some, rf_none, upd_ap, va_up_ap, nar_bi, fits_bi, nvp_bi, bi_t, bi_f, fval, fty, ftabs, wrv_0, wrv_1, wrv_2, wrv_3, wrv_5, mT_stI, mI_stI, mL_stI, mD_stI, mR_stI, mN_stI, mS_stI, mT_stL, mI_stL, mL_stL, mD_stL, mR_stL, mN_stL, mS_stL, mT_stD, mI_stD, mL_stD, mD_stD, mR_stD, mN_stD, mS_stD, mT_stR, mI_stR, mL_stR, mD_stR, mR_stR, mN_stR, mS_stR, mT_stN, mI_stN, mL_stN, mD_stN, mR_stN, mN_stN, mS_stN, e76_0, e76_1, e76_2, e76_5, e76_6, e76_7, e76_10, e76_11, e76_14, e76_15, e76_18, e76_21, rt76, hn76, h0, tT0, tT1, tT2, tT3, tT4, tT5, tT6, tT7, tT8, tT9, tT10, tT11, tT12, tT13, tT14, tT15, tT16, tT17, tT18, tT19, tT20, tT21, tT22, tT23, tT24, tT25, tT26, tT27, tT28, tT29, tT30, tT31, tT32, tT33, tT34, tT35, tT36, tT37, tT38, tT39, tT40, tT41, tT42, tT43, tT44, tR0_0, tR0_6, tR0_7, tR0_8, tR0_9, tR0_11, tR0_12, tR0_14, tR2_0, tR2_1, tR6_0, tR9_0, tR9_1, tR14_0, tR14_1, tR14_2, tR14_3, tR14_4, tR14_5, tR14_6, tR14_7, tR14_8, tR14_9, tR14_10, tR14_11, tR14_12, tR14_13, tR14_14, tR14_15, tR14_16, tR14_17, tR14_18, tR14_19, tR14_20, tR14_21, tR14_22, tR14_23, tR14_24, tR14_25, tR14_26, tR14_27, ST_stI, ST_stL, ST_stD, cl98, sp98 h0 h6 hr, pk0 hs, pk3 hs, c2.1, cl41, e41]
    · have g : ∀ k, k < 45 → gtab.getD k 9 = 9 → ¬ a = B + k := fun k hk h9 e => ha (by rw [e, gr_k hk, h9])
      simp only [mI_stI, va_up_ap, if_neg (g 10 (by decide) rfl), if_neg (g 11 (by decide) rfl), if_neg (g 30 (by decide) rfl), if_neg (g 31 (by decide) rfl)]
  · exact go_th (GO_th h 2 1 0 (by simp) (fun Q => by unfold CaP; simp [lv_args, sStep, amStep, a_nx, a_ii, a_jj, a_ji, a_ld, a_st, a_if, a_ald, a_c1, a_c2, lkp, lput, lput2, lins, oP_none, oP_next, oP_call, oP_ret, oP_thr, outP_ite, aft_ret, aft_void, aft_thr, fHnd, List.isEmpty_nil, List.filter_cons, List.filter_nil, Value.category, csum, List.map_cons, List.map_nil, List.sum_cons, List.sum_nil, List.cons_append, List.nil_append, Option.toList, vp_nar_int, narrow_b1, narrow_b0, nc115, vc115, fc115, nc111, vc111, fc111, nc100, vc100, fc100, nc109, vc109, fc109, nc120, vc120, fc120, nc119, vc119, fc119, nc116, vc116, fc116, nc45, vc45, fc45, nc32, vc32, fc32, nc102, vc102, fc102, nc106, vc106, fc106, fin3, rf_some, rf_none, upd_ap, va_up_ap, nar_bi, fits_bi, nvp_bi, bi_t, bi_f, fval, fty, ftabs, wrv_0, wrv_1, wrv_2, wrv_3, wrv_5, mT_stI, mI_stI, mL_stI, mD_stI, mR_stI, mN_stI, mS_stI, mT_stL, mI_stL, mL_stL, mD_stL, mR_stL, mN_stL, mS_stL, mT_stD, mI_stD, mL_stD, mD_stD, mR_stD, mN_stD, mS_stD, mT_stR, mI_stR, mL_stR, mD_stR, mR_stR, mN_stR, mS_stR, mT_stN, mI_stN, mL_stN, mD_stN, mR_stN, mN_stN, mS_stN, e76_0, e76_1, e76_2, e76_5, e76_6, e76_7, e76_10, e76_11, e76_14, e76_15, e76_18, e76_21, rt76, hn76, h0, tT0, tT1, tT2, tT3, tT4, tT5, tT6, tT7, tT8, tT9, tT10, tT11, tT12, tT13, tT14, tT15, tT16, tT17, tT18, tT19, tT20, tT21, tT22, tT23, tT24, tT25, tT26, tT27, tT28, tT29, tT30, tT31, tT32, tT33, tT34, tT35, tT36, tT37, tT38, tT39, tT40, tT41, tT42, tT43, tT44, tR0_0, tR0_6, tR0_7, tR0_8, tR0_9, tR0_11, tR0_12, tR0_14, tR2_0, tR2_1, tR6_0, tR9_0, tR9_1, tR14_0, tR14_1, tR14_2, tR14_3, tR14_4, tR14_5, tR14_6, tR14_7, tR14_8, tR14_9, tR14_10, tR14_11, tR14_12, tR14_13, tR14_14, tR14_15, tR14_16, tR14_17, tR14_18, tR14_19, tR14_20, tR14_21, tR14_22, tR14_23, tR14_24, tR14_25, tR14_26, tR14_27, ST_stI, ST_stL, ST_stD, cl98, s98x h (nt hx)]) (fun h2 Q => sp155x (INV_ST h2) (by rw [(iv_np h2).1]; exact nt hx)))
