/-! ===== calls on one pack: take, add, shuffle, cut ===== -/
theorem shF_rel {F G : Nat → Int32} {i j m k : Nat} (h : ∀ k, k < 60 → F k = G (60 * i + k)) (hm : m < 60) (hk : k < 60) : shF F j (m - j) k = shF G (60 * i + j) (m - j) (60 * i + k) := by
  unfold shF
  by_cases e : j ≤ k ∧ k < j + (m - j)
  · rw [if_pos e, if_pos (by omega), h (k + 1) (by omega)]
    rfl
  · rw [if_neg e, if_neg (by omega), h k hk]
theorem shF_in {F : Nat → Int32} {j m : Nat} (h : ∀ k, k < m + 1 → ∃ d, d < 54 ∧ F k = nI d) : ∀ k, k < m → ∃ d, d < 54 ∧ shF F j (m - j) k = nI d := by
  intro k hk
  unfold shF
  by_cases e : j ≤ k ∧ k < j + (m - j)
  · rw [if_pos e]; exact h (k + 1) (by omega)
  · rw [if_neg e]; exact h k (by omega)
theorem shF_out {G : Nat → Int32} {i j m k i' : Nat} (hm : m < 60) (hk : k < 60) (hi : ¬ i' = i) : shF G (60 * i + j) (m - j) (60 * i' + k) = G (60 * i' + k) := by
  unfold shF
  rw [if_neg]
  rintro ⟨h1, h2⟩
  rcases Nat.lt_or_gt_of_ne hi with h3 | h3
  · omega
  · omega
theorem updb_out {G : Nat → Int32} {i n k i' : Nat} {c : Int32} (hn : n < 60) (hk : k < 60) (hi : ¬ i' = i) : upd G (60 * i + n) c (60 * i' + k) = G (60 * i' + k) := by
  rw [upd_ap, if_neg]
  intro h
  omega
theorem cpO_out {G g : Nat → Int32} {i n k i' : Nat} (hn : n ≤ 60) (hk : k < 60) (hi : ¬ i' = i) : cpO G (60 * i) g n (60 * i' + k) = G (60 * i' + k) := by
  unfold cpO
  rw [if_neg]
  rintro ⟨h1, h2⟩
  rcases Nat.lt_or_gt_of_ne hi with h3 | h3
  · omega
  · omega
theorem cpO_rel {F G g g' : Nat → Int32} {i n k : Nat} (h : ∀ k, k < 60 → F k = G (60 * i + k)) (hg : ∀ k, k < n → g k = g' k) (hk : k < 60) : cpF F g n k = cpO G (60 * i) g' n (60 * i + k) := by
  unfold cpF cpO
  by_cases e : k < n
  · rw [if_pos e, if_pos (by omega), hg k e, Nat.add_sub_cancel_left]
  · rw [if_neg e, if_neg (by omega), h k hk]
theorem cpF_in {F g : Nat → Int32} {n : Nat} (h : ∀ k, k < n → ∃ d, d < 54 ∧ g k = nI d) : ∀ k, k < n → ∃ d, d < 54 ∧ cpF F g n k = nI d := by
  intro k hk
  rw [cpF_lt hk]
  exact h k hk
theorem inb0 : inb 0 60 = true := by decide
theorem thr_k {B k : Nat} {M : AMem} {w : Int32} (hk : ¬ k = 14) : mI (thr B M w) (B + k) = mI M (B + k) := by
  unfold thr
  rw [mI_stI, va_up_ap, if_neg (by omega)]
theorem op28 {B s L : Nat} {M : AMem} {ns np no nl : Nat} {p q o : Nat → Nat} (h : INV B s L M ns np no nl p q o) (x : Int32) (y : Int32) : GO B s L 72 149 [.int x, .int y] [(2, 1), (3, 2), (4, 3)] M := by
  have h0 := INV_ST h
  have hsB := h.1.1.2.1
  have hN := ad_N h.1
  by_cases hx : inR x 0 (nI np - 1) = true
  · obtain ⟨i, hi, rfl⟩ := in_ix (iv_np h).2 (by decide) hx
    obtain ⟨h6, hr, hs⟩ := iv_rp h hi
    obtain ⟨lo, hi2⟩ := q_lo h hi
    obtain ⟨u1, u2⟩ := iv_nq h hi
    have hP := iv_PD h hi
    obtain ⟨n, Kd, c1, c2, c3, c4, ⟨c5, c5'⟩, ⟨c6, c6'⟩, c7, ⟨c8, c8'⟩, c9, c10, c11⟩ := hP
    by_cases h5 : mI M (B + 26) i = 111
    · by_cases hy : inR y 0 (nI n - 1) = true
      · obtain ⟨j, hjn, rfl⟩ := in_ix c1.1 (by decide) hy
        obtain ⟨m, rfl⟩ : ∃ m, n = m + 1 := ⟨n - 1, by omega⟩
        have hm := c1.1
        refine go_w5 (M1 := stI (stI M (q i + 1) (shF (mI M (q i + 1)) j (m - j))) (q i) (upd (mI M (q i)) 4 (nI m))) (M5 := stI (stI (stI (stI M (q i + 1) (shF (mI M (q i + 1)) j (m - j))) (q i) (upd (mI M (q i)) 4 (nI m))) (B + 32) (upd (mI M (B + 32)) i (nI m))) (B + 28) (shF (mI M (B + 28)) (60 * i + j) (m - j))) (r := mI M (q i + 1) j) hsB (fun Q => ?_) (SK_stI (SK_stI (SK_rf h0) (by omega)) (by omega)) (fun Q => ?_) (SK_Bk (SK_Bk (SK_stI (SK_stI (SK_rf h0) (by omega)) (by omega)) hsB) hsB) (by simp only [mN_stI]; exact Nat.le_add_right _ _) (by simp only [mS_stI]; exact Nat.le_add_right _ _) ?_
        · unfold CaP
          simp [lv_args, sStep, amStep, a_nx, a_ii, a_jj, a_ji, a_ld, a_st, a_if, a_ald, a_c1, a_c2, lkp, lput, lput2, lins, oP_none, oP_next, oP_call, oP_ret, oP_thr, outP_ite, aft_ret, aft_void, aft_thr, fHnd, List.isEmpty_nil, List.filter_cons, List.filter_nil, Value.category, csum, List.map_cons, List.map_nil, List.sum_cons, List.sum_nil, List.cons_append, List.nil_append, Option.toList, vp_nar_int, narrow_b1, narrow_b0, nc115, vc115, fc115, nc111, vc111, fc111, nc100, vc100, fc100, nc109, vc109, fc109, nc120, vc120, fc120, nc119, vc119, fc119, nc116, vc116, fc116, nc45, vc45, fc45, nc32, vc32, fc32, nc102, vc102, fc102, nc106, vc106, fc106, fin3, rf_some, rf_none, upd_ap, va_up_ap, nar_bi, fits_bi, nvp_bi, bi_t, bi_f, fval, fty, ftabs, wrv_0, wrv_1, wrv_2, wrv_3, wrv_5, mT_stI, mI_stI, mL_stI, mD_stI, mR_stI, mN_stI, mS_stI, mT_stL, mI_stL, mL_stL, mD_stL, mR_stL, mN_stL, mS_stL, mT_stD, mI_stD, mL_stD, mD_stD, mR_stD, mN_stD, mS_stD, mT_stR, mI_stR, mL_stR, mD_stR, mR_stR, mN_stR, mS_stR, mT_stN, mI_stN, mL_stN, mD_stN, mR_stN, mN_stN, mS_stN, e72_0, e72_1, e72_2, e72_5, e72_6, e72_7, e72_10, e72_11, e72_12, e72_15, e72_18, e72_29, e72_30, e72_31, e72_34, rt72, hn72, h0, tT0, tT1, tT2, tT3, tT4, tT5, tT6, tT7, tT8, tT9, tT10, tT11, tT12, tT13, tT14, tT15, tT16, tT17, tT18, tT19, tT20, tT21, tT22, tT23, tT24, tT25, tT26, tT27, tT28, tT29, tT30, tT31, tT32, tT33, tT34, tT35, tT36, tT37, tT38, tT39, tT40, tT41, tT42, tT43, tT44, tR0_0, tR0_6, tR0_7, tR0_8, tR0_9, tR0_11, tR0_12, tR0_14, tR2_0, tR2_1, tR6_0, tR9_0, tR9_1, tR14_0, tR14_1, tR14_2, tR14_3, tR14_4, tR14_5, tR14_6, tR14_7, tR14_8, tR14_9, tR14_10, tR14_11, tR14_12, tR14_13, tR14_14, tR14_15, tR14_16, tR14_17, tR14_18, tR14_19, tR14_20, tR14_21, tR14_22, tR14_23, tR14_24, tR14_25, tR14_26, tR14_27, ST_stI, ST_stL, ST_stD, cl98, sp98 h0 h6 hr, pk0 hs, cl95, sp95 (pk0 hs), c5, h5, cl11, sp11 hs c2.1 c1.1, hy, bi, cl12, sp12 hs c2.1 (show m < 60 by omega) (show j ≤ m by omega)]
        · have q1 : ∀ f g r, ST B (oM B (stI (stI M (q i + 1) f) (q i) g) r) := fun _ _ _ => h0
          have qk : ∀ f g k, k < 45 → (va_up (va_up (mI M) (q i + 1) f) (q i) g) (B + k) = mI M (B + k) := fun f g k hk => by rw [va_up_ap, if_neg (u1 k hk), va_up_ap, if_neg (by omega)]
          rw [sp149 (q1 _ _ _) h6 (by simp only [mI_oM, mI_stI, qk _ _ 14 (by decide)]; exact iv_ix (iv_np h).1 hx) (by simp only [mI_oM, mI_stI, qk _ _ 26 (by decide)]; exact h5) (by simp only [mI_oM, mI_stI, qk _ _ 32 (by decide)]; exact c2.2) (by omega) (by omega)]
          simp only [thr_cm (show ¬ 32 = 14 by decide), thr_cm (show ¬ 28 = 14 by decide), mI_oM, mI_stI, qk _ _ 28 (by decide), qk _ _ 32 (by decide), oM_stI, c8 j (show j < 60 by omega)]
        · refine ⟨ns, np, no, nl, p, q, o, INV_6 h hi (by simp only [mT_stI]) (by simp only [mR_stI]) (by simp only [mN_stI]) (by simp only [mL_stI]) (fun a _ ha ha9 => ?_) ?_ (fun j2 hj hji => ?_) (fun j2 hj => ?_) (fun j2 hj => ?_) (fun j2 hj k hk => ?_) (fun j2 hj => ?_) (fun j2 hj => ?_) (fun j2 hj => ?_) (fun j2 hj => ?_) (fun j2 hj => ?_)⟩
          · exact ((va_ne (gr_k (B := B) (k := 28) (T := mT M) (by decide)) ha).trans ((va_ne (gr_k (B := B) (k := 32) (T := mT M) (by decide)) ha).trans ((va_ne (ad_q h.1 hi).1.2 ha).trans (va_ne (ad_q h.1 hi).2.2 ha))))
          · refine ⟨m, Kd, ⟨by omega, c1.2⟩, ?_, ?_, ?_, ?_, ?_, ?_, ?_, ?_, ?_, ?_⟩ <;> simp [mI_stI, mL_stI, va_up_ap, upd_ap, u1, u2, c3, c4, c5, h5, c6, c7]
            · exact c6'
            · exact ⟨fun k hk => shF_rel c8 (by omega) hk, shF_in c8'⟩
            · exact fun e => absurd e (c11 (by rw [c5, h5]))
            · exact c11 (by rw [c5, h5])
          · obtain ⟨n1, n2, n3, n4⟩ := q_ne h hi hj hji
            obtain ⟨v1, v2⟩ := iv_nq h hj
            simp [mI_stI, va_up_ap, n1, n2, n3, n4, v1, v2]
          · simp [mI_stI, mL_stI, va_up_ap, upd_ap, u1, u2, hj]
          · simp [mI_stI, mL_stI, va_up_ap, upd_ap, u1, u2, hj]
          · simp [mI_stI, mL_stI, va_up_ap, upd_ap, u1, u2, shF_out (show m < 60 by omega) hk hj]
          · simp [mI_stI, mL_stI, va_up_ap, upd_ap, u1, u2, hj]
          · simp [mI_stI, mL_stI, va_up_ap, upd_ap, u1, u2, hj]
          · simp [mI_stI, mL_stI, va_up_ap, upd_ap, u1, u2, hj]
          · simp [mI_stI, mL_stI, va_up_ap, upd_ap, u1, u2, hj]
          · simp [mI_stI, mL_stI, va_up_ap, upd_ap, u1, u2, hj]

      · refine go_th (GO_th h 4 3 0 (by simp) (fun Q => ?_) (fun h2 Q => ?_))
        · unfold CaP
          simp [lv_args, sStep, amStep, a_nx, a_ii, a_jj, a_ji, a_ld, a_st, a_if, a_ald, a_c1, a_c2, lkp, lput, lput2, lins, oP_none, oP_next, oP_call, oP_ret, oP_thr, outP_ite, aft_ret, aft_void, aft_thr, fHnd, List.isEmpty_nil, List.filter_cons, List.filter_nil, Value.category, csum, List.map_cons, List.map_nil, List.sum_cons, List.sum_nil, List.cons_append, List.nil_append, Option.toList, vp_nar_int, narrow_b1, narrow_b0, nc115, vc115, fc115, nc111, vc111, fc111, nc100, vc100, fc100, nc109, vc109, fc109, nc120, vc120, fc120, nc119, vc119, fc119, nc116, vc116, fc116, nc45, vc45, fc45, nc32, vc32, fc32, nc102, vc102, fc102, nc106, vc106, fc106, fin3, rf_some, rf_none, upd_ap, va_up_ap, nar_bi, fits_bi, nvp_bi, bi_t, bi_f, fval, fty, ftabs, wrv_0, wrv_1, wrv_2, wrv_3, wrv_5, mT_stI, mI_stI, mL_stI, mD_stI, mR_stI, mN_stI, mS_stI, mT_stL, mI_stL, mL_stL, mD_stL, mR_stL, mN_stL, mS_stL, mT_stD, mI_stD, mL_stD, mD_stD, mR_stD, mN_stD, mS_stD, mT_stR, mI_stR, mL_stR, mD_stR, mR_stR, mN_stR, mS_stR, mT_stN, mI_stN, mL_stN, mD_stN, mR_stN, mN_stN, mS_stN, e72_0, e72_1, e72_2, e72_5, e72_6, e72_7, e72_10, e72_11, e72_12, e72_15, e72_18, e72_29, e72_30, e72_31, e72_34, rt72, hn72, h0, tT0, tT1, tT2, tT3, tT4, tT5, tT6, tT7, tT8, tT9, tT10, tT11, tT12, tT13, tT14, tT15, tT16, tT17, tT18, tT19, tT20, tT21, tT22, tT23, tT24, tT25, tT26, tT27, tT28, tT29, tT30, tT31, tT32, tT33, tT34, tT35, tT36, tT37, tT38, tT39, tT40, tT41, tT42, tT43, tT44, tR0_0, tR0_6, tR0_7, tR0_8, tR0_9, tR0_11, tR0_12, tR0_14, tR2_0, tR2_1, tR6_0, tR9_0, tR9_1, tR14_0, tR14_1, tR14_2, tR14_3, tR14_4, tR14_5, tR14_6, tR14_7, tR14_8, tR14_9, tR14_10, tR14_11, tR14_12, tR14_13, tR14_14, tR14_15, tR14_16, tR14_17, tR14_18, tR14_19, tR14_20, tR14_21, tR14_22, tR14_23, tR14_24, tR14_25, tR14_26, tR14_27, ST_stI, ST_stL, ST_stD, cl98, sp98 h0 h6 hr, pk0 hs, cl95, sp95 (pk0 hs), c5, h5, cl11, sp11 hs c2.1 c1.1, nt hy, bi]
        · have qk : ∀ k, k < 45 → mI (stN M 0 0 6) (B + k) = mI M (B + k) := fun k hk => by rw [mI_stN, va_up_ap, if_neg (by omega)]
          rw [sp149y (INV_ST h2) h6 (iv_ix (iv_np h2).1 hx) (by rw [qk 26 (by decide), qk 32 (by decide), c2.2]; exact Or.inr (nt hy)), qk 26 (by decide), if_pos h5]
    · refine go_th (GO_th h 3 2 0 (by simp) (fun Q => ?_) (fun h2 Q => ?_))
      · unfold CaP
        simp [lv_args, sStep, amStep, a_nx, a_ii, a_jj, a_ji, a_ld, a_st, a_if, a_ald, a_c1, a_c2, lkp, lput, lput2, lins, oP_none, oP_next, oP_call, oP_ret, oP_thr, outP_ite, aft_ret, aft_void, aft_thr, fHnd, List.isEmpty_nil, List.filter_cons, List.filter_nil, Value.category, csum, List.map_cons, List.map_nil, List.sum_cons, List.sum_nil, List.cons_append, List.nil_append, Option.toList, vp_nar_int, narrow_b1, narrow_b0, nc115, vc115, fc115, nc111, vc111, fc111, nc100, vc100, fc100, nc109, vc109, fc109, nc120, vc120, fc120, nc119, vc119, fc119, nc116, vc116, fc116, nc45, vc45, fc45, nc32, vc32, fc32, nc102, vc102, fc102, nc106, vc106, fc106, fin3, rf_some, rf_none, upd_ap, va_up_ap, nar_bi, fits_bi, nvp_bi, bi_t, bi_f, fval, fty, ftabs, wrv_0, wrv_1, wrv_2, wrv_3, wrv_5, mT_stI, mI_stI, mL_stI, mD_stI, mR_stI, mN_stI, mS_stI, mT_stL, mI_stL, mL_stL, mD_stL, mR_stL, mN_stL, mS_stL, mT_stD, mI_stD, mL_stD, mD_stD, mR_stD, mN_stD, mS_stD, mT_stR, mI_stR, mL_stR, mD_stR, mR_stR, mN_stR, mS_stR, mT_stN, mI_stN, mL_stN, mD_stN, mR_stN, mN_stN, mS_stN, e72_0, e72_1, e72_2, e72_5, e72_6, e72_7, e72_10, e72_11, e72_12, e72_15, e72_18, e72_29, e72_30, e72_31, e72_34, rt72, hn72, h0, tT0, tT1, tT2, tT3, tT4, tT5, tT6, tT7, tT8, tT9, tT10, tT11, tT12, tT13, tT14, tT15, tT16, tT17, tT18, tT19, tT20, tT21, tT22, tT23, tT24, tT25, tT26, tT27, tT28, tT29, tT30, tT31, tT32, tT33, tT34, tT35, tT36, tT37, tT38, tT39, tT40, tT41, tT42, tT43, tT44, tR0_0, tR0_6, tR0_7, tR0_8, tR0_9, tR0_11, tR0_12, tR0_14, tR2_0, tR2_1, tR6_0, tR9_0, tR9_1, tR14_0, tR14_1, tR14_2, tR14_3, tR14_4, tR14_5, tR14_6, tR14_7, tR14_8, tR14_9, tR14_10, tR14_11, tR14_12, tR14_13, tR14_14, tR14_15, tR14_16, tR14_17, tR14_18, tR14_19, tR14_20, tR14_21, tR14_22, tR14_23, tR14_24, tR14_25, tR14_26, tR14_27, ST_stI, ST_stL, ST_stD, cl98, sp98 h0 h6 hr, pk0 hs, cl95, sp95 (pk0 hs), c5, h5]
      · have qk : ∀ k, k < 45 → mI (stN M 0 0 6) (B + k) = mI M (B + k) := fun k hk => by rw [mI_stN, va_up_ap, if_neg (by omega)]
        rw [sp149y (INV_ST h2) h6 (iv_ix (iv_np h2).1 hx) (by rw [qk 26 (by decide)]; exact Or.inl h5), qk 26 (by decide), if_neg h5]
  · exact go_th (GO_th h 2 1 0 (by simp) (fun Q => by unfold CaP; simp [lv_args, sStep, amStep, a_nx, a_ii, a_jj, a_ji, a_ld, a_st, a_if, a_ald, a_c1, a_c2, lkp, lput, lput2, lins, oP_none, oP_next, oP_call, oP_ret, oP_thr, outP_ite, aft_ret, aft_void, aft_thr, fHnd, List.isEmpty_nil, List.filter_cons, List.filter_nil, Value.category, csum, List.map_cons, List.map_nil, List.sum_cons, List.sum_nil, List.cons_append, List.nil_append, Option.toList, vp_nar_int, narrow_b1, narrow_b0, nc115, vc115, fc115, nc111, vc111, fc111, nc100, vc100, fc100, nc109, vc109, fc109, nc120, vc120, fc120, nc119, vc119, fc119, nc116, vc116, fc116, nc45, vc45, fc45, nc32, vc32, fc32, nc102, vc102, fc102, nc106, vc106, fc106, fin3, rf_some, rf_none, upd_ap, va_up_ap, nar_bi, fits_bi, nvp_bi, bi_t, bi_f, fval, fty, ftabs, wrv_0, wrv_1, wrv_2, wrv_3, wrv_5, mT_stI, mI_stI, mL_stI, mD_stI, mR_stI, mN_stI, mS_stI, mT_stL, mI_stL, mL_stL, mD_stL, mR_stL, mN_stL, mS_stL, mT_stD, mI_stD, mL_stD, mD_stD, mR_stD, mN_stD, mS_stD, mT_stR, mI_stR, mL_stR, mD_stR, mR_stR, mN_stR, mS_stR, mT_stN, mI_stN, mL_stN, mD_stN, mR_stN, mN_stN, mS_stN, e72_0, e72_1, e72_2, e72_5, e72_6, e72_7, e72_10, e72_11, e72_12, e72_15, e72_18, e72_29, e72_30, e72_31, e72_34, rt72, hn72, h0, tT0, tT1, tT2, tT3, tT4, tT5, tT6, tT7, tT8, tT9, tT10, tT11, tT12, tT13, tT14, tT15, tT16, tT17, tT18, tT19, tT20, tT21, tT22, tT23, tT24, tT25, tT26, tT27, tT28, tT29, tT30, tT31, tT32, tT33, tT34, tT35, tT36, tT37, tT38, tT39, tT40, tT41, tT42, tT43, tT44, tR0_0, tR0_6, tR0_7, tR0_8, tR0_9, tR0_11, tR0_12, tR0_14, tR2_0, tR2_1, tR6_0, tR9_0, tR9_1, tR14_0, tR14_1, tR14_2, tR14_3, tR14_4, tR14_5, tR14_6, tR14_7, tR14_8, tR14_9, tR14_10, tR14_11, tR14_12, tR14_13, tR14_14, tR14_15, tR14_16, tR14_17, tR14_18, tR14_19, tR14_20, tR14_21, tR14_22, tR14_23, tR14_24, tR14_25, tR14_26, tR14_27, ST_stI, ST_stL, ST_stD, cl98, s98x h (nt hx)]) (fun h2 Q => sp149x (INV_ST h2) (by rw [(iv_np h2).1]; exact nt hx)))
theorem op29 {B s L : Nat} {M : AMem} {ns np no nl : Nat} {p q o : Nat → Nat} (h : INV B s L M ns np no nl p q o) (x : Int32) (y : Int32) : GO B s L 73 150 [.int x, .int y] [(2, 1), (0, 2), (3, 3), (1, 4)] M := by
  have h0 := INV_ST h
  have hsB := h.1.1.2.1
  have hN := ad_N h.1
  by_cases hx : inR x 0 (nI np - 1) = true
  · obtain ⟨i, hi, rfl⟩ := in_ix (iv_np h).2 (by decide) hx
    obtain ⟨h6, hr, hs⟩ := iv_rp h hi
    obtain ⟨lo, hi2⟩ := q_lo h hi
    obtain ⟨u1, u2⟩ := iv_nq h hi
    have hP := iv_PD h hi
    obtain ⟨n, Kd, c1, c2, c3, c4, ⟨c5, c5'⟩, ⟨c6, c6'⟩, c7, ⟨c8, c8'⟩, c9, c10, c11⟩ := hP
    by_cases hy : inR y 0 53 = true
    · by_cases h5 : mI M (B + 26) i = 111
      · by_cases hz : n < 60
        · obtain ⟨d, hd, rfl⟩ := inR_of (n := 53) rfl (by decide) hy
          refine go_w5 (M1 := stI (stI M (q i + 1) (upd (mI M (q i + 1)) n (nI d))) (q i) (upd (mI M (q i)) 4 (nI (n + 1)))) (M5 := stI (stI (stI (stI M (q i + 1) (upd (mI M (q i + 1)) n (nI d))) (q i) (upd (mI M (q i)) 4 (nI (n + 1)))) (B + 28) (upd (mI M (B + 28)) (60 * i + n) (nI d))) (B + 32) (upd (mI M (B + 32)) i (nI (n + 1)))) (r := nI (n + 1)) hsB (fun Q => ?_) (SK_stI (SK_stI (SK_rf h0) (by omega)) (by omega)) (fun Q => ?_) (SK_Bk (SK_Bk (SK_stI (SK_stI (SK_rf h0) (by omega)) (by omega)) hsB) hsB) (by simp only [mN_stI]; exact Nat.le_add_right _ _) (by simp only [mS_stI]; exact Nat.le_add_right _ _) ?_
          · unfold CaP
            simp [lv_args, sStep, amStep, a_nx, a_ii, a_jj, a_ji, a_ld, a_st, a_if, a_ald, a_c1, a_c2, lkp, lput, lput2, lins, oP_none, oP_next, oP_call, oP_ret, oP_thr, outP_ite, aft_ret, aft_void, aft_thr, fHnd, List.isEmpty_nil, List.filter_cons, List.filter_nil, Value.category, csum, List.map_cons, List.map_nil, List.sum_cons, List.sum_nil, List.cons_append, List.nil_append, Option.toList, vp_nar_int, narrow_b1, narrow_b0, nc115, vc115, fc115, nc111, vc111, fc111, nc100, vc100, fc100, nc109, vc109, fc109, nc120, vc120, fc120, nc119, vc119, fc119, nc116, vc116, fc116, nc45, vc45, fc45, nc32, vc32, fc32, nc102, vc102, fc102, nc106, vc106, fc106, fin3, rf_some, rf_none, upd_ap, va_up_ap, nar_bi, fits_bi, nvp_bi, bi_t, bi_f, fval, fty, ftabs, wrv_0, wrv_1, wrv_2, wrv_3, wrv_5, mT_stI, mI_stI, mL_stI, mD_stI, mR_stI, mN_stI, mS_stI, mT_stL, mI_stL, mL_stL, mD_stL, mR_stL, mN_stL, mS_stL, mT_stD, mI_stD, mL_stD, mD_stD, mR_stD, mN_stD, mS_stD, mT_stR, mI_stR, mL_stR, mD_stR, mR_stR, mN_stR, mS_stR, mT_stN, mI_stN, mL_stN, mD_stN, mR_stN, mN_stN, mS_stN, e73_0, e73_1, e73_2, e73_5, e73_6, e73_7, e73_10, e73_11, e73_14, e73_15, e73_18, e73_20, e73_23, e73_34, e73_35, e73_36, e73_39, e73_40, e73_43, rt73, hn73, h0, tT0, tT1, tT2, tT3, tT4, tT5, tT6, tT7, tT8, tT9, tT10, tT11, tT12, tT13, tT14, tT15, tT16, tT17, tT18, tT19, tT20, tT21, tT22, tT23, tT24, tT25, tT26, tT27, tT28, tT29, tT30, tT31, tT32, tT33, tT34, tT35, tT36, tT37, tT38, tT39, tT40, tT41, tT42, tT43, tT44, tR0_0, tR0_6, tR0_7, tR0_8, tR0_9, tR0_11, tR0_12, tR0_14, tR2_0, tR2_1, tR6_0, tR9_0, tR9_1, tR14_0, tR14_1, tR14_2, tR14_3, tR14_4, tR14_5, tR14_6, tR14_7, tR14_8, tR14_9, tR14_10, tR14_11, tR14_12, tR14_13, tR14_14, tR14_15, tR14_16, tR14_17, tR14_18, tR14_19, tR14_20, tR14_21, tR14_22, tR14_23, tR14_24, tR14_25, tR14_26, tR14_27, ST_stI, ST_stL, ST_stD, cl98, sp98 h0 h6 hr, pk0 hs, cl93, sp93, hy, cl95, sp95 (pk0 hs), c5, h5, c2.1, ge60 hz, cl10, sp10 hs c2.1 hz]
          · have q1 : ∀ f g r, ST B (oM B (stI (stI M (q i + 1) f) (q i) g) r) := fun _ _ _ => h0
            have qk : ∀ f g k, k < 45 → (va_up (va_up (mI M) (q i + 1) f) (q i) g) (B + k) = mI M (B + k) := fun f g k hk => by rw [va_up_ap, if_neg (u1 k hk), va_up_ap, if_neg (by omega)]
            rw [sp150 (q1 _ _ _) h6 (by simp only [mI_oM, mI_stI, qk _ _ 14 (by decide)]; exact iv_ix (iv_np h).1 hx) hy (by simp only [mI_oM, mI_stI, qk _ _ 26 (by decide)]; exact h5) (by simp only [mI_oM, mI_stI, qk _ _ 32 (by decide)]; exact c2.2) hz]
            simp only [thr_cm (show ¬ 32 = 14 by decide), thr_cm (show ¬ 28 = 14 by decide), mI_oM, mI_stI, qk _ _ 28 (by decide), qk _ _ 32 (by decide), oM_stI]
          · refine ⟨ns, np, no, nl, p, q, o, INV_6 h hi (by simp only [mT_stI]) (by simp only [mR_stI]) (by simp only [mN_stI]) (by simp only [mL_stI]) (fun a _ ha ha9 => ?_) ?_ (fun j2 hj hji => ?_) (fun j2 hj => ?_) (fun j2 hj => ?_) (fun j2 hj k hk => ?_) (fun j2 hj => ?_) (fun j2 hj => ?_) (fun j2 hj => ?_) (fun j2 hj => ?_) (fun j2 hj => ?_)⟩
            · exact ((va_ne (gr_k (B := B) (k := 32) (T := mT M) (by decide)) ha).trans ((va_ne (gr_k (B := B) (k := 28) (T := mT M) (by decide)) ha).trans ((va_ne (ad_q h.1 hi).1.2 ha).trans (va_ne (ad_q h.1 hi).2.2 ha))))
            · refine ⟨n + 1, Kd, ⟨by omega, c1.2⟩, ?_, ?_, ?_, ?_, ?_, ?_, ?_, ?_, ?_, ?_⟩ <;> simp [mI_stI, mL_stI, va_up_ap, upd_ap, u1, u2, c3, c4, c5, h5, c6, c7]
              · exact c6'
              · refine ⟨fun k hk => ?_, fun k hk => ?_⟩
                · rw [c8 k hk]
                · by_cases e : k = n
                  · exact ⟨d, by omega, by rw [if_pos e]⟩
                  · rw [if_neg e]
                    exact c8' k (by omega)
              · exact fun e => absurd e (c11 (by rw [c5, h5]))
              · exact c11 (by rw [c5, h5])
            · obtain ⟨n1, n2, n3, n4⟩ := q_ne h hi hj hji
              obtain ⟨v1, v2⟩ := iv_nq h hj
              simp [mI_stI, va_up_ap, n1, n2, n3, n4, v1, v2]
            · simp [mI_stI, mL_stI, va_up_ap, upd_ap, u1, u2, hj]
            · simp [mI_stI, mL_stI, va_up_ap, upd_ap, u1, u2, hj]
            · simp [mI_stI, mL_stI, va_up_ap, upd_ap, u1, u2]
              intro e
              omega
            · simp [mI_stI, mL_stI, va_up_ap, upd_ap, u1, u2, hj]
            · simp [mI_stI, mL_stI, va_up_ap, upd_ap, u1, u2, hj]
            · simp [mI_stI, mL_stI, va_up_ap, upd_ap, u1, u2, hj]
            · simp [mI_stI, mL_stI, va_up_ap, upd_ap, u1, u2, hj]
            · simp [mI_stI, mL_stI, va_up_ap, upd_ap, u1, u2, hj]

        · have hn : n = 60 := by have := c1.1; omega
          refine go_th (GO_th h 1 4 0 (by simp) (fun Q => ?_) (fun h2 Q => ?_))
          · unfold CaP
            simp [lv_args, sStep, amStep, a_nx, a_ii, a_jj, a_ji, a_ld, a_st, a_if, a_ald, a_c1, a_c2, lkp, lput, lput2, lins, oP_none, oP_next, oP_call, oP_ret, oP_thr, outP_ite, aft_ret, aft_void, aft_thr, fHnd, List.isEmpty_nil, List.filter_cons, List.filter_nil, Value.category, csum, List.map_cons, List.map_nil, List.sum_cons, List.sum_nil, List.cons_append, List.nil_append, Option.toList, vp_nar_int, narrow_b1, narrow_b0, nc115, vc115, fc115, nc111, vc111, fc111, nc100, vc100, fc100, nc109, vc109, fc109, nc120, vc120, fc120, nc119, vc119, fc119, nc116, vc116, fc116, nc45, vc45, fc45, nc32, vc32, fc32, nc102, vc102, fc102, nc106, vc106, fc106, fin3, rf_some, rf_none, upd_ap, va_up_ap, nar_bi, fits_bi, nvp_bi, bi_t, bi_f, fval, fty, ftabs, wrv_0, wrv_1, wrv_2, wrv_3, wrv_5, mT_stI, mI_stI, mL_stI, mD_stI, mR_stI, mN_stI, mS_stI, mT_stL, mI_stL, mL_stL, mD_stL, mR_stL, mN_stL, mS_stL, mT_stD, mI_stD, mL_stD, mD_stD, mR_stD, mN_stD, mS_stD, mT_stR, mI_stR, mL_stR, mD_stR, mR_stR, mN_stR, mS_stR, mT_stN, mI_stN, mL_stN, mD_stN, mR_stN, mN_stN, mS_stN, e73_0, e73_1, e73_2, e73_5, e73_6, e73_7, e73_10, e73_11, e73_14, e73_15, e73_18, e73_20, e73_23, e73_34, e73_35, e73_36, e73_39, e73_40, e73_43, rt73, hn73, h0, tT0, tT1, tT2, tT3, tT4, tT5, tT6, tT7, tT8, tT9, tT10, tT11, tT12, tT13, tT14, tT15, tT16, tT17, tT18, tT19, tT20, tT21, tT22, tT23, tT24, tT25, tT26, tT27, tT28, tT29, tT30, tT31, tT32, tT33, tT34, tT35, tT36, tT37, tT38, tT39, tT40, tT41, tT42, tT43, tT44, tR0_0, tR0_6, tR0_7, tR0_8, tR0_9, tR0_11, tR0_12, tR0_14, tR2_0, tR2_1, tR6_0, tR9_0, tR9_1, tR14_0, tR14_1, tR14_2, tR14_3, tR14_4, tR14_5, tR14_6, tR14_7, tR14_8, tR14_9, tR14_10, tR14_11, tR14_12, tR14_13, tR14_14, tR14_15, tR14_16, tR14_17, tR14_18, tR14_19, tR14_20, tR14_21, tR14_22, tR14_23, tR14_24, tR14_25, tR14_26, tR14_27, ST_stI, ST_stL, ST_stD, cl98, sp98 h0 h6 hr, pk0 hs, cl93, sp93, hy, cl95, sp95 (pk0 hs), c5, h5, c2.1, hn, show (60 : Int32) ≤ nI 60 by decide, show ¬ nI 60 < (60 : Int32) by decide]
          · have qk : ∀ k, k < 45 → mI (stN M 0 0 6) (B + k) = mI M (B + k) := fun k hk => by rw [mI_stN, va_up_ap, if_neg (by omega)]
            rw [sp150y (INV_ST h2) h6 (iv_ix (iv_np h2).1 hx) (by rw [qk 32 (by decide), c2.2, hn]; exact Or.inr (Or.inr rfl)), qk 26 (by decide), if_neg (by rw [hy]; decide), if_neg (fun e => e h5)]
      · refine go_th (GO_th h 3 3 0 (by simp) (fun Q => ?_) (fun h2 Q => ?_))
        · unfold CaP
          simp [lv_args, sStep, amStep, a_nx, a_ii, a_jj, a_ji, a_ld, a_st, a_if, a_ald, a_c1, a_c2, lkp, lput, lput2, lins, oP_none, oP_next, oP_call, oP_ret, oP_thr, outP_ite, aft_ret, aft_void, aft_thr, fHnd, List.isEmpty_nil, List.filter_cons, List.filter_nil, Value.category, csum, List.map_cons, List.map_nil, List.sum_cons, List.sum_nil, List.cons_append, List.nil_append, Option.toList, vp_nar_int, narrow_b1, narrow_b0, nc115, vc115, fc115, nc111, vc111, fc111, nc100, vc100, fc100, nc109, vc109, fc109, nc120, vc120, fc120, nc119, vc119, fc119, nc116, vc116, fc116, nc45, vc45, fc45, nc32, vc32, fc32, nc102, vc102, fc102, nc106, vc106, fc106, fin3, rf_some, rf_none, upd_ap, va_up_ap, nar_bi, fits_bi, nvp_bi, bi_t, bi_f, fval, fty, ftabs, wrv_0, wrv_1, wrv_2, wrv_3, wrv_5, mT_stI, mI_stI, mL_stI, mD_stI, mR_stI, mN_stI, mS_stI, mT_stL, mI_stL, mL_stL, mD_stL, mR_stL, mN_stL, mS_stL, mT_stD, mI_stD, mL_stD, mD_stD, mR_stD, mN_stD, mS_stD, mT_stR, mI_stR, mL_stR, mD_stR, mR_stR, mN_stR, mS_stR, mT_stN, mI_stN, mL_stN, mD_stN, mR_stN, mN_stN, mS_stN, e73_0, e73_1, e73_2, e73_5, e73_6, e73_7, e73_10, e73_11, e73_14, e73_15, e73_18, e73_20, e73_23, e73_34, e73_35, e73_36, e73_39, e73_40, e73_43, rt73, hn73, h0, tT0, tT1, tT2, tT3, tT4, tT5, tT6, tT7, tT8, tT9, tT10, tT11, tT12, tT13, tT14, tT15, tT16, tT17, tT18, tT19, tT20, tT21, tT22, tT23, tT24, tT25, tT26, tT27, tT28, tT29, tT30, tT31, tT32, tT33, tT34, tT35, tT36, tT37, tT38, tT39, tT40, tT41, tT42, tT43, tT44, tR0_0, tR0_6, tR0_7, tR0_8, tR0_9, tR0_11, tR0_12, tR0_14, tR2_0, tR2_1, tR6_0, tR9_0, tR9_1, tR14_0, tR14_1, tR14_2, tR14_3, tR14_4, tR14_5, tR14_6, tR14_7, tR14_8, tR14_9, tR14_10, tR14_11, tR14_12, tR14_13, tR14_14, tR14_15, tR14_16, tR14_17, tR14_18, tR14_19, tR14_20, tR14_21, tR14_22, tR14_23, tR14_24, tR14_25, tR14_26, tR14_27, ST_stI, ST_stL, ST_stD, cl98, sp98 h0 h6 hr, pk0 hs, cl93, sp93, hy, cl95, sp95 (pk0 hs), c5, h5]
        · have qk : ∀ k, k < 45 → mI (stN M 0 0 6) (B + k) = mI M (B + k) := fun k hk => by rw [mI_stN, va_up_ap, if_neg (by omega)]
          rw [sp150y (INV_ST h2) h6 (iv_ix (iv_np h2).1 hx) (by rw [qk 26 (by decide)]; exact Or.inr (Or.inl h5)), qk 26 (by decide), if_neg (by rw [hy]; decide), if_pos h5]
    · refine go_th (GO_th h 0 2 0 (by simp) (fun Q => ?_) (fun h2 Q => ?_))
      · unfold CaP
        simp [lv_args, sStep, amStep, a_nx, a_ii, a_jj, a_ji, a_ld, a_st, a_if, a_ald, a_c1, a_c2, lkp, lput, lput2, lins, oP_none, oP_next, oP_call, oP_ret, oP_thr, outP_ite, aft_ret, aft_void, aft_thr, fHnd, List.isEmpty_nil, List.filter_cons, List.filter_nil, Value.category, csum, List.map_cons, List.map_nil, List.sum_cons, List.sum_nil, List.cons_append, List.nil_append, Option.toList, vp_nar_int, narrow_b1, narrow_b0, nc115, vc115, fc115, nc111, vc111, fc111, nc100, vc100, fc100, nc109, vc109, fc109, nc120, vc120, fc120, nc119, vc119, fc119, nc116, vc116, fc116, nc45, vc45, fc45, nc32, vc32, fc32, nc102, vc102, fc102, nc106, vc106, fc106, fin3, rf_some, rf_none, upd_ap, va_up_ap, nar_bi, fits_bi, nvp_bi, bi_t, bi_f, fval, fty, ftabs, wrv_0, wrv_1, wrv_2, wrv_3, wrv_5, mT_stI, mI_stI, mL_stI, mD_stI, mR_stI, mN_stI, mS_stI, mT_stL, mI_stL, mL_stL, mD_stL, mR_stL, mN_stL, mS_stL, mT_stD, mI_stD, mL_stD, mD_stD, mR_stD, mN_stD, mS_stD, mT_stR, mI_stR, mL_stR, mD_stR, mR_stR, mN_stR, mS_stR, mT_stN, mI_stN, mL_stN, mD_stN, mR_stN, mN_stN, mS_stN, e73_0, e73_1, e73_2, e73_5, e73_6, e73_7, e73_10, e73_11, e73_14, e73_15, e73_18, e73_20, e73_23, e73_34, e73_35, e73_36, e73_39, e73_40, e73_43, rt73, hn73, h0, tT0, tT1, tT2, tT3, tT4, tT5, tT6, tT7, tT8, tT9, tT10, tT11, tT12, tT13, tT14, tT15, tT16, tT17, tT18, tT19, tT20, tT21, tT22, tT23, tT24, tT25, tT26, tT27, tT28, tT29, tT30, tT31, tT32, tT33, tT34, tT35, tT36, tT37, tT38, tT39, tT40, tT41, tT42, tT43, tT44, tR0_0, tR0_6, tR0_7, tR0_8, tR0_9, tR0_11, tR0_12, tR0_14, tR2_0, tR2_1, tR6_0, tR9_0, tR9_1, tR14_0, tR14_1, tR14_2, tR14_3, tR14_4, tR14_5, tR14_6, tR14_7, tR14_8, tR14_9, tR14_10, tR14_11, tR14_12, tR14_13, tR14_14, tR14_15, tR14_16, tR14_17, tR14_18, tR14_19, tR14_20, tR14_21, tR14_22, tR14_23, tR14_24, tR14_25, tR14_26, tR14_27, ST_stI, ST_stL, ST_stD, cl98, sp98 h0 h6 hr, pk0 hs, cl93, sp93, nt hy]
      · rw [sp150y (INV_ST h2) h6 (iv_ix (iv_np h2).1 hx) (Or.inl (nt hy)), if_pos (nt hy)]
  · exact go_th (GO_th h 2 1 0 (by simp) (fun Q => by unfold CaP; simp [lv_args, sStep, amStep, a_nx, a_ii, a_jj, a_ji, a_ld, a_st, a_if, a_ald, a_c1, a_c2, lkp, lput, lput2, lins, oP_none, oP_next, oP_call, oP_ret, oP_thr, outP_ite, aft_ret, aft_void, aft_thr, fHnd, List.isEmpty_nil, List.filter_cons, List.filter_nil, Value.category, csum, List.map_cons, List.map_nil, List.sum_cons, List.sum_nil, List.cons_append, List.nil_append, Option.toList, vp_nar_int, narrow_b1, narrow_b0, nc115, vc115, fc115, nc111, vc111, fc111, nc100, vc100, fc100, nc109, vc109, fc109, nc120, vc120, fc120, nc119, vc119, fc119, nc116, vc116, fc116, nc45, vc45, fc45, nc32, vc32, fc32, nc102, vc102, fc102, nc106, vc106, fc106, fin3, rf_some, rf_none, upd_ap, va_up_ap, nar_bi, fits_bi, nvp_bi, bi_t, bi_f, fval, fty, ftabs, wrv_0, wrv_1, wrv_2, wrv_3, wrv_5, mT_stI, mI_stI, mL_stI, mD_stI, mR_stI, mN_stI, mS_stI, mT_stL, mI_stL, mL_stL, mD_stL, mR_stL, mN_stL, mS_stL, mT_stD, mI_stD, mL_stD, mD_stD, mR_stD, mN_stD, mS_stD, mT_stR, mI_stR, mL_stR, mD_stR, mR_stR, mN_stR, mS_stR, mT_stN, mI_stN, mL_stN, mD_stN, mR_stN, mN_stN, mS_stN, e73_0, e73_1, e73_2, e73_5, e73_6, e73_7, e73_10, e73_11, e73_14, e73_15, e73_18, e73_20, e73_23, e73_34, e73_35, e73_36, e73_39, e73_40, e73_43, rt73, hn73, h0, tT0, tT1, tT2, tT3, tT4, tT5, tT6, tT7, tT8, tT9, tT10, tT11, tT12, tT13, tT14, tT15, tT16, tT17, tT18, tT19, tT20, tT21, tT22, tT23, tT24, tT25, tT26, tT27, tT28, tT29, tT30, tT31, tT32, tT33, tT34, tT35, tT36, tT37, tT38, tT39, tT40, tT41, tT42, tT43, tT44, tR0_0, tR0_6, tR0_7, tR0_8, tR0_9, tR0_11, tR0_12, tR0_14, tR2_0, tR2_1, tR6_0, tR9_0, tR9_1, tR14_0, tR14_1, tR14_2, tR14_3, tR14_4, tR14_5, tR14_6, tR14_7, tR14_8, tR14_9, tR14_10, tR14_11, tR14_12, tR14_13, tR14_14, tR14_15, tR14_16, tR14_17, tR14_18, tR14_19, tR14_20, tR14_21, tR14_22, tR14_23, tR14_24, tR14_25, tR14_26, tR14_27, ST_stI, ST_stL, ST_stD, cl98, s98x h (nt hx)]) (fun h2 Q => sp150x (INV_ST h2) (by rw [(iv_np h2).1]; exact nt hx)))
