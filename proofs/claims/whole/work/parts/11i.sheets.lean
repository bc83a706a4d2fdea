/-! ===== calls on one sheet ===== -/
theorem p_lo {B s L : Nat} {M : AMem} {ns np no nl : Nat} {p q o : Nat → Nat} (h : INV B s L M ns np no nl p q o) {i : Nat} (hi : i < ns) : B + 45 ≤ p i ∧ p i + 5 ≤ mN M := ⟨(h.1.2.2.1.1 i hi).1, (h.1.2.2.1.1 i hi).2.1⟩
theorem p_ne {B s L : Nat} {M : AMem} {ns np no nl : Nat} {p q o : Nat → Nat} (h : INV B s L M ns np no nl p q o) {i j t u : Nat} (hi : i < ns) (hj : j < ns) (hij : ¬ j = i) (ht : t < 5) (hu : u < 5) : ¬ p j + t = p i + u := by
  have h2 := h.1.2.2.2.1
  rcases Nat.lt_or_gt_of_ne hij with h3 | h3
  · have := h2 j i h3 hi
    omega
  · have := h2 i j h3 hj
    omega
theorem iv_np5 {B s L : Nat} {M : AMem} {ns np no nl : Nat} {p q o : Nat → Nat} (h : INV B s L M ns np no nl p q o) {i : Nat} (hi : i < ns) : (∀ k, k < 45 → ¬ B + k = p i) ∧ (∀ k, k < 45 → ¬ p i = B + k) := by
  have := p_lo h hi
  exact ⟨fun k hk => by omega, fun k hk => by omega⟩
/-- INV behind a change of one sheet -/
theorem INV_2 {B s L i : Nat} {M M' : AMem} {ns np no nl : Nat} {p q o : Nat → Nat} (h : INV B s L M ns np no nl p q o) (hi : i < ns) (hT : mT M' = mT M) (hR : mR M' = mR M) (hN : mN M' = mN M) (hK : mL M' = mL M) (hI : ∀ a, a < mN M → ¬ gr B (mT M) a = 2 → ¬ gr B (mT M) a = 9 → mI M' a = mI M a) (hP : SD B (mI M') (p i) i) (hp : ∀ j, j < ns → ¬ j = i → mI M' (p j) = mI M (p j) ∧ mI M' (p j + 1) = mI M (p j + 1) ∧ mI M' (p j + 2) = mI M (p j + 2) ∧ mI M' (p j + 3) = mI M (p j + 3) ∧ mI M' (p j + 4) = mI M (p j + 4))
    (h15 : ∀ j, ¬ j = i → mI M' (B + 15) j = mI M (B + 15) j) (h16 : ∀ j, ¬ j = i → mI M' (B + 16) j = mI M (B + 16) j) (h17 : ∀ j, ¬ j = i → ∀ k, k < 54 → mI M' (B + 17) (54 * j + k) = mI M (B + 17) (54 * j + k)) (h18 : ∀ j, ¬ j = i → ∀ k, k < 4 → mI M' (B + 18) (4 * j + k) = mI M (B + 18) (4 * j + k)) (h19 : ∀ j, ¬ j = i → ∀ k, k < 4 → mI M' (B + 19) (4 * j + k) = mI M (B + 19) (4 * j + k)) : INV B s L M' ns np no nl p q o := by
  refine INV_set [2] h (fun _ _ => by rw [hT]) (fun _ _ => by rw [hR]) (Nat.le_of_eq hN.symm) (fun a ha e e9 => hI a ha (ng e rfl) e9) (fun a _ _ => by rw [hK]) (Or.inl rfl) (fun e => absurd e (by decide)) (fun _ => ⟨fun j hj => ?_, fun j hj hj2 k hk => ?_⟩) (fun e => absurd e (by decide)) (fun e => absurd e (by decide)) (fun e => absurd e (by decide)) (fun e => absurd e (by decide)) (fun e => absurd e (by decide)) (fun e => absurd e (by decide))
  · by_cases e : j = i
    · rw [e]; exact hP
    · obtain ⟨g0, g1, g2, g3, g4⟩ := hp j hj e
      exact SD_fr (iv_SD h hj) g0 g1 g2 g3 g4 (h15 j e) (h16 j e) (h17 j e) (h18 j e) (h19 j e)
  · rw [h18 j (by omega) k hk, h19 j (by omega) k hk]
    exact h.2.2.1.2 j hj hj2 k hk
theorem ix_pl {r c R C : Nat} (hr : r < R) (hc : c < C) (hn : R * C ≤ 54) : nI r * nI C + nI c = nI (C * r + c) ∧ C * r + c < R * C ∧ C * r + c < 54 := by
  have h1 : C * r + C ≤ R * C := by
    rw [Nat.mul_comm R C, ← Nat.mul_succ]
    exact Nat.mul_le_mul (Nat.le_refl C) hr
  exact ⟨by rw [pk_mul, nI_add, Nat.mul_comm r C], by omega, by omega⟩
theorem RC_le {R C : Nat} (h : 1 ≤ R ∧ R ≤ 6 ∧ 1 ≤ C ∧ C ≤ 9) : R * C ≤ 54 := Nat.le_trans (Nat.mul_le_mul h.2.1 h.2.2.2) (by decide)
theorem cn_of {x : Int32} (h : inR x (-1) 53 = true) : isCN x := by
  by_cases e : x = -1
  · exact Or.inl e
  · simp only [inR, Bool.and_eq_true, decide_eq_true_eq, Int32.le_iff_toInt_le] at h
    have h1 : (-1 : Int) ≤ x.toInt := h.1
    have h2 : x.toInt ≤ (53 : Int) := h.2
    have h3 : ¬ x.toInt = (-1 : Int) := fun h => e (Int32.toInt_inj.mp h)
    have h0 : ¬ x < 0 := by
      rw [Int32.lt_iff_toInt_lt]
      show ¬ x.toInt < (0 : Int)
      omega
    obtain ⟨j, hj, rfl⟩ := nI_of h0
    refine Or.inr ⟨j, ?_, rfl⟩
    by_cases hlt : j < 54
    · exact hlt
    · exfalso
      have : (54 : Int32) ≤ nI j := (nI_leI (a := 54) (by decide) hj).mpr (by omega)
      rw [Int32.le_iff_toInt_le] at this
      have h5 : (54 : Int) ≤ (nI j).toInt := this
      omega
theorem cn_not {x : Int32} (h : inR x (-1) 53 = false) : ¬ x = -1 ∧ inR x 0 53 = false := by
  refine ⟨fun e => ?_, ?_⟩
  · rw [e] at h
    exact absurd h (by decide)
  · cases e : inR x 0 53
    · rfl
    · exfalso
      simp only [inR, Bool.and_eq_true, decide_eq_true_eq] at e
      rw [inR, Bool.and_eq_false_iff, decide_eq_false_iff_not, decide_eq_false_iff_not] at h
      rcases h with h | h
      · exact h (Int32.le_trans (by decide) e.1)
      · exact h e.2
theorem cn_in {x : Int32} (h : isCN x) : x = -1 ∨ inR x 0 53 = true := by
  rcases h with h | ⟨c, hc, h⟩
  · exact Or.inl h
  · exact Or.inr (by rw [h]; exact inR53 hc)
theorem op2 {B s L : Nat} {M : AMem} {ns np no nl : Nat} {p q o : Nat → Nat} (h : INV B s L M ns np no nl p q o) (x : Int32) (y : Int32) (z : Int32) : GO B s L 46 115 [.int x, .int y, .int z] [(2, 1), (0, 2)] M := by
  have h0 := INV_ST h
  have hsB := h.1.1.2.1
  have hN := ad_N h.1
  by_cases hx : inR x 0 (nI ns - 1) = true
  · obtain ⟨i, hi, rfl⟩ := in_ix (iv_ns h).2 (by decide) hx
    obtain ⟨h6, hr, hs⟩ := iv_rs h hi
    obtain ⟨lo, hi2⟩ := p_lo h hi
    obtain ⟨u1, u2⟩ := iv_np5 h hi
    obtain ⟨R, C, d1, ⟨d2, d2', d2a, d2b⟩, d3, d4, d5⟩ := iv_SD h hi
    have hRC := RC_le d1
    by_cases hy : (inR y 0 (nI R - 1) && inR z 0 (nI C - 1)) = true
    · have hy2 := hy
      rw [Bool.and_eq_true] at hy2
      obtain ⟨r, hrr, rfl⟩ := in_ix (N := 6) d1.2.1 (by decide) hy2.1
      obtain ⟨c, hcc, rfl⟩ := in_ix (N := 9) d1.2.2.2 (by decide) hy2.2
      obtain ⟨x1, x2, x3⟩ := ix_pl hrr hcc hRC
      refine go_rd h (mI M (p i + 1) (C * r + c)) (fun Q => ?_) (fun Q => ?_)
      · unfold CaP
        simp [lv_args, sStep, amStep, a_nx, a_ii, a_jj, a_ji, a_ld, a_st, a_if, a_ald, a_c1, a_c2, lkp, lput, lput2, lins, oP_none, oP_next, oP_call, oP_ret, oP_thr, outP_ite, aft_ret, aft_void, aft_thr, fHnd, List.isEmpty_nil, List.filter_cons, List.filter_nil, Value.category, csum, List.map_cons, List.map_nil, List.sum_cons, List.sum_nil, List.cons_append, List.nil_append, Option.toList, vp_nar_int, narrow_b1, narrow_b0, nc115, vc115, fc115, nc111, vc111, fc111, nc100, vc100, fc100, nc109, vc109, fc109, nc120, vc120, fc120, nc119, vc119, fc119, nc116, vc116, fc116, nc45, vc45, fc45, nc32, vc32, fc32, nc102, vc102, fc102, nc106, vc106, fc106, fin3, rf_some, rf_none, upd_ap, va_up_ap, nar_bi, fits_bi, nvp_bi, bi_t, bi_f, fval, fty, ftabs, wrv_0, wrv_1, wrv_2, wrv_3, wrv_5, mT_stI, mI_stI, mL_stI, mD_stI, mR_stI, mN_stI, mS_stI, mT_stL, mI_stL, mL_stL, mD_stL, mR_stL, mN_stL, mS_stL, mT_stD, mI_stD, mL_stD, mD_stD, mR_stD, mN_stD, mS_stD, mT_stR, mI_stR, mL_stR, mD_stR, mR_stR, mN_stR, mS_stR, mT_stN, mI_stN, mL_stN, mD_stN, mR_stN, mN_stN, mS_stN, e46_0, e46_1, e46_2, e46_5, e46_7, e46_9, e46_10, e46_11, e46_14, e46_17, e46_27, e46_29, e46_31, e46_32, e46_33, e46_36, e46_39, rt46, hn46, h0, tT0, tT1, tT2, tT3, tT4, tT5, tT6, tT7, tT8, tT9, tT10, tT11, tT12, tT13, tT14, tT15, tT16, tT17, tT18, tT19, tT20, tT21, tT22, tT23, tT24, tT25, tT26, tT27, tT28, tT29, tT30, tT31, tT32, tT33, tT34, tT35, tT36, tT37, tT38, tT39, tT40, tT41, tT42, tT43, tT44, tR0_0, tR0_6, tR0_7, tR0_8, tR0_9, tR0_11, tR0_12, tR0_14, tR2_0, tR2_1, tR6_0, tR9_0, tR9_1, tR14_0, tR14_1, tR14_2, tR14_3, tR14_4, tR14_5, tR14_6, tR14_7, tR14_8, tR14_9, tR14_10, tR14_11, tR14_12, tR14_13, tR14_14, tR14_15, tR14_16, tR14_17, tR14_18, tR14_19, tR14_20, tR14_21, tR14_22, tR14_23, tR14_24, tR14_25, tR14_26, tR14_27, ST_stI, ST_stL, ST_stD, cl97, sp97 h0 h6 hr, cl29, sp29 hs, sh0 hs, d2, d2', hy2.1, hy2.2, bi, cl30, sp30 hs, x1, cl31, sp31 hs x3]
      · rw [sp115 (M := oM B M _) (C := C) h0 h6 (iv_ix (iv_ns h).1 hx) (iv_ix d2a hy2.1) (iv_ix d2b hy2.2) d2b d1.2.2.2 (by omega) hcc]
        simp only [mI_oM, Nat.add_assoc, (d3 _ x3).1]
    · refine go_th (GO_th h 0 2 0 (by simp) (fun Q => ?_) (fun h2 Q => ?_))
      · unfold CaP
        simp [lv_args, sStep, amStep, a_nx, a_ii, a_jj, a_ji, a_ld, a_st, a_if, a_ald, a_c1, a_c2, lkp, lput, lput2, lins, oP_none, oP_next, oP_call, oP_ret, oP_thr, outP_ite, aft_ret, aft_void, aft_thr, fHnd, List.isEmpty_nil, List.filter_cons, List.filter_nil, Value.category, csum, List.map_cons, List.map_nil, List.sum_cons, List.sum_nil, List.cons_append, List.nil_append, Option.toList, vp_nar_int, narrow_b1, narrow_b0, nc115, vc115, fc115, nc111, vc111, fc111, nc100, vc100, fc100, nc109, vc109, fc109, nc120, vc120, fc120, nc119, vc119, fc119, nc116, vc116, fc116, nc45, vc45, fc45, nc32, vc32, fc32, nc102, vc102, fc102, nc106, vc106, fc106, fin3, rf_some, rf_none, upd_ap, va_up_ap, nar_bi, fits_bi, nvp_bi, bi_t, bi_f, fval, fty, ftabs, wrv_0, wrv_1, wrv_2, wrv_3, wrv_5, mT_stI, mI_stI, mL_stI, mD_stI, mR_stI, mN_stI, mS_stI, mT_stL, mI_stL, mL_stL, mD_stL, mR_stL, mN_stL, mS_stL, mT_stD, mI_stD, mL_stD, mD_stD, mR_stD, mN_stD, mS_stD, mT_stR, mI_stR, mL_stR, mD_stR, mR_stR, mN_stR, mS_stR, mT_stN, mI_stN, mL_stN, mD_stN, mR_stN, mN_stN, mS_stN, e46_0, e46_1, e46_2, e46_5, e46_7, e46_9, e46_10, e46_11, e46_14, e46_17, e46_27, e46_29, e46_31, e46_32, e46_33, e46_36, e46_39, rt46, hn46, h0, tT0, tT1, tT2, tT3, tT4, tT5, tT6, tT7, tT8, tT9, tT10, tT11, tT12, tT13, tT14, tT15, tT16, tT17, tT18, tT19, tT20, tT21, tT22, tT23, tT24, tT25, tT26, tT27, tT28, tT29, tT30, tT31, tT32, tT33, tT34, tT35, tT36, tT37, tT38, tT39, tT40, tT41, tT42, tT43, tT44, tR0_0, tR0_6, tR0_7, tR0_8, tR0_9, tR0_11, tR0_12, tR0_14, tR2_0, tR2_1, tR6_0, tR9_0, tR9_1, tR14_0, tR14_1, tR14_2, tR14_3, tR14_4, tR14_5, tR14_6, tR14_7, tR14_8, tR14_9, tR14_10, tR14_11, tR14_12, tR14_13, tR14_14, tR14_15, tR14_16, tR14_17, tR14_18, tR14_19, tR14_20, tR14_21, tR14_22, tR14_23, tR14_24, tR14_25, tR14_26, tR14_27, ST_stI, ST_stL, ST_stD, cl97, sp97 h0 h6 hr, cl29, sp29 hs, sh0 hs, d2, d2', nt hy, bi]
      · have qk : ∀ k, k < 45 → mI (stN M 0 0 6) (B + k) = mI M (B + k) := fun k hk => by rw [mI_stN, va_up_ap, if_neg (by omega)]
        exact sp115y (INV_ST h2) h6 (iv_ix (iv_ns h2).1 hx) (by rw [qk 15 (by decide), qk 16 (by decide), d2a, d2b]; exact nt hy)
  · exact go_th (GO_th h 2 1 0 (by simp) (fun Q => by unfold CaP; simp [lv_args, sStep, amStep, a_nx, a_ii, a_jj, a_ji, a_ld, a_st, a_if, a_ald, a_c1, a_c2, lkp, lput, lput2, lins, oP_none, oP_next, oP_call, oP_ret, oP_thr, outP_ite, aft_ret, aft_void, aft_thr, fHnd, List.isEmpty_nil, List.filter_cons, List.filter_nil, Value.category, csum, List.map_cons, List.map_nil, List.sum_cons, List.sum_nil, List.cons_append, List.nil_append, Option.toList, vp_nar_int, narrow_b1, narrow_b0, nc115, vc115, fc115, nc111, vc111, fc111, nc100, vc100, fc100, nc109, vc109, fc109, nc120, vc120, fc120, nc119, vc119, fc119, nc116, vc116, fc116, nc45, vc45, fc45, nc32, vc32, fc32, nc102, vc102, fc102, nc106, vc106, fc106, fin3, rf_some, rf_none, upd_ap, va_up_ap, nar_bi, fits_bi, nvp_bi, bi_t, bi_f, fval, fty, ftabs, wrv_0, wrv_1, wrv_2, wrv_3, wrv_5, mT_stI, mI_stI, mL_stI, mD_stI, mR_stI, mN_stI, mS_stI, mT_stL, mI_stL, mL_stL, mD_stL, mR_stL, mN_stL, mS_stL, mT_stD, mI_stD, mL_stD, mD_stD, mR_stD, mN_stD, mS_stD, mT_stR, mI_stR, mL_stR, mD_stR, mR_stR, mN_stR, mS_stR, mT_stN, mI_stN, mL_stN, mD_stN, mR_stN, mN_stN, mS_stN, e46_0, e46_1, e46_2, e46_5, e46_7, e46_9, e46_10, e46_11, e46_14, e46_17, e46_27, e46_29, e46_31, e46_32, e46_33, e46_36, e46_39, rt46, hn46, h0, tT0, tT1, tT2, tT3, tT4, tT5, tT6, tT7, tT8, tT9, tT10, tT11, tT12, tT13, tT14, tT15, tT16, tT17, tT18, tT19, tT20, tT21, tT22, tT23, tT24, tT25, tT26, tT27, tT28, tT29, tT30, tT31, tT32, tT33, tT34, tT35, tT36, tT37, tT38, tT39, tT40, tT41, tT42, tT43, tT44, tR0_0, tR0_6, tR0_7, tR0_8, tR0_9, tR0_11, tR0_12, tR0_14, tR2_0, tR2_1, tR6_0, tR9_0, tR9_1, tR14_0, tR14_1, tR14_2, tR14_3, tR14_4, tR14_5, tR14_6, tR14_7, tR14_8, tR14_9, tR14_10, tR14_11, tR14_12, tR14_13, tR14_14, tR14_15, tR14_16, tR14_17, tR14_18, tR14_19, tR14_20, tR14_21, tR14_22, tR14_23, tR14_24, tR14_25, tR14_26, tR14_27, ST_stI, ST_stL, ST_stD, cl97, s97x h (nt hx)]) (fun h2 Q => sp115x (INV_ST h2) (by rw [(iv_ns h2).1]; exact nt hx)))
theorem op1 {B s L : Nat} {M : AMem} {ns np no nl : Nat} {p q o : Nat → Nat} (h : INV B s L M ns np no nl p q o) (x : Int32) (y : Int32) (z : Int32) (w : Int32) : GO B s L 45 114 [.int x, .int y, .int z, .int w] [(2, 1), (0, 2)] M := by
  have h0 := INV_ST h
  have hsB := h.1.1.2.1
  have hN := ad_N h.1
  by_cases hx : inR x 0 (nI ns - 1) = true
  · obtain ⟨i, hi, rfl⟩ := in_ix (iv_ns h).2 (by decide) hx
    obtain ⟨h6, hr, hs⟩ := iv_rs h hi
    obtain ⟨lo, hi2⟩ := p_lo h hi
    obtain ⟨u1, u2⟩ := iv_np5 h hi
    obtain ⟨R, C, d1, ⟨d2, d2', d2a, d2b⟩, d3, d4, d5⟩ := iv_SD h hi
    have hRC := RC_le d1
    by_cases hy : (inR y 0 (nI R - 1) && inR z 0 (nI C - 1)) = true
    · have hy2 := hy
      rw [Bool.and_eq_true] at hy2
      by_cases hw : inR w (-1) 53 = true
      · obtain ⟨r, hrr, rfl⟩ := in_ix (N := 6) d1.2.1 (by decide) hy2.1
        obtain ⟨c, hcc, rfl⟩ := in_ix (N := 9) d1.2.2.2 (by decide) hy2.2
        obtain ⟨x1, x2, x3⟩ := ix_pl hrr hcc hRC
        have hcn := cn_of hw
        have e32 := fun Q => @sp32 (p i) (C * r + c) w M Q hs x3 (d3 _ x3).2.1 hcn
        refine go_w5 (M1 := stI (stI M (p i + 1) (upd (mI M (p i + 1)) (C * r + c) w)) (p i + 2) (tmF (mI M (p i + 2)) (mI M (p i + 1) (C * r + c)) w)) (M5 := stI (stI (stI M (p i + 1) (upd (mI M (p i + 1)) (C * r + c) w)) (p i + 2) (tmF (mI M (p i + 2)) (mI M (p i + 1) (C * r + c)) w)) (B + 17) (upd (mI M (B + 17)) (54 * i + C * r + c) w)) (r := mI M (p i + 1) (C * r + c)) hsB (fun Q => ?_) (SK_stI (SK_stI (SK_rf h0) (by omega)) (by omega)) (fun Q => ?_) (SK_Bk (SK_stI (SK_stI (SK_rf h0) (by omega)) (by omega)) hsB) (by simp only [mN_stI]; exact Nat.le_add_right _ _) (by simp only [mS_stI]; exact Nat.le_add_right _ _) ?_
        · unfold CaP
          rcases cn_in hcn with e | e
          · rw [e] at e32 ⊢
            simp [lv_args, sStep, amStep, a_nx, a_ii, a_jj, a_ji, a_ld, a_st, a_if, a_ald, a_c1, a_c2, lkp, lput, lput2, lins, oP_none, oP_next, oP_call, oP_ret, oP_thr, outP_ite, aft_ret, aft_void, aft_thr, fHnd, List.isEmpty_nil, List.filter_cons, List.filter_nil, Value.category, csum, List.map_cons, List.map_nil, List.sum_cons, List.sum_nil, List.cons_append, List.nil_append, Option.toList, vp_nar_int, narrow_b1, narrow_b0, nc115, vc115, fc115, nc111, vc111, fc111, nc100, vc100, fc100, nc109, vc109, fc109, nc120, vc120, fc120, nc119, vc119, fc119, nc116, vc116, fc116, nc45, vc45, fc45, nc32, vc32, fc32, nc102, vc102, fc102, nc106, vc106, fc106, fin3, rf_some, rf_none, upd_ap, va_up_ap, nar_bi, fits_bi, nvp_bi, bi_t, bi_f, fval, fty, ftabs, wrv_0, wrv_1, wrv_2, wrv_3, wrv_5, mT_stI, mI_stI, mL_stI, mD_stI, mR_stI, mN_stI, mS_stI, mT_stL, mI_stL, mL_stL, mD_stL, mR_stL, mN_stL, mS_stL, mT_stD, mI_stD, mL_stD, mD_stD, mR_stD, mN_stD, mS_stD, mT_stR, mI_stR, mL_stR, mD_stR, mR_stR, mN_stR, mS_stR, mT_stN, mI_stN, mL_stN, mD_stN, mR_stN, mN_stN, mS_stN, e45_0, e45_1, e45_2, e45_5, e45_7, e45_9, e45_10, e45_11, e45_14, e45_17, e45_27, e45_29, e45_30, e45_33, e45_35, e45_38, e45_41, e45_51, e45_53, e45_55, e45_56, e45_57, e45_60, e45_62, e45_65, rt45, hn45, h0, tT0, tT1, tT2, tT3, tT4, tT5, tT6, tT7, tT8, tT9, tT10, tT11, tT12, tT13, tT14, tT15, tT16, tT17, tT18, tT19, tT20, tT21, tT22, tT23, tT24, tT25, tT26, tT27, tT28, tT29, tT30, tT31, tT32, tT33, tT34, tT35, tT36, tT37, tT38, tT39, tT40, tT41, tT42, tT43, tT44, tR0_0, tR0_6, tR0_7, tR0_8, tR0_9, tR0_11, tR0_12, tR0_14, tR2_0, tR2_1, tR6_0, tR9_0, tR9_1, tR14_0, tR14_1, tR14_2, tR14_3, tR14_4, tR14_5, tR14_6, tR14_7, tR14_8, tR14_9, tR14_10, tR14_11, tR14_12, tR14_13, tR14_14, tR14_15, tR14_16, tR14_17, tR14_18, tR14_19, tR14_20, tR14_21, tR14_22, tR14_23, tR14_24, tR14_25, tR14_26, tR14_27, ST_stI, ST_stL, ST_stD, cl97, sp97 h0 h6 hr, cl29, sp29 hs, sh0 hs, d2, d2', hy2.1, hy2.2, bi, cl30, sp30 hs, x1, cl32, e32]
          · simp [lv_args, sStep, amStep, a_nx, a_ii, a_jj, a_ji, a_ld, a_st, a_if, a_ald, a_c1, a_c2, lkp, lput, lput2, lins, oP_none, oP_next, oP_call, oP_ret, oP_thr, outP_ite, aft_ret, aft_void, aft_thr, fHnd, List.isEmpty_nil, List.filter_cons, List.filter_nil, Value.category, csum, List.map_cons, List.map_nil, List.sum_cons, List.sum_nil, List.cons_append, List.nil_append, Option.toList, vp_nar_int, narrow_b1, narrow_b0, nc115, vc115, fc115, nc111, vc111, fc111, nc100, vc100, fc100, nc109, vc109, fc109, nc120, vc120, fc120, nc119, vc119, fc119, nc116, vc116, fc116, nc45, vc45, fc45, nc32, vc32, fc32, nc102, vc102, fc102, nc106, vc106, fc106, fin3, rf_some, rf_none, upd_ap, va_up_ap, nar_bi, fits_bi, nvp_bi, bi_t, bi_f, fval, fty, ftabs, wrv_0, wrv_1, wrv_2, wrv_3, wrv_5, mT_stI, mI_stI, mL_stI, mD_stI, mR_stI, mN_stI, mS_stI, mT_stL, mI_stL, mL_stL, mD_stL, mR_stL, mN_stL, mS_stL, mT_stD, mI_stD, mL_stD, mD_stD, mR_stD, mN_stD, mS_stD, mT_stR, mI_stR, mL_stR, mD_stR, mR_stR, mN_stR, mS_stR, mT_stN, mI_stN, mL_stN, mD_stN, mR_stN, mN_stN, mS_stN, e45_0, e45_1, e45_2, e45_5, e45_7, e45_9, e45_10, e45_11, e45_14, e45_17, e45_27, e45_29, e45_30, e45_33, e45_35, e45_38, e45_41, e45_51, e45_53, e45_55, e45_56, e45_57, e45_60, e45_62, e45_65, rt45, hn45, h0, tT0, tT1, tT2, tT3, tT4, tT5, tT6, tT7, tT8, tT9, tT10, tT11, tT12, tT13, tT14, tT15, tT16, tT17, tT18, tT19, tT20, tT21, tT22, tT23, tT24, tT25, tT26, tT27, tT28, tT29, tT30, tT31, tT32, tT33, tT34, tT35, tT36, tT37, tT38, tT39, tT40, tT41, tT42, tT43, tT44, tR0_0, tR0_6, tR0_7, tR0_8, tR0_9, tR0_11, tR0_12, tR0_14, tR2_0, tR2_1, tR6_0, tR9_0, tR9_1, tR14_0, tR14_1, tR14_2, tR14_3, tR14_4, tR14_5, tR14_6, tR14_7, tR14_8, tR14_9, tR14_10, tR14_11, tR14_12, tR14_13, tR14_14, tR14_15, tR14_16, tR14_17, tR14_18, tR14_19, tR14_20, tR14_21, tR14_22, tR14_23, tR14_24, tR14_25, tR14_26, tR14_27, ST_stI, ST_stL, ST_stD, cl97, sp97 h0 h6 hr, cl29, sp29 hs, sh0 hs, d2, d2', hy2.1, hy2.2, bi, cl30, sp30 hs, x1, cl89, sp89, e, cl32, e32]
        · have q1 : ∀ f g r, ST B (oM B (stI (stI M (p i + 1) f) (p i + 2) g) r) := fun _ _ _ => h0
          have qk : ∀ f g k, k < 45 → (va_up (va_up (mI M) (p i + 1) f) (p i + 2) g) (B + k) = mI M (B + k) := fun f g k hk => by rw [va_up_ap, if_neg (by omega), va_up_ap, if_neg (by omega)]
          rw [sp114 (q1 _ _ _) (C := C) h6 (by simp only [mI_oM, mI_stI, qk _ _ 14 (by decide)]; exact iv_ix (iv_ns h).1 hx) (by simp only [mI_oM, mI_stI, qk _ _ 15 (by decide)]; exact iv_ix d2a hy2.1) (by simp only [mI_oM, mI_stI, qk _ _ 16 (by decide)]; exact iv_ix d2b hy2.2) hw (by simp only [mI_oM, mI_stI, qk _ _ 16 (by decide)]; exact d2b) d1.2.2.2 (by omega) hcc]
          simp only [thr_cm (show ¬ 17 = 14 by decide), mI_oM, mI_stI, qk _ _ 17 (by decide), oM_stI, (d3 _ x3).1, Nat.add_assoc]
        · refine ⟨ns, np, no, nl, p, q, o, INV_2 h hi (by simp only [mT_stI]) (by simp only [mR_stI]) (by simp only [mN_stI]) (by simp only [mL_stI]) (fun a _ ha ha9 => ?_) ?_ (fun j hj hji => ?_) (fun j hj => ?_) (fun j hj => ?_) (fun j hj k hk => ?_) (fun j hj k hk => ?_) (fun j hj k hk => ?_)⟩
          · exact (va_ne (gr_k (B := B) (k := 17) (T := mT M) (by decide)) ha).trans ((va_ne (ad_p h.1 hi (j := 2) (by decide)).2 ha).trans (va_ne (ad_p h.1 hi (j := 1) (by decide)).2 ha))
          · refine ⟨R, C, d1, ?_, fun k hk => ?_, fun c2 hc2 => ?_, fun k hk => ?_⟩
            · simp [mI_stI, va_up_ap, upd_ap, u1, u2, d2, d2', d2a, d2b]
            · simp only [mI_stI, va_up_ap, if_neg (show ¬ p i + 1 = B + 17 by omega), if_neg (show ¬ p i + 1 = p i + 2 by omega), if_true, upd_ap]
              by_cases e : k = C * r + c
              · rw [if_pos e, if_pos (by omega)]
                exact ⟨rfl, hcn, fun h => absurd h (by omega)⟩
              · rw [if_neg e, if_neg (by omega)]
                exact d3 k hk
            · simp only [mI_stI, va_up_ap, if_neg (show ¬ p i + 2 = B + 17 by omega), if_neg (show ¬ p i + 1 = B + 17 by omega), if_neg (show ¬ p i + 1 = p i + 2 by omega), if_pos rfl]
              exact tm_cnt x3 d4 (d3 _ x3).2.1 hcn hc2
            · simp only [mI_stI, va_up_ap, if_neg (show ¬ p i + 3 = B + 17 by omega), if_neg (show ¬ p i + 3 = p i + 2 by omega), if_neg (show ¬ p i + 3 = p i + 1 by omega), if_neg (show ¬ p i + 4 = B + 17 by omega), if_neg (show ¬ p i + 4 = p i + 2 by omega), if_neg (show ¬ p i + 4 = p i + 1 by omega), if_neg (show ¬ B + 18 = B + 17 by omega), if_neg (show ¬ B + 19 = B + 17 by omega), if_neg (show ¬ B + 18 = p i + 2 by omega), if_neg (show ¬ B + 18 = p i + 1 by omega), if_neg (show ¬ B + 19 = p i + 2 by omega), if_neg (show ¬ B + 19 = p i + 1 by omega)]
              exact d5 k hk
          · have lj := p_lo h hj
            have n0 := fun t u ht hu => @p_ne B s L M ns np no nl p q o h i j t u hi hj hji ht hu
            simp only [mI_stI]
            refine ⟨?_, ?_, ?_, ?_, ?_⟩ <;> rw [va_up_ap, if_neg (by omega), va_up_ap, if_neg, va_up_ap, if_neg]
            · exact n0 0 1 (by decide) (by decide)
            · exact n0 0 2 (by decide) (by decide)
            · exact n0 1 1 (by decide) (by decide)
            · exact n0 1 2 (by decide) (by decide)
            · exact n0 2 1 (by decide) (by decide)
            · exact n0 2 2 (by decide) (by decide)
            · exact n0 3 1 (by decide) (by decide)
            · exact n0 3 2 (by decide) (by decide)
            · exact n0 4 1 (by decide) (by decide)
            · exact n0 4 2 (by decide) (by decide)
          · simp [mI_stI, va_up_ap, upd_ap, u1, u2]
          · simp [mI_stI, va_up_ap, upd_ap, u1, u2]
          · simp [mI_stI, va_up_ap, upd_ap, u1, u2]
            intro e
            omega
          · simp [mI_stI, va_up_ap, upd_ap, u1, u2]
          · simp [mI_stI, va_up_ap, upd_ap, u1, u2]
      · obtain ⟨e1, e2⟩ := cn_not (nt hw)
        refine go_th (GO_th h 0 2 0 (by simp) (fun Q => ?_) (fun h2 Q => ?_))
        · unfold CaP
          simp [lv_args, sStep, amStep, a_nx, a_ii, a_jj, a_ji, a_ld, a_st, a_if, a_ald, a_c1, a_c2, lkp, lput, lput2, lins, oP_none, oP_next, oP_call, oP_ret, oP_thr, outP_ite, aft_ret, aft_void, aft_thr, fHnd, List.isEmpty_nil, List.filter_cons, List.filter_nil, Value.category, csum, List.map_cons, List.map_nil, List.sum_cons, List.sum_nil, List.cons_append, List.nil_append, Option.toList, vp_nar_int, narrow_b1, narrow_b0, nc115, vc115, fc115, nc111, vc111, fc111, nc100, vc100, fc100, nc109, vc109, fc109, nc120, vc120, fc120, nc119, vc119, fc119, nc116, vc116, fc116, nc45, vc45, fc45, nc32, vc32, fc32, nc102, vc102, fc102, nc106, vc106, fc106, fin3, rf_some, rf_none, upd_ap, va_up_ap, nar_bi, fits_bi, nvp_bi, bi_t, bi_f, fval, fty, ftabs, wrv_0, wrv_1, wrv_2, wrv_3, wrv_5, mT_stI, mI_stI, mL_stI, mD_stI, mR_stI, mN_stI, mS_stI, mT_stL, mI_stL, mL_stL, mD_stL, mR_stL, mN_stL, mS_stL, mT_stD, mI_stD, mL_stD, mD_stD, mR_stD, mN_stD, mS_stD, mT_stR, mI_stR, mL_stR, mD_stR, mR_stR, mN_stR, mS_stR, mT_stN, mI_stN, mL_stN, mD_stN, mR_stN, mN_stN, mS_stN, e45_0, e45_1, e45_2, e45_5, e45_7, e45_9, e45_10, e45_11, e45_14, e45_17, e45_27, e45_29, e45_30, e45_33, e45_35, e45_38, e45_41, e45_51, e45_53, e45_55, e45_56, e45_57, e45_60, e45_62, e45_65, rt45, hn45, h0, tT0, tT1, tT2, tT3, tT4, tT5, tT6, tT7, tT8, tT9, tT10, tT11, tT12, tT13, tT14, tT15, tT16, tT17, tT18, tT19, tT20, tT21, tT22, tT23, tT24, tT25, tT26, tT27, tT28, tT29, tT30, tT31, tT32, tT33, tT34, tT35, tT36, tT37, tT38, tT39, tT40, tT41, tT42, tT43, tT44, tR0_0, tR0_6, tR0_7, tR0_8, tR0_9, tR0_11, tR0_12, tR0_14, tR2_0, tR2_1, tR6_0, tR9_0, tR9_1, tR14_0, tR14_1, tR14_2, tR14_3, tR14_4, tR14_5, tR14_6, tR14_7, tR14_8, tR14_9, tR14_10, tR14_11, tR14_12, tR14_13, tR14_14, tR14_15, tR14_16, tR14_17, tR14_18, tR14_19, tR14_20, tR14_21, tR14_22, tR14_23, tR14_24, tR14_25, tR14_26, tR14_27, ST_stI, ST_stL, ST_stD, cl97, sp97 h0 h6 hr, cl29, sp29 hs, sh0 hs, d2, d2', hy2.1, hy2.2, bi, e1, cl89, sp89, e2]
        · have qk : ∀ k, k < 45 → mI (stN M 0 0 6) (B + k) = mI M (B + k) := fun k hk => by rw [mI_stN, va_up_ap, if_neg (by omega)]
          exact sp114y (INV_ST h2) h6 (iv_ix (iv_ns h2).1 hx) (by rw [qk 15 (by decide), qk 16 (by decide), d2a, d2b, nt hw, Bool.and_false])
    · refine go_th (GO_th h 0 2 0 (by simp) (fun Q => ?_) (fun h2 Q => ?_))
      · unfold CaP
        simp [lv_args, sStep, amStep, a_nx, a_ii, a_jj, a_ji, a_ld, a_st, a_if, a_ald, a_c1, a_c2, lkp, lput, lput2, lins, oP_none, oP_next, oP_call, oP_ret, oP_thr, outP_ite, aft_ret, aft_void, aft_thr, fHnd, List.isEmpty_nil, List.filter_cons, List.filter_nil, Value.category, csum, List.map_cons, List.map_nil, List.sum_cons, List.sum_nil, List.cons_append, List.nil_append, Option.toList, vp_nar_int, narrow_b1, narrow_b0, nc115, vc115, fc115, nc111, vc111, fc111, nc100, vc100, fc100, nc109, vc109, fc109, nc120, vc120, fc120, nc119, vc119, fc119, nc116, vc116, fc116, nc45, vc45, fc45, nc32, vc32, fc32, nc102, vc102, fc102, nc106, vc106, fc106, fin3, rf_some, rf_none, upd_ap, va_up_ap, nar_bi, fits_bi, nvp_bi, bi_t, bi_f, fval, fty, ftabs, wrv_0, wrv_1, wrv_2, wrv_3, wrv_5, mT_stI, mI_stI, mL_stI, mD_stI, mR_stI, mN_stI, mS_stI, mT_stL, mI_stL, mL_stL, mD_stL, mR_stL, mN_stL, mS_stL, mT_stD, mI_stD, mL_stD, mD_stD, mR_stD, mN_stD, mS_stD, mT_stR, mI_stR, mL_stR, mD_stR, mR_stR, mN_stR, mS_stR, mT_stN, mI_stN, mL_stN, mD_stN, mR_stN, mN_stN, mS_stN, e45_0, e45_1, e45_2, e45_5, e45_7, e45_9, e45_10, e45_11, e45_14, e45_17, e45_27, e45_29, e45_30, e45_33, e45_35, e45_38, e45_41, e45_51, e45_53, e45_55, e45_56, e45_57, e45_60, e45_62, e45_65, rt45, hn45, h0, tT0, tT1, tT2, tT3, tT4, tT5, tT6, tT7, tT8, tT9, tT10, tT11, tT12, tT13, tT14, tT15, tT16, tT17, tT18, tT19, tT20, tT21, tT22, tT23, tT24, tT25, tT26, tT27, tT28, tT29, tT30, tT31, tT32, tT33, tT34, tT35, tT36, tT37, tT38, tT39, tT40, tT41, tT42, tT43, tT44, tR0_0, tR0_6, tR0_7, tR0_8, tR0_9, tR0_11, tR0_12, tR0_14, tR2_0, tR2_1, tR6_0, tR9_0, tR9_1, tR14_0, tR14_1, tR14_2, tR14_3, tR14_4, tR14_5, tR14_6, tR14_7, tR14_8, tR14_9, tR14_10, tR14_11, tR14_12, tR14_13, tR14_14, tR14_15, tR14_16, tR14_17, tR14_18, tR14_19, tR14_20, tR14_21, tR14_22, tR14_23, tR14_24, tR14_25, tR14_26, tR14_27, ST_stI, ST_stL, ST_stD, cl97, sp97 h0 h6 hr, cl29, sp29 hs, sh0 hs, d2, d2', nt hy, bi]
      · have qk : ∀ k, k < 45 → mI (stN M 0 0 6) (B + k) = mI M (B + k) := fun k hk => by rw [mI_stN, va_up_ap, if_neg (by omega)]
        exact sp114y (INV_ST h2) h6 (iv_ix (iv_ns h2).1 hx) (by rw [qk 15 (by decide), qk 16 (by decide), d2a, d2b, nt hy, Bool.false_and])
  · exact go_th (GO_th h 2 1 0 (by simp) (fun Q => by unfold CaP; simp [lv_args, sStep, amStep, a_nx, a_ii, a_jj, a_ji, a_ld, a_st, a_if, a_ald, a_c1, a_c2, lkp, lput, lput2, lins, oP_none, oP_next, oP_call, oP_ret, oP_thr, outP_ite, aft_ret, aft_void, aft_thr, fHnd, List.isEmpty_nil, List.filter_cons, List.filter_nil, Value.category, csum, List.map_cons, List.map_nil, List.sum_cons, List.sum_nil, List.cons_append, List.nil_append, Option.toList, vp_nar_int, narrow_b1, narrow_b0, nc115, vc115, fc115, nc111, vc111, fc111, nc100, vc100, fc100, nc109, vc109, fc109, nc120, vc120, fc120, nc119, vc119, fc119, nc116, vc116, fc116, nc45, vc45, fc45, nc32, vc32, fc32, nc102, vc102, fc102, nc106, vc106, fc106, fin3, rf_some, rf_none, upd_ap, va_up_ap, nar_bi, fits_bi, nvp_bi, bi_t, bi_f, fval, fty, ftabs, wrv_0, wrv_1, wrv_2, wrv_3, wrv_5, mT_stI, mI_stI, mL_stI, mD_stI, mR_stI, mN_stI, mS_stI, mT_stL, mI_stL, mL_stL, mD_stL, mR_stL, mN_stL, mS_stL, mT_stD, mI_stD, mL_stD, mD_stD, mR_stD, mN_stD, mS_stD, mT_stR, mI_stR, mL_stR, mD_stR, mR_stR, mN_stR, mS_stR, mT_stN, mI_stN, mL_stN, mD_stN, mR_stN, mN_stN, mS_stN, e45_0, e45_1, e45_2, e45_5, e45_7, e45_9, e45_10, e45_11, e45_14, e45_17, e45_27, e45_29, e45_30, e45_33, e45_35, e45_38, e45_41, e45_51, e45_53, e45_55, e45_56, e45_57, e45_60, e45_62, e45_65, rt45, hn45, h0, tT0, tT1, tT2, tT3, tT4, tT5, tT6, tT7, tT8, tT9, tT10, tT11, tT12, tT13, tT14, tT15, tT16, tT17, tT18, tT19, tT20, tT21, tT22, tT23, tT24, tT25, tT26, tT27, tT28, tT29, tT30, tT31, tT32, tT33, tT34, tT35, tT36, tT37, tT38, tT39, tT40, tT41, tT42, tT43, tT44, tR0_0, tR0_6, tR0_7, tR0_8, tR0_9, tR0_11, tR0_12, tR0_14, tR2_0, tR2_1, tR6_0, tR9_0, tR9_1, tR14_0, tR14_1, tR14_2, tR14_3, tR14_4, tR14_5, tR14_6, tR14_7, tR14_8, tR14_9, tR14_10, tR14_11, tR14_12, tR14_13, tR14_14, tR14_15, tR14_16, tR14_17, tR14_18, tR14_19, tR14_20, tR14_21, tR14_22, tR14_23, tR14_24, tR14_25, tR14_26, tR14_27, ST_stI, ST_stL, ST_stD, cl97, s97x h (nt hx)]) (fun h2 Q => sp114x (INV_ST h2) (by rw [(iv_ns h2).1]; exact nt hx)))
