/-! ===== calls on one sheet: lay, isEven, pass ===== -/
theorem INV_pl {B s L : Nat} {M : AMem} {ns np no nl : Nat} {p q o : Nat → Nat} (h : INV B s L M ns np no nl p q o) {i R C : Nat} (hi : i < ns) (hR : mI M (p i) 0 = nI R) (hC : mI M (p i) 1 = nI C) (hRC : R * C ≤ 54) (hR6 : R ≤ 6) (hC9 : C ≤ 9) (P T G : Nat → Int32) (hP : ∀ k, k < 54 → P k = G (54 * i + k) ∧ isCN (P k) ∧ (R * C ≤ k → P k = -1)) (hT : ∀ c, c < 54 → T c = nI (cnt P c 54)) (hG : ∀ j, ¬ j = i → ∀ k, k < 54 → G (54 * j + k) = mI M (B + 17) (54 * j + k)) : INV B s L (stI (stI (stI M (p i + 1) P) (p i + 2) T) (B + 17) G) ns np no nl p q o := by
  have hN := ad_N h.1
  obtain ⟨h6, hr, hs⟩ := iv_rs h hi
  obtain ⟨lo, hi2⟩ := p_lo h hi
  obtain ⟨u1, u2⟩ := iv_np5 h hi
  obtain ⟨R', C', d1, ⟨d2, d2', d2a, d2b⟩, d3, d4, d5⟩ := iv_SD h hi
  have e1 : R' = R := nIinj (by omega) (by omega) (d2.symm.trans hR)
  have e2 : C' = C := nIinj (by omega) (by omega) (d2'.symm.trans hC)
  subst e1
  subst e2
  refine INV_2 h hi (by simp only [mT_stI]) (by simp only [mR_stI]) (by simp only [mN_stI]) (by simp only [mL_stI]) (fun a _ ha ha9 => ?_) ?_ (fun j hj hji => ?_) (fun j hj => ?_) (fun j hj => ?_) (fun j hj k hk => ?_) (fun j hj k hk => ?_) (fun j hj k hk => ?_)
  · exact (va_ne (gr_k (B := B) (k := 17) (T := mT M) (by decide)) ha).trans ((va_ne (ad_p h.1 hi (j := 2) (by decide)).2 ha).trans (va_ne (ad_p h.1 hi (j := 1) (by decide)).2 ha))
  · refine ⟨R', C', d1, ?_, fun k hk => ?_, fun c2 hc2 => ?_, fun k hk => ?_⟩
    · simp [mI_stI, va_up_ap, upd_ap, u1, u2, d2, d2', d2a, d2b]
    · simp only [mI_stI, va_up_ap, if_neg (show ¬ p i + 1 = B + 17 by omega), if_neg (show ¬ p i + 1 = p i + 2 by omega), if_true]
      exact hP k hk
    · simp only [mI_stI, va_up_ap, if_neg (show ¬ p i + 2 = B + 17 by omega), if_neg (show ¬ p i + 1 = B + 17 by omega), if_neg (show ¬ p i + 1 = p i + 2 by omega), if_true]
      exact hT c2 hc2
    · simp only [mI_stI, va_up_ap, if_neg (show ¬ p i + 3 = B + 17 by omega), if_neg (show ¬ p i + 3 = p i + 2 by omega), if_neg (show ¬ p i + 3 = p i + 1 by omega), if_neg (show ¬ p i + 4 = B + 17 by omega), if_neg (show ¬ p i + 4 = p i + 2 by omega), if_neg (show ¬ p i + 4 = p i + 1 by omega), if_neg (show ¬ B + 18 = B + 17 by omega), if_neg (show ¬ B + 19 = B + 17 by omega), if_neg (show ¬ B + 18 = p i + 2 by omega), if_neg (show ¬ B + 18 = p i + 1 by omega), if_neg (show ¬ B + 19 = p i + 2 by omega), if_neg (show ¬ B + 19 = p i + 1 by omega)]
      exact d5 k hk
  · have lj := p_lo h hj
    have n0 := fun t u ht hu => @p_ne B s L M ns np no nl p q o h i j t u hi hj hji ht hu
    simp only [mI_stI]
    refine ⟨?_, ?_, ?_, ?_, ?_⟩ <;> rw [va_up_ap, if_neg (by omega), va_up_ap, if_neg, va_up_ap, if_neg]
    · exact n0 0 1 (by decide) (by decide)
    · exact n0 0 2 (by decide) (by decide)
    · exact n0 1 1 (by decide) (by decide)
    · exact n0 1 2 (by decide) (by decide)
    · exact n0 2 1 (by decide) (by decide)
    · exact n0 2 2 (by decide) (by decide)
    · exact n0 3 1 (by decide) (by decide)
    · exact n0 3 2 (by decide) (by decide)
    · exact n0 4 1 (by decide) (by decide)
    · exact n0 4 2 (by decide) (by decide)
  · simp [mI_stI, va_up_ap, upd_ap, u1, u2]
  · simp [mI_stI, va_up_ap, upd_ap, u1, u2]
  · simp only [mI_stI, va_up_ap, if_true]
    exact hG j hj k hk
  · simp [mI_stI, va_up_ap, upd_ap, u1, u2]
  · simp [mI_stI, va_up_ap, upd_ap, u1, u2]
theorem layF_lo {f : Nat → Int32} {o : Nat} {c : Int32} {k j : Nat} (h : j < o ∨ o + k ≤ j) : (layF f o c k).1 j = f j := by
  induction k with
  | zero => rfl
  | succ k ih =>
    have i1 := ih (by omega)
    unfold layF
    by_cases e : f (o + k) = -1
    · rw [if_pos e]
      show upd _ (o + k) _ j = f j
      rw [upd_ap, if_neg (by omega)]
      exact i1
    · rw [if_neg e]
      exact i1
theorem layF_rel {F G : Nat → Int32} {i : Nat} {c : Int32} (h : ∀ k, k < 54 → F k = G (54 * i + k)) : ∀ n, n ≤ 54 → (layF F 0 c n).2 = (layF G (54 * i) c n).2 ∧ ∀ k, k < 54 → (layF F 0 c n).1 k = (layF G (54 * i) c n).1 (54 * i + k) := by
  intro n
  induction n with
  | zero => intro _; exact ⟨rfl, h⟩
  | succ n ih =>
    intro hn
    obtain ⟨i1, i2⟩ := ih (by omega)
    have e0 : F (0 + n) = G (54 * i + n) := by rw [Nat.zero_add]; exact h n (by omega)
    unfold layF
    by_cases e : F (0 + n) = -1
    · rw [if_pos e, if_pos (e0 ▸ e), i1]
      refine ⟨rfl, fun k hk => ?_⟩
      show upd _ (0 + n) _ k = upd _ (54 * i + n) _ (54 * i + k)
      rw [upd_ap, upd_ap]
      by_cases ek : k = n
      · rw [if_pos (by omega), if_pos (by omega)]
      · rw [if_neg (by omega), if_neg (by omega)]
        exact i2 k hk
    · rw [if_neg e, if_neg (fun e2 => e (e0.trans e2))]
      exact ⟨i1, i2⟩
theorem layF_in {F T : Nat → Int32} {c : Nat} (hc : c < 54) (h : ∀ k, k < 54 → isCN (F k)) (hT : ∀ d, d < 54 → T d = nI (cnt F d 54)) : ∀ n, n ≤ 54 → (∀ k, k < 54 → isCN ((layF F 0 (nI c) n).1 k)) ∧ ∀ d, d < 54 → tlF F T (nI c) n d = nI (cnt (layF F 0 (nI c) n).1 d 54) := by
  intro n
  induction n with
  | zero => intro _; exact ⟨h, hT⟩
  | succ n ih =>
    intro hn
    obtain ⟨i1, i2⟩ := ih (by omega)
    have hle := @lay_le F 0 (nI c) n
    have hx : rem54 (nI c + nI (layF F 0 (nI c) n).2) = nI ((c + (layF F 0 (nI c) n).2) % 54) := rem54_nI hc (by omega)
    have hxc : isCN (rem54 (nI c + nI (layF F 0 (nI c) n).2)) := Or.inr ⟨_, Nat.mod_lt _ (by decide), hx⟩
    have hhi := @layF_hi0 F (nI c) n n (Nat.le_refl n)
    unfold layF tlF
    rw [Nat.zero_add]
    by_cases e : F n = -1
    · rw [if_pos e, if_pos e]
      refine ⟨fun k hk => ?_, fun d hd => ?_⟩
      · show isCN (upd _ n _ k)
        rw [upd_ap]
        by_cases ek : k = n
        · rw [if_pos ek]; exact hxc
        · rw [if_neg ek]; exact i1 k hk
      · have := @tm_cnt (layF F 0 (nI c) n).1 (tlF F T (nI c) n) (rem54 (nI c + nI (layF F 0 (nI c) n).2)) n d (by omega) i2 (by rw [hhi, e]; exact Or.inl rfl) hxc hd
        rw [hhi, e] at this
        exact this
    · rw [if_neg e, if_neg e]
      exact ⟨i1, i2⟩
theorem op3 {B s L : Nat} {M : AMem} {ns np no nl : Nat} {p q o : Nat → Nat} (h : INV B s L M ns np no nl p q o) (x : Int32) (y : Int32) : GO B s L 47 116 [.int x, .int y] [(2, 1), (0, 2)] M := by
  have h0 := INV_ST h
  have hsB := h.1.1.2.1
  have hN := ad_N h.1
  by_cases hx : inR x 0 (nI ns - 1) = true
  · obtain ⟨i, hi, rfl⟩ := in_ix (iv_ns h).2 (by decide) hx
    obtain ⟨h6, hr, hs⟩ := iv_rs h hi
    obtain ⟨lo, hi2⟩ := p_lo h hi
    obtain ⟨u1, u2⟩ := iv_np5 h hi
    obtain ⟨R, C, d1, ⟨d2, d2', d2a, d2b⟩, d3, d4, d5⟩ := iv_SD h hi
    have hRC := RC_le d1
    by_cases hy : inR y 0 53 = true
    · obtain ⟨c, hc, rfl⟩ := inR_of (n := 53) rfl (by decide) hy
      have hc54 : c < 54 := by omega
      have hcn : ∀ k, k < 54 → isCN (mI M (p i + 1) k) := fun k hk => (d3 k hk).2.1
      obtain ⟨r1, r2⟩ := layF_rel (c := nI c) (fun k hk => (d3 k hk).1) (R * C) hRC
      obtain ⟨t1, t2⟩ := layF_in hc54 hcn d4 (R * C) hRC
      refine go_w5 (M1 := stI (stI M (p i + 1) (layF (mI M (p i + 1)) 0 (nI c) (R * C)).1) (p i + 2) (tlF (mI M (p i + 1)) (mI M (p i + 2)) (nI c) (R * C))) (M5 := stI (stI (stI M (p i + 1) (layF (mI M (p i + 1)) 0 (nI c) (R * C)).1) (p i + 2) (tlF (mI M (p i + 1)) (mI M (p i + 2)) (nI c) (R * C))) (B + 17) (layF (mI M (B + 17)) (54 * i) (nI c) (R * C)).1) (r := nI (layF (mI M (p i + 1)) 0 (nI c) (R * C)).2) hsB (fun Q => ?_) (SK_stI (SK_stI (SK_rf h0) (by omega)) (by omega)) (fun Q => ?_) (SK_Bk (SK_stI (SK_stI (SK_rf h0) (by omega)) (by omega)) hsB) (by simp only [mN_stI]; exact Nat.le_add_right _ _) (by simp only [mS_stI]; exact Nat.le_add_right _ _) ⟨ns, np, no, nl, p, q, o, INV_pl h hi d2 d2' hRC d1.2.1 d1.2.2.2 _ _ _ (fun k hk => ⟨r2 k hk, t1 k hk, fun hk2 => ?_⟩) t2 (fun j hj k hk => layF_lo ?_)⟩
      · unfold CaP
        simp [lv_args, sStep, amStep, a_nx, a_ii, a_jj, a_ji, a_ld, a_st, a_if, a_ald, a_c1, a_c2, lkp, lput, lput2, lins, oP_none, oP_next, oP_call, oP_ret, oP_thr, outP_ite, aft_ret, aft_void, aft_thr, fHnd, List.isEmpty_nil, List.filter_cons, List.filter_nil, Value.category, csum, List.map_cons, List.map_nil, List.sum_cons, List.sum_nil, List.cons_append, List.nil_append, Option.toList, vp_nar_int, narrow_b1, narrow_b0, nc115, vc115, fc115, nc111, vc111, fc111, nc100, vc100, fc100, nc109, vc109, fc109, nc120, vc120, fc120, nc119, vc119, fc119, nc116, vc116, fc116, nc45, vc45, fc45, nc32, vc32, fc32, nc102, vc102, fc102, nc106, vc106, fc106, fin3, rf_some, rf_none, upd_ap, va_up_ap, nar_bi, fits_bi, nvp_bi, bi_t, bi_f, fval, fty, ftabs, wrv_0, wrv_1, wrv_2, wrv_3, wrv_5, mT_stI, mI_stI, mL_stI, mD_stI, mR_stI, mN_stI, mS_stI, mT_stL, mI_stL, mL_stL, mD_stL, mR_stL, mN_stL, mS_stL, mT_stD, mI_stD, mL_stD, mD_stD, mR_stD, mN_stD, mS_stD, mT_stR, mI_stR, mL_stR, mD_stR, mR_stR, mN_stR, mS_stR, mT_stN, mI_stN, mL_stN, mD_stN, mR_stN, mN_stN, mS_stN, e47_0, e47_1, e47_2, e47_5, e47_6, e47_7, e47_10, e47_11, e47_12, e47_15, rt47, hn47, h0, tT0, tT1, tT2, tT3, tT4, tT5, tT6, tT7, tT8, tT9, tT10, tT11, tT12, tT13, tT14, tT15, tT16, tT17, tT18, tT19, tT20, tT21, tT22, tT23, tT24, tT25, tT26, tT27, tT28, tT29, tT30, tT31, tT32, tT33, tT34, tT35, tT36, tT37, tT38, tT39, tT40, tT41, tT42, tT43, tT44, tR0_0, tR0_6, tR0_7, tR0_8, tR0_9, tR0_11, tR0_12, tR0_14, tR2_0, tR2_1, tR6_0, tR9_0, tR9_1, tR14_0, tR14_1, tR14_2, tR14_3, tR14_4, tR14_5, tR14_6, tR14_7, tR14_8, tR14_9, tR14_10, tR14_11, tR14_12, tR14_13, tR14_14, tR14_15, tR14_16, tR14_17, tR14_18, tR14_19, tR14_20, tR14_21, tR14_22, tR14_23, tR14_24, tR14_25, tR14_26, tR14_27, ST_stI, ST_stL, ST_stD, cl97, sp97 h0 h6 hr, cl93, sp93, hy, cl33, sp33 hs d2 d2' hRC hc54 hcn, sh0 hs]
      · have q1 : ∀ f g r, ST B (oM B (stI (stI M (p i + 1) f) (p i + 2) g) r) := fun _ _ _ => h0
        have qk : ∀ f g k, k < 45 → (va_up (va_up (mI M) (p i + 1) f) (p i + 2) g) (B + k) = mI M (B + k) := fun f g k hk => by rw [va_up_ap, if_neg (by omega), va_up_ap, if_neg (by omega)]
        rw [sp116 (q1 _ _ _) (R := R) (C := C) h6 (by simp only [mI_oM, mI_stI, qk _ _ 14 (by decide)]; exact iv_ix (iv_ns h).1 hx) hy (by simp only [mI_oM, mI_stI, qk _ _ 15 (by decide)]; exact d2a) (by simp only [mI_oM, mI_stI, qk _ _ 16 (by decide)]; exact d2b) hRC]
        simp only [thr_cm (show ¬ 17 = 14 by decide), mI_oM, mI_stI, qk _ _ 17 (by decide), oM_stI, r1]
      · rw [layF_hi0 hk2]
        exact (d3 k hk).2.2 hk2
      · rcases Nat.lt_or_gt_of_ne hj with h3 | h3
        · exact Or.inl (by omega)
        · exact Or.inr (by omega)
    · refine go_th (GO_th h 0 2 0 (by simp) (fun Q => ?_) (fun h2 Q => ?_))
      · unfold CaP
        simp [lv_args, sStep, amStep, a_nx, a_ii, a_jj, a_ji, a_ld, a_st, a_if, a_ald, a_c1, a_c2, lkp, lput, lput2, lins, oP_none, oP_next, oP_call, oP_ret, oP_thr, outP_ite, aft_ret, aft_void, aft_thr, fHnd, List.isEmpty_nil, List.filter_cons, List.filter_nil, Value.category, csum, List.map_cons, List.map_nil, List.sum_cons, List.sum_nil, List.cons_append, List.nil_append, Option.toList, vp_nar_int, narrow_b1, narrow_b0, nc115, vc115, fc115, nc111, vc111, fc111, nc100, vc100, fc100, nc109, vc109, fc109, nc120, vc120, fc120, nc119, vc119, fc119, nc116, vc116, fc116, nc45, vc45, fc45, nc32, vc32, fc32, nc102, vc102, fc102, nc106, vc106, fc106, fin3, rf_some, rf_none, upd_ap, va_up_ap, nar_bi, fits_bi, nvp_bi, bi_t, bi_f, fval, fty, ftabs, wrv_0, wrv_1, wrv_2, wrv_3, wrv_5, mT_stI, mI_stI, mL_stI, mD_stI, mR_stI, mN_stI, mS_stI, mT_stL, mI_stL, mL_stL, mD_stL, mR_stL, mN_stL, mS_stL, mT_stD, mI_stD, mL_stD, mD_stD, mR_stD, mN_stD, mS_stD, mT_stR, mI_stR, mL_stR, mD_stR, mR_stR, mN_stR, mS_stR, mT_stN, mI_stN, mL_stN, mD_stN, mR_stN, mN_stN, mS_stN, e47_0, e47_1, e47_2, e47_5, e47_6, e47_7, e47_10, e47_11, e47_12, e47_15, rt47, hn47, h0, tT0, tT1, tT2, tT3, tT4, tT5, tT6, tT7, tT8, tT9, tT10, tT11, tT12, tT13, tT14, tT15, tT16, tT17, tT18, tT19, tT20, tT21, tT22, tT23, tT24, tT25, tT26, tT27, tT28, tT29, tT30, tT31, tT32, tT33, tT34, tT35, tT36, tT37, tT38, tT39, tT40, tT41, tT42, tT43, tT44, tR0_0, tR0_6, tR0_7, tR0_8, tR0_9, tR0_11, tR0_12, tR0_14, tR2_0, tR2_1, tR6_0, tR9_0, tR9_1, tR14_0, tR14_1, tR14_2, tR14_3, tR14_4, tR14_5, tR14_6, tR14_7, tR14_8, tR14_9, tR14_10, tR14_11, tR14_12, tR14_13, tR14_14, tR14_15, tR14_16, tR14_17, tR14_18, tR14_19, tR14_20, tR14_21, tR14_22, tR14_23, tR14_24, tR14_25, tR14_26, tR14_27, ST_stI, ST_stL, ST_stD, cl97, sp97 h0 h6 hr, cl93, sp93, nt hy]
      · exact sp116y (INV_ST h2) (iv_ix (iv_ns h2).1 hx) (nt hy)
  · exact go_th (GO_th h 2 1 0 (by simp) (fun Q => by unfold CaP; simp [lv_args, sStep, amStep, a_nx, a_ii, a_jj, a_ji, a_ld, a_st, a_if, a_ald, a_c1, a_c2, lkp, lput, lput2, lins, oP_none, oP_next, oP_call, oP_ret, oP_thr, outP_ite, aft_ret, aft_void, aft_thr, fHnd, List.isEmpty_nil, List.filter_cons, List.filter_nil, Value.category, csum, List.map_cons, List.map_nil, List.sum_cons, List.sum_nil, List.cons_append, List.nil_append, Option.toList, vp_nar_int, narrow_b1, narrow_b0, nc115, vc115, fc115, nc111, vc111, fc111, nc100, vc100, fc100, nc109, vc109, fc109, nc120, vc120, fc120, nc119, vc119, fc119, nc116, vc116, fc116, nc45, vc45, fc45, nc32, vc32, fc32, nc102, vc102, fc102, nc106, vc106, fc106, fin3, rf_some, rf_none, upd_ap, va_up_ap, nar_bi, fits_bi, nvp_bi, bi_t, bi_f, fval, fty, ftabs, wrv_0, wrv_1, wrv_2, wrv_3, wrv_5, mT_stI, mI_stI, mL_stI, mD_stI, mR_stI, mN_stI, mS_stI, mT_stL, mI_stL, mL_stL, mD_stL, mR_stL, mN_stL, mS_stL, mT_stD, mI_stD, mL_stD, mD_stD, mR_stD, mN_stD, mS_stD, mT_stR, mI_stR, mL_stR, mD_stR, mR_stR, mN_stR, mS_stR, mT_stN, mI_stN, mL_stN, mD_stN, mR_stN, mN_stN, mS_stN, e47_0, e47_1, e47_2, e47_5, e47_6, e47_7, e47_10, e47_11, e47_12, e47_15, rt47, hn47, h0, tT0, tT1, tT2, tT3, tT4, tT5, tT6, tT7, tT8, tT9, tT10, tT11, tT12, tT13, tT14, tT15, tT16, tT17, tT18, tT19, tT20, tT21, tT22, tT23, tT24, tT25, tT26, tT27, tT28, tT29, tT30, tT31, tT32, tT33, tT34, tT35, tT36, tT37, tT38, tT39, tT40, tT41, tT42, tT43, tT44, tR0_0, tR0_6, tR0_7, tR0_8, tR0_9, tR0_11, tR0_12, tR0_14, tR2_0, tR2_1, tR6_0, tR9_0, tR9_1, tR14_0, tR14_1, tR14_2, tR14_3, tR14_4, tR14_5, tR14_6, tR14_7, tR14_8, tR14_9, tR14_10, tR14_11, tR14_12, tR14_13, tR14_14, tR14_15, tR14_16, tR14_17, tR14_18, tR14_19, tR14_20, tR14_21, tR14_22, tR14_23, tR14_24, tR14_25, tR14_26, tR14_27, ST_stI, ST_stL, ST_stD, cl97, s97x h (nt hx)]) (fun h2 Q => sp116x (INV_ST h2) (by rw [(iv_ns h2).1]; exact nt hx)))
theorem evF_ext {T T' : Nat → Int32} : ∀ n, (∀ k, k < n → T k = T' k) → evF T n = evF T' n := by
  intro n
  induction n with
  | zero => intro _; rfl
  | succ n ih =>
    intro h
    unfold evF
    rw [ih (fun k hk => h k (by omega)), h n (by omega)]
theorem op4 {B s L : Nat} {M : AMem} {ns np no nl : Nat} {p q o : Nat → Nat} (h : INV B s L M ns np no nl p q o) (x : Int32) : GB B s L 48 118 [.int x] [(2, 1)] M := by
  have h0 := INV_ST h
  have hsB := h.1.1.2.1
  have hN := ad_N h.1
  by_cases hx : inR x 0 (nI ns - 1) = true
  · obtain ⟨i, hi, rfl⟩ := in_ix (iv_ns h).2 (by decide) hx
    obtain ⟨h6, hr, hs⟩ := iv_rs h hi
    obtain ⟨lo, hi2⟩ := p_lo h hi
    obtain ⟨u1, u2⟩ := iv_np5 h hi
    obtain ⟨R, C, d1, ⟨d2, d2', d2a, d2b⟩, d3, d4, d5⟩ := iv_SD h hi
    have hRC := RC_le d1
    have hcn : ∀ k, k < 54 → isCN (mI M (B + 17) (54 * i + k)) := fun k hk => by rw [← (d3 k hk).1]; exact (d3 k hk).2.1
    have ev : evF (mI M (p i + 2)) 54 = evF (cntF (fillF (mI M (B + 29)) 0 0 54) (fun k => mI M (B + 17) (54 * i + k)) (R * C)) 54 := by
      refine evF_ext 54 (fun c hc => ?_)
      rw [cntF_eq hc (fun k hk => hcn k (by omega)), d4 c hc, cnt_m1 hc hRC (fun k h1 h2 => (d3 k h2).2.2 h1)]
      rw [cnt_hi (R * C) (fun k hk => (d3 k (by omega)).1)]
    refine gb_rc (x := 29) (z := cntF (fillF (mI M (B + 29)) 0 0 54) (fun k => mI M (B + 17) (54 * i + k)) (R * C)) h (gr_k (by decide)) (by omega) (evF (mI M (p i + 2)) 54).1 (fun Q => ?_) (fun Q => ?_)
    · unfold CaP
      simp [lv_args, sStep, amStep, a_nx, a_ii, a_jj, a_ji, a_ld, a_st, a_if, a_ald, a_c1, a_c2, lkp, lput, lput2, lins, oP_none, oP_next, oP_call, oP_ret, oP_thr, outP_ite, aft_ret, aft_void, aft_thr, fHnd, List.isEmpty_nil, List.filter_cons, List.filter_nil, Value.category, csum, List.map_cons, List.map_nil, List.sum_cons, List.sum_nil, List.cons_append, List.nil_append, Option.toList, vp_nar_int, narrow_b1, narrow_b0, nc115, vc115, fc115, nc111, vc111, fc111, nc100, vc100, fc100, nc109, vc109, fc109, nc120, vc120, fc120, nc119, vc119, fc119, nc116, vc116, fc116, nc45, vc45, fc45, nc32, vc32, fc32, nc102, vc102, fc102, nc106, vc106, fc106, fin3, rf_some, rf_none, upd_ap, va_up_ap, nar_bi, fits_bi, nvp_bi, bi_t, bi_f, fval, fty, ftabs, wrv_0, wrv_1, wrv_2, wrv_3, wrv_5, mT_stI, mI_stI, mL_stI, mD_stI, mR_stI, mN_stI, mS_stI, mT_stL, mI_stL, mL_stL, mD_stL, mR_stL, mN_stL, mS_stL, mT_stD, mI_stD, mL_stD, mD_stD, mR_stD, mN_stD, mS_stD, mT_stR, mI_stR, mL_stR, mD_stR, mR_stR, mN_stR, mS_stR, mT_stN, mI_stN, mL_stN, mD_stN, mR_stN, mN_stN, mS_stN, e48_0, e48_1, e48_2, e48_5, e48_8, rt48, hn48, h0, tT0, tT1, tT2, tT3, tT4, tT5, tT6, tT7, tT8, tT9, tT10, tT11, tT12, tT13, tT14, tT15, tT16, tT17, tT18, tT19, tT20, tT21, tT22, tT23, tT24, tT25, tT26, tT27, tT28, tT29, tT30, tT31, tT32, tT33, tT34, tT35, tT36, tT37, tT38, tT39, tT40, tT41, tT42, tT43, tT44, tR0_0, tR0_6, tR0_7, tR0_8, tR0_9, tR0_11, tR0_12, tR0_14, tR2_0, tR2_1, tR6_0, tR9_0, tR9_1, tR14_0, tR14_1, tR14_2, tR14_3, tR14_4, tR14_5, tR14_6, tR14_7, tR14_8, tR14_9, tR14_10, tR14_11, tR14_12, tR14_13, tR14_14, tR14_15, tR14_16, tR14_17, tR14_18, tR14_19, tR14_20, tR14_21, tR14_22, tR14_23, tR14_24, tR14_25, tR14_26, tR14_27, ST_stI, ST_stL, ST_stD, cl97, sp97 h0 h6 hr, cl34, sp34 hs (fun c hc => ⟨_, Nat.lt_of_le_of_lt cnt_le (by decide), d4 c hc⟩), sh0 hs]
    · rw [sp118 (M := oM B M _) (R := R) (C := C) h0 h6 (iv_ix (iv_ns h).1 hx) d2a d2b hRC hcn, mI_oM, ev]
  · exact gb_th (GO_th h 2 1 0 (by simp) (fun Q => by unfold CaP; simp [lv_args, sStep, amStep, a_nx, a_ii, a_jj, a_ji, a_ld, a_st, a_if, a_ald, a_c1, a_c2, lkp, lput, lput2, lins, oP_none, oP_next, oP_call, oP_ret, oP_thr, outP_ite, aft_ret, aft_void, aft_thr, fHnd, List.isEmpty_nil, List.filter_cons, List.filter_nil, Value.category, csum, List.map_cons, List.map_nil, List.sum_cons, List.sum_nil, List.cons_append, List.nil_append, Option.toList, vp_nar_int, narrow_b1, narrow_b0, nc115, vc115, fc115, nc111, vc111, fc111, nc100, vc100, fc100, nc109, vc109, fc109, nc120, vc120, fc120, nc119, vc119, fc119, nc116, vc116, fc116, nc45, vc45, fc45, nc32, vc32, fc32, nc102, vc102, fc102, nc106, vc106, fc106, fin3, rf_some, rf_none, upd_ap, va_up_ap, nar_bi, fits_bi, nvp_bi, bi_t, bi_f, fval, fty, ftabs, wrv_0, wrv_1, wrv_2, wrv_3, wrv_5, mT_stI, mI_stI, mL_stI, mD_stI, mR_stI, mN_stI, mS_stI, mT_stL, mI_stL, mL_stL, mD_stL, mR_stL, mN_stL, mS_stL, mT_stD, mI_stD, mL_stD, mD_stD, mR_stD, mN_stD, mS_stD, mT_stR, mI_stR, mL_stR, mD_stR, mR_stR, mN_stR, mS_stR, mT_stN, mI_stN, mL_stN, mD_stN, mR_stN, mN_stN, mS_stN, e48_0, e48_1, e48_2, e48_5, e48_8, rt48, hn48, h0, tT0, tT1, tT2, tT3, tT4, tT5, tT6, tT7, tT8, tT9, tT10, tT11, tT12, tT13, tT14, tT15, tT16, tT17, tT18, tT19, tT20, tT21, tT22, tT23, tT24, tT25, tT26, tT27, tT28, tT29, tT30, tT31, tT32, tT33, tT34, tT35, tT36, tT37, tT38, tT39, tT40, tT41, tT42, tT43, tT44, tR0_0, tR0_6, tR0_7, tR0_8, tR0_9, tR0_11, tR0_12, tR0_14, tR2_0, tR2_1, tR6_0, tR9_0, tR9_1, tR14_0, tR14_1, tR14_2, tR14_3, tR14_4, tR14_5, tR14_6, tR14_7, tR14_8, tR14_9, tR14_10, tR14_11, tR14_12, tR14_13, tR14_14, tR14_15, tR14_16, tR14_17, tR14_18, tR14_19, tR14_20, tR14_21, tR14_22, tR14_23, tR14_24, tR14_25, tR14_26, tR14_27, ST_stI, ST_stL, ST_stD, cl97, s97x h (nt hx)]) (fun h2 Q => sp118x (INV_ST h2) (by rw [(iv_ns h2).1]; exact nt hx)))
theorem op5 {B s L : Nat} {M : AMem} {ns np no nl : Nat} {p q o : Nat → Nat} (h : INV B s L M ns np no nl p q o) (x : Int32) (y : Int32) (z : Int32) (w : Int32) : GO B s L 49 120 [.int x, .int y, .int z, .int w] [(2, 1), (0, 2)] M := by
  have h0 := INV_ST h
  have hsB := h.1.1.2.1
  have hN := ad_N h.1
  by_cases hx : inR x 0 (nI ns - 1) = true
  · obtain ⟨i, hi, rfl⟩ := in_ix (iv_ns h).2 (by decide) hx
    obtain ⟨h6, hr, hs⟩ := iv_rs h hi
    obtain ⟨lo, hi2⟩ := p_lo h hi
    obtain ⟨u1, u2⟩ := iv_np5 h hi
    obtain ⟨R, C, d1, ⟨d2, d2', d2a, d2b⟩, d3, d4, d5⟩ := iv_SD h hi
    have hRC := RC_le d1
    by_cases hy : inR y 0 3 = true
    · by_cases hz : (inR z (-40) 40 && inR w (-40) 40) = true
      · have hz2 := hz
        rw [Bool.and_eq_true] at hz2
        obtain ⟨t, ht, rfl⟩ := inR_of (n := 3) rfl (by decide) hy
        have ht4 : t < 4 := by omega
        have ro : ∀ k, k < 4 → inR (upd (mI M (p i + 3)) t z k) (-40) 40 = true := fun k hk => by
          rw [upd_ap]
          by_cases e : k = t
          · rw [if_pos e]; exact hz2.1
          · rw [if_neg e]; exact (d5 k hk).2.2.1
        have uo : ∀ k, k < 4 → inR (upd (mI M (p i + 4)) t w k) (-40) 40 = true := fun k hk => by
          rw [upd_ap]
          by_cases e : k = t
          · rw [if_pos e]; exact hz2.2
          · rw [if_neg e]; exact (d5 k hk).2.2.2
        have re : ∀ k, k < 4 → upd (mI M (p i + 3)) t z k = upd (mI M (B + 18)) (4 * i + t) z (4 * i + k) := fun k hk => by
          rw [upd_ap, upd_ap]
          by_cases e : k = t
          · rw [if_pos e, if_pos (by omega)]
          · rw [if_neg e, if_neg (by omega)]; exact (d5 k hk).1
        have ue : ∀ k, k < 4 → upd (mI M (p i + 4)) t w k = upd (mI M (B + 19)) (4 * i + t) w (4 * i + k) := fun k hk => by
          rw [upd_ap, upd_ap]
          by_cases e : k = t
          · rw [if_pos e, if_pos (by omega)]
          · rw [if_neg e, if_neg (by omega)]; exact (d5 k hk).2.1
        have ev : offO (fun k => upd (mI M (B + 18)) (4 * i + t) z (4 * i + k)) (fun k => upd (mI M (B + 19)) (4 * i + t) w (4 * i + k)) 4 = ocO (upd (mI M (p i + 3)) t z) (upd (mI M (p i + 4)) t w) 4 := by
          rw [off_oc ro uo]
          exact offO_ext (fun k hk => (re k hk).symm) (fun k hk => (ue k hk).symm)
        refine go_w5 (M1 := stI (stI M (p i + 3) (upd (mI M (p i + 3)) t z)) (p i + 4) (upd (mI M (p i + 4)) t w)) (M5 := stI (stI (stI (stI M (p i + 3) (upd (mI M (p i + 3)) t z)) (p i + 4) (upd (mI M (p i + 4)) t w)) (B + 18) (upd (mI M (B + 18)) (4 * i + t) z)) (B + 19) (upd (mI M (B + 19)) (4 * i + t) w)) (r := ocO (upd (mI M (p i + 3)) t z) (upd (mI M (p i + 4)) t w) 4) hsB (fun Q => ?_) (SK_stI (SK_stI (SK_rf h0) (by omega)) (by omega)) (fun Q => ?_) (SK_Bk (SK_Bk (SK_stI (SK_stI (SK_rf h0) (by omega)) (by omega)) hsB) hsB) (by simp only [mN_stI]; exact Nat.le_add_right _ _) (by simp only [mS_stI]; exact Nat.le_add_right _ _) ⟨ns, np, no, nl, p, q, o, ?_⟩
        · have hs' : SH (stI (stI M (p i + 3) (upd (mI M (p i + 3)) t z)) (p i + 4) (upd (mI M (p i + 4)) t w)) (p i) := hs
          have e36 := fun Q => @sp36 (p i) _ Q hs'
          simp only [mI_stI, va_up_ap, if_true, if_neg (show ¬ p i + 3 = p i + 4 by omega)] at e36
          unfold CaP
          simp [lv_args, sStep, amStep, a_nx, a_ii, a_jj, a_ji, a_ld, a_st, a_if, a_ald, a_c1, a_c2, lkp, lput, lput2, lins, oP_none, oP_next, oP_call, oP_ret, oP_thr, outP_ite, aft_ret, aft_void, aft_thr, fHnd, List.isEmpty_nil, List.filter_cons, List.filter_nil, Value.category, csum, List.map_cons, List.map_nil, List.sum_cons, List.sum_nil, List.cons_append, List.nil_append, Option.toList, vp_nar_int, narrow_b1, narrow_b0, nc115, vc115, fc115, nc111, vc111, fc111, nc100, vc100, fc100, nc109, vc109, fc109, nc120, vc120, fc120, nc119, vc119, fc119, nc116, vc116, fc116, nc45, vc45, fc45, nc32, vc32, fc32, nc102, vc102, fc102, nc106, vc106, fc106, fin3, rf_some, rf_none, upd_ap, va_up_ap, nar_bi, fits_bi, nvp_bi, bi_t, bi_f, fval, fty, ftabs, wrv_0, wrv_1, wrv_2, wrv_3, wrv_5, mT_stI, mI_stI, mL_stI, mD_stI, mR_stI, mN_stI, mS_stI, mT_stL, mI_stL, mL_stL, mD_stL, mR_stL, mN_stL, mS_stL, mT_stD, mI_stD, mL_stD, mD_stD, mR_stD, mN_stD, mS_stD, mT_stR, mI_stR, mL_stR, mD_stR, mR_stR, mN_stR, mS_stR, mT_stN, mI_stN, mL_stN, mD_stN, mR_stN, mN_stN, mS_stN, e49_0, e49_1, e49_2, e49_5, e49_7, e49_8, e49_9, e49_10, e49_13, e49_16, e49_26, e49_27, e49_29, e49_31, e49_34, e49_37, e49_47, e49_49, e49_50, e49_51, e49_53, e49_56, e49_58, e49_61, rt49, hn49, h0, tT0, tT1, tT2, tT3, tT4, tT5, tT6, tT7, tT8, tT9, tT10, tT11, tT12, tT13, tT14, tT15, tT16, tT17, tT18, tT19, tT20, tT21, tT22, tT23, tT24, tT25, tT26, tT27, tT28, tT29, tT30, tT31, tT32, tT33, tT34, tT35, tT36, tT37, tT38, tT39, tT40, tT41, tT42, tT43, tT44, tR0_0, tR0_6, tR0_7, tR0_8, tR0_9, tR0_11, tR0_12, tR0_14, tR2_0, tR2_1, tR6_0, tR9_0, tR9_1, tR14_0, tR14_1, tR14_2, tR14_3, tR14_4, tR14_5, tR14_6, tR14_7, tR14_8, tR14_9, tR14_10, tR14_11, tR14_12, tR14_13, tR14_14, tR14_15, tR14_16, tR14_17, tR14_18, tR14_19, tR14_20, tR14_21, tR14_22, tR14_23, tR14_24, tR14_25, tR14_26, tR14_27, ST_stI, ST_stL, ST_stD, cl97, sp97 h0 h6 hr, cl87, sp87, hy, cl88, sp88, hz2.1, hz2.2, bi, cl35, sp35 hs ht4, cl36, e36, sh0 hs]
        · have q1 : ∀ f g r, ST B (oM B (stI (stI M (p i + 3) f) (p i + 4) g) r) := fun _ _ _ => h0
          have qk : ∀ f g k, k < 45 → (va_up (va_up (mI M) (p i + 3) f) (p i + 4) g) (B + k) = mI M (B + k) := fun f g k hk => by rw [va_up_ap, if_neg (by omega), va_up_ap, if_neg (by omega)]
          rw [sp120 (q1 _ _ _) h6 ht4 (by simp only [mI_oM, mI_stI, qk _ _ 14 (by decide)]; exact iv_ix (iv_ns h).1 hx) hz]
          simp only [thr_cm (show ¬ 18 = 14 by decide), thr_cm (show ¬ 19 = 14 by decide), mI_oM, mI_stI, qk _ _ 18 (by decide), qk _ _ 19 (by decide), oM_stI, ev]
        · refine INV_2 h hi (by simp only [mT_stI]) (by simp only [mR_stI]) (by simp only [mN_stI]) (by simp only [mL_stI]) (fun a _ ha ha9 => ?_) ?_ (fun j hj hji => ?_) (fun j hj => ?_) (fun j hj => ?_) (fun j hj k hk => ?_) (fun j hj k hk => ?_) (fun j hj k hk => ?_)
          · exact (va_ne (gr_k (B := B) (k := 19) (T := mT M) (by decide)) ha).trans ((va_ne (gr_k (B := B) (k := 18) (T := mT M) (by decide)) ha).trans ((va_ne (ad_p h.1 hi (j := 4) (by decide)).2 ha).trans (va_ne (ad_p h.1 hi (j := 3) (by decide)).2 ha)))
          · refine ⟨R, C, d1, ?_, fun k hk => ?_, fun c2 hc2 => ?_, fun k hk => ?_⟩
            · simp [mI_stI, va_up_ap, upd_ap, u1, u2, d2, d2', d2a, d2b]
            · simp only [mI_stI, va_up_ap, if_neg (show ¬ p i + 1 = B + 19 by omega), if_neg (show ¬ p i + 1 = B + 18 by omega), if_neg (show ¬ p i + 1 = p i + 4 by omega), if_neg (show ¬ p i + 1 = p i + 3 by omega), if_neg (show ¬ B + 17 = B + 19 by omega), if_neg (show ¬ B + 17 = B + 18 by omega), if_neg (show ¬ B + 17 = p i + 4 by omega), if_neg (show ¬ B + 17 = p i + 3 by omega)]
              exact d3 k hk
            · simp only [mI_stI, va_up_ap, if_neg (show ¬ p i + 1 = B + 19 by omega), if_neg (show ¬ p i + 1 = B + 18 by omega), if_neg (show ¬ p i + 1 = p i + 4 by omega), if_neg (show ¬ p i + 1 = p i + 3 by omega), if_neg (show ¬ p i + 2 = B + 19 by omega), if_neg (show ¬ p i + 2 = B + 18 by omega), if_neg (show ¬ p i + 2 = p i + 4 by omega), if_neg (show ¬ p i + 2 = p i + 3 by omega)]
              exact d4 c2 hc2
            · simp only [mI_stI, va_up_ap, if_neg (show ¬ p i + 3 = B + 19 by omega), if_neg (show ¬ p i + 3 = B + 18 by omega), if_neg (show ¬ p i + 3 = p i + 4 by omega), if_neg (show ¬ p i + 4 = B + 19 by omega), if_neg (show ¬ p i + 4 = B + 18 by omega), if_neg (show ¬ B + 18 = B + 19 by omega), if_true]
              exact ⟨re k hk, ue k hk, ro k hk, uo k hk⟩
          · have lj := p_lo h hj
            have n0 := fun t u ht hu => @p_ne B s L M ns np no nl p q o h i j t u hi hj hji ht hu
            simp only [mI_stI]
            refine ⟨?_, ?_, ?_, ?_, ?_⟩ <;> rw [va_up_ap, if_neg (by omega), va_up_ap, if_neg (by omega), va_up_ap, if_neg, va_up_ap, if_neg]
            · exact n0 0 3 (by decide) (by decide)
            · exact n0 0 4 (by decide) (by decide)
            · exact n0 1 3 (by decide) (by decide)
            · exact n0 1 4 (by decide) (by decide)
            · exact n0 2 3 (by decide) (by decide)
            · exact n0 2 4 (by decide) (by decide)
            · exact n0 3 3 (by decide) (by decide)
            · exact n0 3 4 (by decide) (by decide)
            · exact n0 4 3 (by decide) (by decide)
            · exact n0 4 4 (by decide) (by decide)
          · simp [mI_stI, va_up_ap, upd_ap, u1, u2]
          · simp [mI_stI, va_up_ap, upd_ap, u1, u2]
          · simp [mI_stI, va_up_ap, upd_ap, u1, u2]
          · simp [mI_stI, va_up_ap, upd_ap, u1, u2]
            intro e
            omega
          · simp [mI_stI, va_up_ap, upd_ap, u1, u2]
            intro e
            omega
      · refine go_th (GO_th h 0 2 0 (by simp) (fun Q => ?_) (fun h2 Q => ?_))
        · unfold CaP
          simp [lv_args, sStep, amStep, a_nx, a_ii, a_jj, a_ji, a_ld, a_st, a_if, a_ald, a_c1, a_c2, lkp, lput, lput2, lins, oP_none, oP_next, oP_call, oP_ret, oP_thr, outP_ite, aft_ret, aft_void, aft_thr, fHnd, List.isEmpty_nil, List.filter_cons, List.filter_nil, Value.category, csum, List.map_cons, List.map_nil, List.sum_cons, List.sum_nil, List.cons_append, List.nil_append, Option.toList, vp_nar_int, narrow_b1, narrow_b0, nc115, vc115, fc115, nc111, vc111, fc111, nc100, vc100, fc100, nc109, vc109, fc109, nc120, vc120, fc120, nc119, vc119, fc119, nc116, vc116, fc116, nc45, vc45, fc45, nc32, vc32, fc32, nc102, vc102, fc102, nc106, vc106, fc106, fin3, rf_some, rf_none, upd_ap, va_up_ap, nar_bi, fits_bi, nvp_bi, bi_t, bi_f, fval, fty, ftabs, wrv_0, wrv_1, wrv_2, wrv_3, wrv_5, mT_stI, mI_stI, mL_stI, mD_stI, mR_stI, mN_stI, mS_stI, mT_stL, mI_stL, mL_stL, mD_stL, mR_stL, mN_stL, mS_stL, mT_stD, mI_stD, mL_stD, mD_stD, mR_stD, mN_stD, mS_stD, mT_stR, mI_stR, mL_stR, mD_stR, mR_stR, mN_stR, mS_stR, mT_stN, mI_stN, mL_stN, mD_stN, mR_stN, mN_stN, mS_stN, e49_0, e49_1, e49_2, e49_5, e49_7, e49_8, e49_9, e49_10, e49_13, e49_16, e49_26, e49_27, e49_29, e49_31, e49_34, e49_37, e49_47, e49_49, e49_50, e49_51, e49_53, e49_56, e49_58, e49_61, rt49, hn49, h0, tT0, tT1, tT2, tT3, tT4, tT5, tT6, tT7, tT8, tT9, tT10, tT11, tT12, tT13, tT14, tT15, tT16, tT17, tT18, tT19, tT20, tT21, tT22, tT23, tT24, tT25, tT26, tT27, tT28, tT29, tT30, tT31, tT32, tT33, tT34, tT35, tT36, tT37, tT38, tT39, tT40, tT41, tT42, tT43, tT44, tR0_0, tR0_6, tR0_7, tR0_8, tR0_9, tR0_11, tR0_12, tR0_14, tR2_0, tR2_1, tR6_0, tR9_0, tR9_1, tR14_0, tR14_1, tR14_2, tR14_3, tR14_4, tR14_5, tR14_6, tR14_7, tR14_8, tR14_9, tR14_10, tR14_11, tR14_12, tR14_13, tR14_14, tR14_15, tR14_16, tR14_17, tR14_18, tR14_19, tR14_20, tR14_21, tR14_22, tR14_23, tR14_24, tR14_25, tR14_26, tR14_27, ST_stI, ST_stL, ST_stD, cl97, sp97 h0 h6 hr, cl87, sp87, hy, cl88, sp88, nt hz, bi]
        · exact sp120y (INV_ST h2) (iv_ix (iv_ns h2).1 hx) (by rw [Bool.and_assoc, nt hz, Bool.and_false])
    · refine go_th (GO_th h 0 2 0 (by simp) (fun Q => ?_) (fun h2 Q => ?_))
      · unfold CaP
        simp [lv_args, sStep, amStep, a_nx, a_ii, a_jj, a_ji, a_ld, a_st, a_if, a_ald, a_c1, a_c2, lkp, lput, lput2, lins, oP_none, oP_next, oP_call, oP_ret, oP_thr, outP_ite, aft_ret, aft_void, aft_thr, fHnd, List.isEmpty_nil, List.filter_cons, List.filter_nil, Value.category, csum, List.map_cons, List.map_nil, List.sum_cons, List.sum_nil, List.cons_append, List.nil_append, Option.toList, vp_nar_int, narrow_b1, narrow_b0, nc115, vc115, fc115, nc111, vc111, fc111, nc100, vc100, fc100, nc109, vc109, fc109, nc120, vc120, fc120, nc119, vc119, fc119, nc116, vc116, fc116, nc45, vc45, fc45, nc32, vc32, fc32, nc102, vc102, fc102, nc106, vc106, fc106, fin3, rf_some, rf_none, upd_ap, va_up_ap, nar_bi, fits_bi, nvp_bi, bi_t, bi_f, fval, fty, ftabs, wrv_0, wrv_1, wrv_2, wrv_3, wrv_5, mT_stI, mI_stI, mL_stI, mD_stI, mR_stI, mN_stI, mS_stI, mT_stL, mI_stL, mL_stL, mD_stL, mR_stL, mN_stL, mS_stL, mT_stD, mI_stD, mL_stD, mD_stD, mR_stD, mN_stD, mS_stD, mT_stR, mI_stR, mL_stR, mD_stR, mR_stR, mN_stR, mS_stR, mT_stN, mI_stN, mL_stN, mD_stN, mR_stN, mN_stN, mS_stN, e49_0, e49_1, e49_2, e49_5, e49_7, e49_8, e49_9, e49_10, e49_13, e49_16, e49_26, e49_27, e49_29, e49_31, e49_34, e49_37, e49_47, e49_49, e49_50, e49_51, e49_53, e49_56, e49_58, e49_61, rt49, hn49, h0, tT0, tT1, tT2, tT3, tT4, tT5, tT6, tT7, tT8, tT9, tT10, tT11, tT12, tT13, tT14, tT15, tT16, tT17, tT18, tT19, tT20, tT21, tT22, tT23, tT24, tT25, tT26, tT27, tT28, tT29, tT30, tT31, tT32, tT33, tT34, tT35, tT36, tT37, tT38, tT39, tT40, tT41, tT42, tT43, tT44, tR0_0, tR0_6, tR0_7, tR0_8, tR0_9, tR0_11, tR0_12, tR0_14, tR2_0, tR2_1, tR6_0, tR9_0, tR9_1, tR14_0, tR14_1, tR14_2, tR14_3, tR14_4, tR14_5, tR14_6, tR14_7, tR14_8, tR14_9, tR14_10, tR14_11, tR14_12, tR14_13, tR14_14, tR14_15, tR14_16, tR14_17, tR14_18, tR14_19, tR14_20, tR14_21, tR14_22, tR14_23, tR14_24, tR14_25, tR14_26, tR14_27, ST_stI, ST_stL, ST_stD, cl97, sp97 h0 h6 hr, cl87, sp87, nt hy, bi]
      · exact sp120y (INV_ST h2) (iv_ix (iv_ns h2).1 hx) (by rw [nt hy, Bool.false_and, Bool.false_and])
  · exact go_th (GO_th h 2 1 0 (by simp) (fun Q => by unfold CaP; simp [lv_args, sStep, amStep, a_nx, a_ii, a_jj, a_ji, a_ld, a_st, a_if, a_ald, a_c1, a_c2, lkp, lput, lput2, lins, oP_none, oP_next, oP_call, oP_ret, oP_thr, outP_ite, aft_ret, aft_void, aft_thr, fHnd, List.isEmpty_nil, List.filter_cons, List.filter_nil, Value.category, csum, List.map_cons, List.map_nil, List.sum_cons, List.sum_nil, List.cons_append, List.nil_append, Option.toList, vp_nar_int, narrow_b1, narrow_b0, nc115, vc115, fc115, nc111, vc111, fc111, nc100, vc100, fc100, nc109, vc109, fc109, nc120, vc120, fc120, nc119, vc119, fc119, nc116, vc116, fc116, nc45, vc45, fc45, nc32, vc32, fc32, nc102, vc102, fc102, nc106, vc106, fc106, fin3, rf_some, rf_none, upd_ap, va_up_ap, nar_bi, fits_bi, nvp_bi, bi_t, bi_f, fval, fty, ftabs, wrv_0, wrv_1, wrv_2, wrv_3, wrv_5, mT_stI, mI_stI, mL_stI, mD_stI, mR_stI, mN_stI, mS_stI, mT_stL, mI_stL, mL_stL, mD_stL, mR_stL, mN_stL, mS_stL, mT_stD, mI_stD, mL_stD, mD_stD, mR_stD, mN_stD, mS_stD, mT_stR, mI_stR, mL_stR, mD_stR, mR_stR, mN_stR, mS_stR, mT_stN, mI_stN, mL_stN, mD_stN, mR_stN, mN_stN, mS_stN, e49_0, e49_1, e49_2, e49_5, e49_7, e49_8, e49_9, e49_10, e49_13, e49_16, e49_26, e49_27, e49_29, e49_31, e49_34, e49_37, e49_47, e49_49, e49_50, e49_51, e49_53, e49_56, e49_58, e49_61, rt49, hn49, h0, tT0, tT1, tT2, tT3, tT4, tT5, tT6, tT7, tT8, tT9, tT10, tT11, tT12, tT13, tT14, tT15, tT16, tT17, tT18, tT19, tT20, tT21, tT22, tT23, tT24, tT25, tT26, tT27, tT28, tT29, tT30, tT31, tT32, tT33, tT34, tT35, tT36, tT37, tT38, tT39, tT40, tT41, tT42, tT43, tT44, tR0_0, tR0_6, tR0_7, tR0_8, tR0_9, tR0_11, tR0_12, tR0_14, tR2_0, tR2_1, tR6_0, tR9_0, tR9_1, tR14_0, tR14_1, tR14_2, tR14_3, tR14_4, tR14_5, tR14_6, tR14_7, tR14_8, tR14_9, tR14_10, tR14_11, tR14_12, tR14_13, tR14_14, tR14_15, tR14_16, tR14_17, tR14_18, tR14_19, tR14_20, tR14_21, tR14_22, tR14_23, tR14_24, tR14_25, tR14_26, tR14_27, ST_stI, ST_stL, ST_stD, cl97, s97x h (nt hx)]) (fun h2 Q => sp120x (INV_ST h2) (by rw [(iv_ns h2).1]; exact nt hx)))
