/-! ===== print ===== -/
theorem all_any {A : Nat → Bool} : ∀ n, allB (fun c => !A c) n = !anyB A n := by
  intro n
  induction n with
  | zero => rfl
  | succ n ih =>
    show (allB (fun c => !A c) n && !A n) = !(anyB A n || A n)
    rw [ih, Bool.not_or]
theorem anyB_ext {A A' : Nat → Bool} : ∀ n, (∀ k, k < n → A k = A' k) → anyB A n = anyB A' n := by
  intro n
  induction n with
  | zero => intro _; rfl
  | succ n ih => intro h; show (anyB A n || A n) = (anyB A' n || A' n); rw [ih (fun k hk => h k (by omega)), h n (by omega)]
theorem addF_ext {f g g' : Nat → Int32} {n : Nat} (h : ∀ k, k < n → g k = g' k) : addF f g n = addF f g' n := by
  funext j
  unfold addF
  by_cases e : j < n
  · rw [if_pos e, if_pos e, h j e]
  · rw [if_neg e, if_neg e]
theorem addF_z {f : Nat → Int32} {n : Nat} : addF f (fun _ => 0) n = f := by
  funext j
  unfold addF
  by_cases e : j < n
  · rw [if_pos e, Int32.add_zero]
  · rw [if_neg e]
def prA (B : Nat) (M : AMem) (p : Nat) (y : Int32) (c : Nat) : Bool := decide (9999 < mI M (B + 3) c + mI M (B + 4) c + mI M (p + 2) c * y)
def prM (B : Nat) (M : AMem) : Bool := !(inR (mI M B 3) (-4) 4 && inR (mI M B 4) (-4) 4)
theorem gt9 {x : Nat} (hx : x < 2 ^ 31) : ((9999 : Int32) < nI x) = (9999 < x) := nI_ltN (a := 9999) (by decide) hx
theorem mo_eq {a b t m : Nat} (hab : a + b ≤ 9999) (ht : t ≤ 54) (hm : m ≤ 99) : (decide (0 < nI t) && decide (9999 < nI a + nI b + nI m * nI t)) = decide (9999 < nI a + nI b + nI t * nI m) := by
  have h1 : t * m ≤ 54 * 99 := Nat.mul_le_mul ht hm
  rw [pk_mul, pk_mul, nI_add, nI_add, nI_add, Nat.mul_comm m t]
  simp only [gt9 (show a + b + t * m < 2 ^ 31 by omega), lt0 (show t < 2 ^ 31 by omega)]
  by_cases e : t = 0
  · subst e
    rw [Nat.zero_mul]
    simp
    omega
  · simp [Nat.pos_of_ne_zero e]
theorem in99 {y : Int32} (h : inR y 1 99 = true) : ∃ m, m ≤ 99 ∧ y = nI m := by
  refine inR_of (n := 99) rfl (by decide) ?_
  simp only [inR, Bool.and_eq_true, decide_eq_true_eq] at h ⊢
  exact ⟨Int32.le_trans (by decide) h.1, h.2⟩
theorem iv_prT {B s L : Nat} {M : AMem} {ns np no nl : Nat} {p q o : Nat → Nat} (h : INV B s L M ns np no nl p q o) {i R C : Nat} (hi : i < ns) (hR : mI M (p i) 0 = nI R) (hC : mI M (p i) 1 = nI C) (hR6 : R ≤ 6) (hC9 : C ≤ 9) {X : AMem} (hX : mI X (B + 17) = mI M (B + 17)) : ∀ c, c < 54 → prT B X i (R * C) c = mI M (p i + 2) c := by
  intro c hc
  obtain ⟨R', C', d1, ⟨d2, d2', d2a, d2b⟩, d3, d4, d5⟩ := iv_SD h hi
  have e1 : R' = R := nIinj (by omega) (by omega) (d2.symm.trans hR)
  have e2 : C' = C := nIinj (by omega) (by omega) (d2'.symm.trans hC)
  subst e1
  subst e2
  have hRC := RC_le d1
  unfold prT
  rw [hX, cntF_eq hc (fun k hk => by rw [← (d3 k (by omega)).1]; exact (d3 k (by omega)).2.1), d4 c hc, cnt_m1 hc hRC (fun k h1 h2 => (d3 k h2).2.2 h1)]
  rw [cnt_hi (R' * C') (fun k hk => (d3 k (by omega)).1)]
theorem iv_mk {B s L : Nat} {M : AMem} {ns np no nl : Nat} {p q o : Nat → Nat} (h : INV B s L M ns np no nl p q o) {X : AMem} (hX : mI X (B + 14) = mI M (B + 14)) : mkd B X = prM B M := by
  obtain ⟨⟨a1, a2⟩, ⟨a3, a4⟩, ⟨a5, a6⟩, ⟨a7, a8⟩, a9, a10, a11, a12, a13, a14⟩ := h.2.1
  unfold mkd prM
  rw [hX, ← a10, ← a11, kn_4 a13, kn_4 a14, Bool.not_and]
theorem iv_moF {B s L : Nat} {M : AMem} {ns np no nl : Nat} {p q o : Nat → Nat} (h : INV B s L M ns np no nl p q o) {i R C : Nat} (hi : i < ns) (hR : mI M (p i) 0 = nI R) (hC : mI M (p i) 1 = nI C) (hR6 : R ≤ 6) (hC9 : C ≤ 9) {X : AMem} (hX : ∀ k, 5 ≤ k → k < 45 → mI X (B + k) = mI M (B + k)) {y : Int32} (hy : inR y 1 99 = true) {sp : Bool} : anyB (moF B X (prT B X i (R * C)) sp y) 54 = (!sp && anyB (prA B M (p i) y) 54) := by
  obtain ⟨m, hm, rfl⟩ := in99 hy
  obtain ⟨e3, e4, e5⟩ := iv_3 h
  have hT := iv_prT h hi hR hC hR6 hC9 (X := X) (hX 17 (by decide) (by decide))
  obtain ⟨R', C', d1, -, -, d4, -⟩ := iv_SD h hi
  cases sp
  · rw [Bool.not_false, Bool.true_and]
    refine anyB_ext 54 (fun c hc => ?_)
    obtain ⟨a, b, h1, h2, h3⟩ := e5 c hc
    unfold moF prA
    rw [hT c hc, hX 20 (by decide) (by decide), hX 21 (by decide) (by decide), e3, e4, h2, h3, d4 c hc, Bool.not_false, Bool.true_and]
    exact mo_eq h1 cnt_le hm
  · rw [Bool.not_true, Bool.false_and]
    exact anyB_ff.mpr (fun c hc => rfl)
theorem iv_pr {B s L : Nat} {M : AMem} {ns np no nl : Nat} {p q o : Nat → Nat} (h : INV B s L M ns np no nl p q o) {i R C : Nat} (hi : i < ns) (hR : mI M (p i) 0 = nI R) (hC : mI M (p i) 1 = nI C) (hR6 : R ≤ 6) (hC9 : C ≤ 9) (hRC : R * C ≤ 54) {X : AMem} (hS : ST B X) (hX : ∀ k, 5 ≤ k → k < 45 → mI X (B + k) = mI M (B + k)) {y : Int32} (hy : inR y 1 99 = true) : ∃ z, ∀ Q, CaP 124 [.ref (B + 14), .int (nI i), .int y] X Q =
    if (!decide (mI M (B + 14) 32 < ocO (mI M (p i + 3)) (mI M (p i + 4)) 4) && anyB (prA B M (p i) y) 54) = true then Q (thr B (stI X (B + 29) z) 3, .inl (some (.int 0)))
    else if mI M (B + 14) 32 < ocO (mI M (p i + 3)) (mI M (p i + 4)) 4 then Q (thr B (stI (mF B X 35 (mI M (B + 14) 35 + y)) (B + 29) z) 0, .inl (some (.int 0)))
    else Q (thr B (stI (stI (stI X (B + 20) (addF (mI M (B + 20)) (fun c => if prM B M = true then 0 else mI M (p i + 2) c * y) 54)) (B + 21) (addF (mI M (B + 21)) (fun c => if prM B M = true then mI M (p i + 2) c * y else 0) 54)) (B + 29) z) 0, .inl (some (.int (sumF (fun c => mI M (p i + 2) c * y) 54)))) := by
  refine ⟨prT B X i (R * C), fun Q => ?_⟩
  have h14 := hX 14 (by decide) (by decide)
  have hi6 := (iv_rs h hi).1
  have d := iv_SD h hi
  obtain ⟨R', C', d1, ⟨d2, d2', d2a, d2b⟩, d3, d4, d5⟩ := d
  have e1 : R' = R := nIinj (by omega) (by omega) (d2.symm.trans hR)
  have e2 : C' = C := nIinj (by omega) (by omega) (d2'.symm.trans hC)
  subst e1
  subst e2
  have hT := iv_prT h hi hR hC hR6 hC9 (X := X) (hX 17 (by decide) (by decide))
  have hO : prO B X i = ocO (mI M (p i + 3)) (mI M (p i + 4)) 4 := by
    unfold prO
    rw [hX 18 (by decide) (by decide), hX 19 (by decide) (by decide)]
    exact iv_off h hi
  have hA20 : addF (mI X (B + 20)) (fun c => if mkd B X = true then 0 else y * prT B X i (R' * C') c) 54 = addF (mI M (B + 20)) (fun c => if prM B M = true then 0 else mI M (p i + 2) c * y) 54 := by
    rw [hX 20 (by decide) (by decide), iv_mk h h14]
    exact addF_ext (fun c hc => by rw [hT c hc, Int32.mul_comm])
  have hA21 : addF (mI X (B + 21)) (fun c => if mkd B X = true then y * prT B X i (R' * C') c else 0) 54 = addF (mI M (B + 21)) (fun c => if prM B M = true then mI M (p i + 2) c * y else 0) 54 := by
    rw [hX 21 (by decide) (by decide), iv_mk h h14]
    exact addF_ext (fun c hc => by rw [hT c hc, Int32.mul_comm])
  have hSm : sumF (fun c => y * prT B X i (R' * C') c) 54 = sumF (fun c => mI M (p i + 2) c * y) 54 := sumF_ext 54 (fun c hc => by rw [hT c hc, Int32.mul_comm])
  rw [sp124 hS hi6 (by rw [h14, (iv_ns h).1]; rw [show nI ns - 1 = nI (ns - 1) from nI_pred1 (by omega)]; exact inR_nI (by omega) (by have := (iv_ns h).2; omega)) hy (by rw [hX 15 (by decide) (by decide)]; exact d2a) (by rw [hX 16 (by decide) (by decide)]; exact d2b) hRC (fun k hk => by rw [hX 17 (by decide) (by decide), ← (d3 k hk).1]; exact (d3 k hk).2.1), iv_moF h hi hR hC hR6 hC9 hX hy, hO, hA20, hA21, hSm, h14]
  have t1 : thr B (stI (thr B X 0) (B + 29) (prT B X i (R' * C'))) 3 = thr B (stI X (B + 29) (prT B X i (R' * C'))) 3 := by rw [thr_cm (by decide), thr_thr]
  have t2 : ∀ v, stI X (B + 14) (upd (upd (mI M (B + 14)) 36 0) 35 v) = thr B (mF B X 35 v) 0 := by
    intro v
    rw [← thr_mF (by decide)]
    unfold mF thr
    rw [stI_stI, mI_stI, va_up_ap, if_pos rfl, h14]
  have t3 : stI X (B + 14) (upd (upd (mI M (B + 14)) 36 0) 35 (mI M (B + 14) 35 + 0)) = thr B X 0 := by
    have e : upd (upd (mI M (B + 14)) 36 0) 35 (mI M (B + 14) 35 + 0) = upd (mI M (B + 14)) 36 0 := by
      rw [Int32.add_zero]
      funext j
      simp only [upd_ap]
      by_cases e : j = 35
      · rw [if_pos e, if_neg (by omega), e]
      · rw [if_neg e]
    rw [e]
    unfold thr
    rw [h14]
  rw [t1, t2, t3]
  simp only [thr_cm (show ¬ 29 = 14 by decide), thr_cm (show ¬ 20 = 14 by decide), thr_cm (show ¬ 21 = 14 by decide)]
theorem op9 {B s L : Nat} {M : AMem} {ns np no nl : Nat} {p q o : Nat → Nat} (h : INV B s L M ns np no nl p q o) (x y : Int32) : GO B s L 53 124 [.int x, .int y] [(2, 1), (0, 2), (1, 3)] M := by
  have h0 := INV_ST h
  have hsB := h.1.1.2.1
  have hN := ad_N h.1
  obtain ⟨⟨a1, a2⟩, ⟨a3, a4⟩, ⟨a5, a6⟩, ⟨a7, a8⟩, a9, a10, a11, a12, a13, a14⟩ := h.2.1
  obtain ⟨e3, e4, e5⟩ := iv_3 h
  by_cases hx : inR x 0 (nI ns - 1) = true
  · obtain ⟨i, hi, rfl⟩ := in_ix (iv_ns h).2 (by decide) hx
    obtain ⟨h6, hr, hs⟩ := iv_rs h hi
    obtain ⟨lo, hi2⟩ := p_lo h hi
    obtain ⟨R, C, d1, ⟨d2, d2', d2a, d2b⟩, d3, d4, d5⟩ := iv_SD h hi
    have hRC := RC_le d1
    by_cases hy : inR y 1 99 = true
    · have e36 := fun Q => @sp36 (p i) M Q hs
      have e23 := fun Q => @sp23 B (p i) y M Q h0 hs
      rw [show (fun c => !decide (9999 < mI M (B + 3) c + mI M (B + 4) c + mI M (p i + 2) c * y)) = fun c => !prA B M (p i) y c from rfl, all_any] at e23
      by_cases ho : mI M (B + 14) 32 < ocO (mI M (p i + 3)) (mI M (p i + 4)) 4
      · obtain ⟨z, hm⟩ := iv_pr h hi d2 d2' d1.2.1 d1.2.2.2 hRC (X := oM B (stI M B (upd (mI M B) 5 (mI M B 5 + y))) 0) h0 (fun k hk hk2 => by rw [mI_oM, mI_stI, va_up_ap, if_neg (by omega)]) hy
        simp only [ho, decide_true, decide_false, Bool.not_true, Bool.not_false, Bool.false_and, Bool.true_and, Bool.false_eq_true, if_false, if_true] at hm
        refine go_w5 (M1 := stI M B (upd (mI M B) 5 (mI M B 5 + y))) (M5 := stI (mF B (stI M B (upd (mI M B) 5 (mI M B 5 + y))) 35 (mI M (B + 14) 35 + y)) (B + 29) z) (r := 0) hsB (fun Q => ?_) (SK_B (SK_rf h0) hsB) (fun Q => ?_) (SK_Bk (SK_Bk (SK_B (SK_rf h0) hsB) hsB) hsB) (by unfold mF; simp only [mN_stI]; exact Nat.le_add_right _ _) (by unfold mF; simp only [mS_stI]; exact Nat.le_add_right _ _) ⟨ns, np, no, nl, p, q, o, ?_⟩
        · unfold CaP
          simp [lv_args, sStep, amStep, a_nx, a_ii, a_jj, a_ji, a_ld, a_st, a_if, a_ald, a_c1, a_c2, lkp, lput, lput2, lins, oP_none, oP_next, oP_call, oP_ret, oP_thr, outP_ite, aft_ret, aft_void, aft_thr, fHnd, List.isEmpty_nil, List.filter_cons, List.filter_nil, Value.category, csum, List.map_cons, List.map_nil, List.sum_cons, List.sum_nil, List.cons_append, List.nil_append, Option.toList, vp_nar_int, narrow_b1, narrow_b0, nc115, vc115, fc115, nc111, vc111, fc111, nc100, vc100, fc100, nc109, vc109, fc109, nc120, vc120, fc120, nc119, vc119, fc119, nc116, vc116, fc116, nc45, vc45, fc45, nc32, vc32, fc32, nc102, vc102, fc102, nc106, vc106, fc106, fin3, rf_some, rf_none, upd_ap, va_up_ap, nar_bi, fits_bi, nvp_bi, bi_t, bi_f, fval, fty, ftabs, wrv_0, wrv_1, wrv_2, wrv_3, wrv_5, mT_stI, mI_stI, mL_stI, mD_stI, mR_stI, mN_stI, mS_stI, mT_stL, mI_stL, mL_stL, mD_stL, mR_stL, mN_stL, mS_stL, mT_stD, mI_stD, mL_stD, mD_stD, mR_stD, mN_stD, mS_stD, mT_stR, mI_stR, mL_stR, mD_stR, mR_stR, mN_stR, mS_stR, mT_stN, mI_stN, mL_stN, mD_stN, mR_stN, mN_stN, mS_stN, e53_0, e53_1, e53_2, e53_5, e53_6, e53_7, e53_8, e53_10, e53_13, e53_16, e53_26, e53_27, e53_30, e53_31, e53_34, e53_37, e53_38, e53_39, e53_42, e53_43, e53_44, e53_47, e53_48, e53_49, e53_50, e53_53, e53_54, e53_55, e53_58, e53_61, e53_71, e53_72, e53_75, e53_76, e53_77, e53_78, e53_81, e53_82, e53_85, e53_86, e53_89, e53_92, e53_93, e53_96, e53_97, e53_100, rt53, hn53, h0, tT0, tT1, tT2, tT3, tT4, tT5, tT6, tT7, tT8, tT9, tT10, tT11, tT12, tT13, tT14, tT15, tT16, tT17, tT18, tT19, tT20, tT21, tT22, tT23, tT24, tT25, tT26, tT27, tT28, tT29, tT30, tT31, tT32, tT33, tT34, tT35, tT36, tT37, tT38, tT39, tT40, tT41, tT42, tT43, tT44, tR0_0, tR0_6, tR0_7, tR0_8, tR0_9, tR0_11, tR0_12, tR0_14, tR2_0, tR2_1, tR6_0, tR9_0, tR9_1, tR14_0, tR14_1, tR14_2, tR14_3, tR14_4, tR14_5, tR14_6, tR14_7, tR14_8, tR14_9, tR14_10, tR14_11, tR14_12, tR14_13, tR14_14, tR14_15, tR14_16, tR14_17, tR14_18, tR14_19, tR14_20, tR14_21, tR14_22, tR14_23, tR14_24, tR14_25, tR14_26, tR14_27, ST_stI, ST_stL, ST_stD, cl97, sp97 h0 h6 hr, cl87, sp87, hy, bi, cl36, e36, sh0 hs, a9, ho, Int32.not_le.mpr ho]
        · rw [hm]
          unfold mF
          simp only [oM_stI]
          rfl
        · refine INV_sc ?_ (gr_k (by decide))
          refine INV_set [1] h (fun _ _ => rfl) (fun _ _ => rfl) (Nat.le_refl _) (fun a _ ha _ => ?_) (fun a _ ha => rfl) (Or.inl rfl) (fun _ => ?_) (fun e => absurd e (by decide)) (fun e => absurd e (by decide)) (fun e => absurd e (by decide)) (fun e => absurd e (by decide)) (fun e => absurd e (by decide)) (fun e => absurd e (by decide)) (fun e => absurd e (by decide))
          · have ha := ng ha (j := 1) rfl
            exact (va_ne (gr_k (B := B) (k := 14) (T := mT M) (by decide)) ha).trans (va_ne grB ha)
          · unfold D1
            simp [mF, mI_stI, va_up_ap, upd_ap, a1, a2, a3, a4, a5, a6, a7, a8, a9, a10, a11, a12]
            exact ⟨a10 ▸ a13, a11 ▸ a14⟩
      · by_cases hany : anyB (prA B M (p i) y) 54 = true
        · refine go_th (GO_ts (x := 29) h 1 3 0 (by simp) (gr_k (by decide)) (by decide) (fun Q => ?_) (fun h2 => ?_))
          · unfold CaP
            simp [lv_args, sStep, amStep, a_nx, a_ii, a_jj, a_ji, a_ld, a_st, a_if, a_ald, a_c1, a_c2, lkp, lput, lput2, lins, oP_none, oP_next, oP_call, oP_ret, oP_thr, outP_ite, aft_ret, aft_void, aft_thr, fHnd, List.isEmpty_nil, List.filter_cons, List.filter_nil, Value.category, csum, List.map_cons, List.map_nil, List.sum_cons, List.sum_nil, List.cons_append, List.nil_append, Option.toList, vp_nar_int, narrow_b1, narrow_b0, nc115, vc115, fc115, nc111, vc111, fc111, nc100, vc100, fc100, nc109, vc109, fc109, nc120, vc120, fc120, nc119, vc119, fc119, nc116, vc116, fc116, nc45, vc45, fc45, nc32, vc32, fc32, nc102, vc102, fc102, nc106, vc106, fc106, fin3, rf_some, rf_none, upd_ap, va_up_ap, nar_bi, fits_bi, nvp_bi, bi_t, bi_f, fval, fty, ftabs, wrv_0, wrv_1, wrv_2, wrv_3, wrv_5, mT_stI, mI_stI, mL_stI, mD_stI, mR_stI, mN_stI, mS_stI, mT_stL, mI_stL, mL_stL, mD_stL, mR_stL, mN_stL, mS_stL, mT_stD, mI_stD, mL_stD, mD_stD, mR_stD, mN_stD, mS_stD, mT_stR, mI_stR, mL_stR, mD_stR, mR_stR, mN_stR, mS_stR, mT_stN, mI_stN, mL_stN, mD_stN, mR_stN, mN_stN, mS_stN, e53_0, e53_1, e53_2, e53_5, e53_6, e53_7, e53_8, e53_10, e53_13, e53_16, e53_26, e53_27, e53_30, e53_31, e53_34, e53_37, e53_38, e53_39, e53_42, e53_43, e53_44, e53_47, e53_48, e53_49, e53_50, e53_53, e53_54, e53_55, e53_58, e53_61, e53_71, e53_72, e53_75, e53_76, e53_77, e53_78, e53_81, e53_82, e53_85, e53_86, e53_89, e53_92, e53_93, e53_96, e53_97, e53_100, rt53, hn53, h0, tT0, tT1, tT2, tT3, tT4, tT5, tT6, tT7, tT8, tT9, tT10, tT11, tT12, tT13, tT14, tT15, tT16, tT17, tT18, tT19, tT20, tT21, tT22, tT23, tT24, tT25, tT26, tT27, tT28, tT29, tT30, tT31, tT32, tT33, tT34, tT35, tT36, tT37, tT38, tT39, tT40, tT41, tT42, tT43, tT44, tR0_0, tR0_6, tR0_7, tR0_8, tR0_9, tR0_11, tR0_12, tR0_14, tR2_0, tR2_1, tR6_0, tR9_0, tR9_1, tR14_0, tR14_1, tR14_2, tR14_3, tR14_4, tR14_5, tR14_6, tR14_7, tR14_8, tR14_9, tR14_10, tR14_11, tR14_12, tR14_13, tR14_14, tR14_15, tR14_16, tR14_17, tR14_18, tR14_19, tR14_20, tR14_21, tR14_22, tR14_23, tR14_24, tR14_25, tR14_26, tR14_27, ST_stI, ST_stL, ST_stD, cl97, sp97 h0 h6 hr, cl87, sp87, hy, bi, cl36, e36, sh0 hs, a9, ho, Int32.not_lt.mp ho, cl23, e23, hany]
          · obtain ⟨z, hm⟩ := iv_pr h hi d2 d2' d1.2.1 d1.2.2.2 hRC (X := stN M 0 0 6) (INV_ST h2) (fun k hk hk2 => by rw [mI_stN, va_up_ap, if_neg (by omega)]) hy
            simp only [ho, hany, decide_true, decide_false, Bool.not_true, Bool.not_false, Bool.false_and, Bool.true_and, Bool.false_eq_true, if_false, if_true] at hm
            exact ⟨z, hm⟩
        · have room : ∀ c, c < 54 → prA B M (p i) y c = false := anyB_ff.mp (nt hany)
          obtain ⟨m, hm99, rfl⟩ := in99 hy
          have rm : ∀ c, c < 54 → ∃ a b t, a + b + t * m ≤ 9999 ∧ mI M (B + 20) c = nI a ∧ mI M (B + 21) c = nI b ∧ mI M (p i + 2) c = nI t ∧ t ≤ 54 := by
            intro c hc
            obtain ⟨a, b, h1, h2, h3⟩ := e5 c hc
            have hcl := @cnt_le (mI M (p i + 1)) c 54
            have hml : cnt (mI M (p i + 1)) c 54 * m ≤ 54 * 99 := Nat.mul_le_mul hcl hm99
            refine ⟨a, b, cnt (mI M (p i + 1)) c 54, ?_, h2, h3, d4 c hc, hcl⟩
            have hr2 := room c hc
            unfold prA at hr2
            rw [e3, e4, h2, h3, d4 c hc, pk_mul, nI_add, nI_add, decide_eq_false_iff_not, gt9 (by omega)] at hr2
            omega
          cases hmk : prM B M
          · have hk4 : (inR (mI M B 3) (-4) 4 && inR (mI M B 4) (-4) 4) = true := by
              unfold prM at hmk
              simpa using hmk
            have e24 := fun Q => @sp24 B (p i) (nI m) false M Q h0 hs lo
            simp only [Bool.false_eq_true, if_false] at e24
            obtain ⟨z, hm⟩ := iv_pr h hi d2 d2' d1.2.1 d1.2.2.2 hRC (X := oM B (stI M (B + 3) (addF (mI M (B + 3)) (fun c => mI M (p i + 2) c * nI m) 54)) (sumF (fun c => mI M (p i + 2) c * nI m) 54)) h0 (fun k hk hk2 => by rw [mI_oM, mI_stI, va_up_ap, if_neg (by omega)]) hy
            simp only [ho, nt hany, decide_true, decide_false, Bool.not_true, Bool.not_false, Bool.false_and, Bool.true_and, Bool.false_eq_true, if_false, if_true] at hm
            simp only [hmk, Bool.false_eq_true, if_false, addF_z] at hm
            refine go_w5 (M1 := stI M (B + 3) (addF (mI M (B + 3)) (fun c => mI M (p i + 2) c * nI m) 54)) (M5 := stI (stI (stI (stI M (B + 3) (addF (mI M (B + 3)) (fun c => mI M (p i + 2) c * nI m) 54)) (B + 20) (addF (mI M (B + 20)) (fun c => mI M (p i + 2) c * nI m) 54)) (B + 21) (mI M (B + 21))) (B + 29) z) (r := sumF (fun c => mI M (p i + 2) c * nI m) 54) hsB (fun Q => ?_) (SK_Bk (SK_rf h0) hsB) (fun Q => by rw [hm]; simp only [oM_stI]) (SK_Bk (SK_Bk (SK_Bk (SK_Bk (SK_rf h0) hsB) hsB) hsB) hsB) (by simp only [mN_stI]; exact Nat.le_add_right _ _) (by simp only [mS_stI]; exact Nat.le_add_right _ _) ⟨ns, np, no, nl, p, q, o, INV_sc (INV_set [3] h (fun _ _ => by simp only [mT_stI]) (fun _ _ => by simp only [mR_stI]) (by simp only [mN_stI]; exact Nat.le_refl _) (fun a _ ha _ => ?_) (fun a _ ha => by simp only [mL_stI]) (Or.inl rfl) (fun e => absurd e (by decide)) (fun e => absurd e (by decide)) (fun _ => ?_) (fun e => absurd e (by decide)) (fun e => absurd e (by decide)) (fun e => absurd e (by decide)) (fun e => absurd e (by decide)) (fun e => absurd e (by decide))) (gr_k (by decide))⟩
            · unfold CaP
              simp [lv_args, sStep, amStep, a_nx, a_ii, a_jj, a_ji, a_ld, a_st, a_if, a_ald, a_c1, a_c2, lkp, lput, lput2, lins, oP_none, oP_next, oP_call, oP_ret, oP_thr, outP_ite, aft_ret, aft_void, aft_thr, fHnd, List.isEmpty_nil, List.filter_cons, List.filter_nil, Value.category, csum, List.map_cons, List.map_nil, List.sum_cons, List.sum_nil, List.cons_append, List.nil_append, Option.toList, vp_nar_int, narrow_b1, narrow_b0, nc115, vc115, fc115, nc111, vc111, fc111, nc100, vc100, fc100, nc109, vc109, fc109, nc120, vc120, fc120, nc119, vc119, fc119, nc116, vc116, fc116, nc45, vc45, fc45, nc32, vc32, fc32, nc102, vc102, fc102, nc106, vc106, fc106, fin3, rf_some, rf_none, upd_ap, va_up_ap, nar_bi, fits_bi, nvp_bi, bi_t, bi_f, fval, fty, ftabs, wrv_0, wrv_1, wrv_2, wrv_3, wrv_5, mT_stI, mI_stI, mL_stI, mD_stI, mR_stI, mN_stI, mS_stI, mT_stL, mI_stL, mL_stL, mD_stL, mR_stL, mN_stL, mS_stL, mT_stD, mI_stD, mL_stD, mD_stD, mR_stD, mN_stD, mS_stD, mT_stR, mI_stR, mL_stR, mD_stR, mR_stR, mN_stR, mS_stR, mT_stN, mI_stN, mL_stN, mD_stN, mR_stN, mN_stN, mS_stN, e53_0, e53_1, e53_2, e53_5, e53_6, e53_7, e53_8, e53_10, e53_13, e53_16, e53_26, e53_27, e53_30, e53_31, e53_34, e53_37, e53_38, e53_39, e53_42, e53_43, e53_44, e53_47, e53_48, e53_49, e53_50, e53_53, e53_54, e53_55, e53_58, e53_61, e53_71, e53_72, e53_75, e53_76, e53_77, e53_78, e53_81, e53_82, e53_85, e53_86, e53_89, e53_92, e53_93, e53_96, e53_97, e53_100, rt53, hn53, h0, tT0, tT1, tT2, tT3, tT4, tT5, tT6, tT7, tT8, tT9, tT10, tT11, tT12, tT13, tT14, tT15, tT16, tT17, tT18, tT19, tT20, tT21, tT22, tT23, tT24, tT25, tT26, tT27, tT28, tT29, tT30, tT31, tT32, tT33, tT34, tT35, tT36, tT37, tT38, tT39, tT40, tT41, tT42, tT43, tT44, tR0_0, tR0_6, tR0_7, tR0_8, tR0_9, tR0_11, tR0_12, tR0_14, tR2_0, tR2_1, tR6_0, tR9_0, tR9_1, tR14_0, tR14_1, tR14_2, tR14_3, tR14_4, tR14_5, tR14_6, tR14_7, tR14_8, tR14_9, tR14_10, tR14_11, tR14_12, tR14_13, tR14_14, tR14_15, tR14_16, tR14_17, tR14_18, tR14_19, tR14_20, tR14_21, tR14_22, tR14_23, tR14_24, tR14_25, tR14_26, tR14_27, ST_stI, ST_stL, ST_stD, cl97, sp97 h0 h6 hr, cl87, sp87, hy, bi, cl36, e36, sh0 hs, a9, ho, Int32.not_lt.mp ho, cl23, e23, nt hany, cl88, sp88, hk4, cl24, show ∀ Q, CaP 24 [.ref (B + 2), .ref (p i), .int (nI m), .int 0] M Q = _ from e24]
            · have ha := ng ha (j := 3) rfl
              exact (va_ne (gr_k (B := B) (k := 21) (T := mT M) (by decide)) ha).trans ((va_ne (gr_k (B := B) (k := 20) (T := mT M) (by decide)) ha).trans (va_ne (gr_k (B := B) (k := 3) (T := mT M) (by decide)) ha))
            · unfold D3
              simp only [mI_stI, va_up_ap, if_true, if_neg (show ¬ B + 3 = B + 21 by omega), if_neg (show ¬ B + 3 = B + 20 by omega), if_neg (show ¬ B + 20 = B + 21 by omega), if_neg (show ¬ B + 4 = B + 21 by omega), if_neg (show ¬ B + 4 = B + 20 by omega), if_neg (show ¬ B + 4 = B + 3 by omega), e3, e4, true_and]
              intro c hc
              obtain ⟨a, b, t, r1, r2, r3, r4, r5⟩ := rm c hc
              exact ⟨a + t * m, b, by omega, by unfold addF; rw [if_pos hc, r2]; show nI a + mI M (p i + 2) c * nI m = _; rw [r4, pk_mul, nI_add], r3⟩
          · have hk4 : (inR (mI M B 3) (-4) 4 && inR (mI M B 4) (-4) 4) = false := by
              unfold prM at hmk
              revert hmk
              cases (inR (mI M B 3) (-4) 4 && inR (mI M B 4) (-4) 4) <;> simp
            have e24 := fun Q => @sp24 B (p i) (nI m) true M Q h0 hs lo
            simp only [if_true] at e24
            obtain ⟨z, hm⟩ := iv_pr h hi d2 d2' d1.2.1 d1.2.2.2 hRC (X := oM B (stI M (B + 4) (addF (mI M (B + 4)) (fun c => mI M (p i + 2) c * nI m) 54)) (sumF (fun c => mI M (p i + 2) c * nI m) 54)) h0 (fun k hk hk2 => by rw [mI_oM, mI_stI, va_up_ap, if_neg (by omega)]) hy
            simp only [ho, nt hany, decide_true, decide_false, Bool.not_true, Bool.not_false, Bool.false_and, Bool.true_and, Bool.false_eq_true, if_false, if_true] at hm
            simp only [hmk, if_true, addF_z] at hm
            refine go_w5 (M1 := stI M (B + 4) (addF (mI M (B + 4)) (fun c => mI M (p i + 2) c * nI m) 54)) (M5 := stI (stI (stI (stI M (B + 4) (addF (mI M (B + 4)) (fun c => mI M (p i + 2) c * nI m) 54)) (B + 20) (mI M (B + 20))) (B + 21) (addF (mI M (B + 21)) (fun c => mI M (p i + 2) c * nI m) 54)) (B + 29) z) (r := sumF (fun c => mI M (p i + 2) c * nI m) 54) hsB (fun Q => ?_) (SK_Bk (SK_rf h0) hsB) (fun Q => by rw [hm]; simp only [oM_stI]) (SK_Bk (SK_Bk (SK_Bk (SK_Bk (SK_rf h0) hsB) hsB) hsB) hsB) (by simp only [mN_stI]; exact Nat.le_add_right _ _) (by simp only [mS_stI]; exact Nat.le_add_right _ _) ⟨ns, np, no, nl, p, q, o, INV_sc (INV_set [3] h (fun _ _ => by simp only [mT_stI]) (fun _ _ => by simp only [mR_stI]) (by simp only [mN_stI]; exact Nat.le_refl _) (fun a _ ha _ => ?_) (fun a _ ha => by simp only [mL_stI]) (Or.inl rfl) (fun e => absurd e (by decide)) (fun e => absurd e (by decide)) (fun _ => ?_) (fun e => absurd e (by decide)) (fun e => absurd e (by decide)) (fun e => absurd e (by decide)) (fun e => absurd e (by decide)) (fun e => absurd e (by decide))) (gr_k (by decide))⟩
            · unfold CaP
              simp [lv_args, sStep, amStep, a_nx, a_ii, a_jj, a_ji, a_ld, a_st, a_if, a_ald, a_c1, a_c2, lkp, lput, lput2, lins, oP_none, oP_next, oP_call, oP_ret, oP_thr, outP_ite, aft_ret, aft_void, aft_thr, fHnd, List.isEmpty_nil, List.filter_cons, List.filter_nil, Value.category, csum, List.map_cons, List.map_nil, List.sum_cons, List.sum_nil, List.cons_append, List.nil_append, Option.toList, vp_nar_int, narrow_b1, narrow_b0, nc115, vc115, fc115, nc111, vc111, fc111, nc100, vc100, fc100, nc109, vc109, fc109, nc120, vc120, fc120, nc119, vc119, fc119, nc116, vc116, fc116, nc45, vc45, fc45, nc32, vc32, fc32, nc102, vc102, fc102, nc106, vc106, fc106, fin3, rf_some, rf_none, upd_ap, va_up_ap, nar_bi, fits_bi, nvp_bi, bi_t, bi_f, fval, fty, ftabs, wrv_0, wrv_1, wrv_2, wrv_3, wrv_5, mT_stI, mI_stI, mL_stI, mD_stI, mR_stI, mN_stI, mS_stI, mT_stL, mI_stL, mL_stL, mD_stL, mR_stL, mN_stL, mS_stL, mT_stD, mI_stD, mL_stD, mD_stD, mR_stD, mN_stD, mS_stD, mT_stR, mI_stR, mL_stR, mD_stR, mR_stR, mN_stR, mS_stR, mT_stN, mI_stN, mL_stN, mD_stN, mR_stN, mN_stN, mS_stN, e53_0, e53_1, e53_2, e53_5, e53_6, e53_7, e53_8, e53_10, e53_13, e53_16, e53_26, e53_27, e53_30, e53_31, e53_34, e53_37, e53_38, e53_39, e53_42, e53_43, e53_44, e53_47, e53_48, e53_49, e53_50, e53_53, e53_54, e53_55, e53_58, e53_61, e53_71, e53_72, e53_75, e53_76, e53_77, e53_78, e53_81, e53_82, e53_85, e53_86, e53_89, e53_92, e53_93, e53_96, e53_97, e53_100, rt53, hn53, h0, tT0, tT1, tT2, tT3, tT4, tT5, tT6, tT7, tT8, tT9, tT10, tT11, tT12, tT13, tT14, tT15, tT16, tT17, tT18, tT19, tT20, tT21, tT22, tT23, tT24, tT25, tT26, tT27, tT28, tT29, tT30, tT31, tT32, tT33, tT34, tT35, tT36, tT37, tT38, tT39, tT40, tT41, tT42, tT43, tT44, tR0_0, tR0_6, tR0_7, tR0_8, tR0_9, tR0_11, tR0_12, tR0_14, tR2_0, tR2_1, tR6_0, tR9_0, tR9_1, tR14_0, tR14_1, tR14_2, tR14_3, tR14_4, tR14_5, tR14_6, tR14_7, tR14_8, tR14_9, tR14_10, tR14_11, tR14_12, tR14_13, tR14_14, tR14_15, tR14_16, tR14_17, tR14_18, tR14_19, tR14_20, tR14_21, tR14_22, tR14_23, tR14_24, tR14_25, tR14_26, tR14_27, ST_stI, ST_stL, ST_stD, cl97, sp97 h0 h6 hr, cl87, sp87, hy, bi, cl36, e36, sh0 hs, a9, ho, Int32.not_lt.mp ho, cl23, e23, nt hany, cl88, sp88, hk4, cl24, show ∀ Q, CaP 24 [.ref (B + 2), .ref (p i), .int (nI m), .int 1] M Q = _ from e24]
            · have ha := ng ha (j := 3) rfl
              exact (va_ne (gr_k (B := B) (k := 21) (T := mT M) (by decide)) ha).trans ((va_ne (gr_k (B := B) (k := 20) (T := mT M) (by decide)) ha).trans (va_ne (gr_k (B := B) (k := 4) (T := mT M) (by decide)) ha))
            · unfold D3
              simp only [mI_stI, va_up_ap, if_true, if_neg (show ¬ B + 3 = B + 21 by omega), if_neg (show ¬ B + 3 = B + 20 by omega), if_neg (show ¬ B + 3 = B + 4 by omega), if_neg (show ¬ B + 20 = B + 21 by omega), if_neg (show ¬ B + 4 = B + 21 by omega), if_neg (show ¬ B + 4 = B + 20 by omega), e3, e4, true_and]
              intro c hc
              obtain ⟨a, b, t, r1, r2, r3, r4, r5⟩ := rm c hc
              exact ⟨a, b + t * m, by omega, r2, by unfold addF; rw [if_pos hc, r3]; show nI b + mI M (p i + 2) c * nI m = _; rw [r4, pk_mul, nI_add]⟩
    · refine go_th (GO_th h 0 2 0 (by simp) (fun Q => ?_) (fun h2 Q => sp124y (INV_ST h2) (iv_ix (iv_ns h2).1 hx) (nt hy)))
      unfold CaP
      simp [lv_args, sStep, amStep, a_nx, a_ii, a_jj, a_ji, a_ld, a_st, a_if, a_ald, a_c1, a_c2, lkp, lput, lput2, lins, oP_none, oP_next, oP_call, oP_ret, oP_thr, outP_ite, aft_ret, aft_void, aft_thr, fHnd, List.isEmpty_nil, List.filter_cons, List.filter_nil, Value.category, csum, List.map_cons, List.map_nil, List.sum_cons, List.sum_nil, List.cons_append, List.nil_append, Option.toList, vp_nar_int, narrow_b1, narrow_b0, nc115, vc115, fc115, nc111, vc111, fc111, nc100, vc100, fc100, nc109, vc109, fc109, nc120, vc120, fc120, nc119, vc119, fc119, nc116, vc116, fc116, nc45, vc45, fc45, nc32, vc32, fc32, nc102, vc102, fc102, nc106, vc106, fc106, fin3, rf_some, rf_none, upd_ap, va_up_ap, nar_bi, fits_bi, nvp_bi, bi_t, bi_f, fval, fty, ftabs, wrv_0, wrv_1, wrv_2, wrv_3, wrv_5, mT_stI, mI_stI, mL_stI, mD_stI, mR_stI, mN_stI, mS_stI, mT_stL, mI_stL, mL_stL, mD_stL, mR_stL, mN_stL, mS_stL, mT_stD, mI_stD, mL_stD, mD_stD, mR_stD, mN_stD, mS_stD, mT_stR, mI_stR, mL_stR, mD_stR, mR_stR, mN_stR, mS_stR, mT_stN, mI_stN, mL_stN, mD_stN, mR_stN, mN_stN, mS_stN, e53_0, e53_1, e53_2, e53_5, e53_6, e53_7, e53_8, e53_10, e53_13, e53_16, e53_26, e53_27, e53_30, e53_31, e53_34, e53_37, e53_38, e53_39, e53_42, e53_43, e53_44, e53_47, e53_48, e53_49, e53_50, e53_53, e53_54, e53_55, e53_58, e53_61, e53_71, e53_72, e53_75, e53_76, e53_77, e53_78, e53_81, e53_82, e53_85, e53_86, e53_89, e53_92, e53_93, e53_96, e53_97, e53_100, rt53, hn53, h0, tT0, tT1, tT2, tT3, tT4, tT5, tT6, tT7, tT8, tT9, tT10, tT11, tT12, tT13, tT14, tT15, tT16, tT17, tT18, tT19, tT20, tT21, tT22, tT23, tT24, tT25, tT26, tT27, tT28, tT29, tT30, tT31, tT32, tT33, tT34, tT35, tT36, tT37, tT38, tT39, tT40, tT41, tT42, tT43, tT44, tR0_0, tR0_6, tR0_7, tR0_8, tR0_9, tR0_11, tR0_12, tR0_14, tR2_0, tR2_1, tR6_0, tR9_0, tR9_1, tR14_0, tR14_1, tR14_2, tR14_3, tR14_4, tR14_5, tR14_6, tR14_7, tR14_8, tR14_9, tR14_10, tR14_11, tR14_12, tR14_13, tR14_14, tR14_15, tR14_16, tR14_17, tR14_18, tR14_19, tR14_20, tR14_21, tR14_22, tR14_23, tR14_24, tR14_25, tR14_26, tR14_27, ST_stI, ST_stL, ST_stD, cl97, sp97 h0 h6 hr, cl87, sp87, nt hy, bi]
  · exact go_th (GO_th h 2 1 0 (by simp) (fun Q => by unfold CaP; simp [lv_args, sStep, amStep, a_nx, a_ii, a_jj, a_ji, a_ld, a_st, a_if, a_ald, a_c1, a_c2, lkp, lput, lput2, lins, oP_none, oP_next, oP_call, oP_ret, oP_thr, outP_ite, aft_ret, aft_void, aft_thr, fHnd, List.isEmpty_nil, List.filter_cons, List.filter_nil, Value.category, csum, List.map_cons, List.map_nil, List.sum_cons, List.sum_nil, List.cons_append, List.nil_append, Option.toList, vp_nar_int, narrow_b1, narrow_b0, nc115, vc115, fc115, nc111, vc111, fc111, nc100, vc100, fc100, nc109, vc109, fc109, nc120, vc120, fc120, nc119, vc119, fc119, nc116, vc116, fc116, nc45, vc45, fc45, nc32, vc32, fc32, nc102, vc102, fc102, nc106, vc106, fc106, fin3, rf_some, rf_none, upd_ap, va_up_ap, nar_bi, fits_bi, nvp_bi, bi_t, bi_f, fval, fty, ftabs, wrv_0, wrv_1, wrv_2, wrv_3, wrv_5, mT_stI, mI_stI, mL_stI, mD_stI, mR_stI, mN_stI, mS_stI, mT_stL, mI_stL, mL_stL, mD_stL, mR_stL, mN_stL, mS_stL, mT_stD, mI_stD, mL_stD, mD_stD, mR_stD, mN_stD, mS_stD, mT_stR, mI_stR, mL_stR, mD_stR, mR_stR, mN_stR, mS_stR, mT_stN, mI_stN, mL_stN, mD_stN, mR_stN, mN_stN, mS_stN, e53_0, e53_1, e53_2, e53_5, e53_6, e53_7, e53_8, e53_10, e53_13, e53_16, e53_26, e53_27, e53_30, e53_31, e53_34, e53_37, e53_38, e53_39, e53_42, e53_43, e53_44, e53_47, e53_48, e53_49, e53_50, e53_53, e53_54, e53_55, e53_58, e53_61, e53_71, e53_72, e53_75, e53_76, e53_77, e53_78, e53_81, e53_82, e53_85, e53_86, e53_89, e53_92, e53_93, e53_96, e53_97, e53_100, rt53, hn53, h0, tT0, tT1, tT2, tT3, tT4, tT5, tT6, tT7, tT8, tT9, tT10, tT11, tT12, tT13, tT14, tT15, tT16, tT17, tT18, tT19, tT20, tT21, tT22, tT23, tT24, tT25, tT26, tT27, tT28, tT29, tT30, tT31, tT32, tT33, tT34, tT35, tT36, tT37, tT38, tT39, tT40, tT41, tT42, tT43, tT44, tR0_0, tR0_6, tR0_7, tR0_8, tR0_9, tR0_11, tR0_12, tR0_14, tR2_0, tR2_1, tR6_0, tR9_0, tR9_1, tR14_0, tR14_1, tR14_2, tR14_3, tR14_4, tR14_5, tR14_6, tR14_7, tR14_8, tR14_9, tR14_10, tR14_11, tR14_12, tR14_13, tR14_14, tR14_15, tR14_16, tR14_17, tR14_18, tR14_19, tR14_20, tR14_21, tR14_22, tR14_23, tR14_24, tR14_25, tR14_26, tR14_27, ST_stI, ST_stL, ST_stD, cl97, s97x h (nt hx)]) (fun h2 Q => sp124x (INV_ST h2) (by rw [(iv_ns h2).1]; exact nt hx)))
