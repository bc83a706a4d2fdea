/-! ===== sheet ===== -/
theorem shC_f {M : AMem} {P : Nat} {r c : Int32} (hP : mN M = P) : (∀ Q, CaP 28 [.ref P, .int r, .int c] (stN M 6 0 6) Q = Q (shC (stN M 6 0 6) P r c, .inl none)) ∧ mN (shC (stN M 6 0 6) P r c) = P + 5 ∧ mS (shC (stN M 6 0 6) P r c) = mS M + 6 + 116 ∧ (∀ a, a < P → mT (shC (stN M 6 0 6) P r c) a = mT M a ∧ mI (shC (stN M 6 0 6) P r c) a = mI M a ∧ mL (shC (stN M 6 0 6) P r c) a = mL M a ∧ mR (shC (stN M 6 0 6) P r c) a = mR M a) ∧ SH (shC (stN M 6 0 6) P r c) P ∧ (mI (shC (stN M 6 0 6) P r c) P 0 = r ∧ mI (shC (stN M 6 0 6) P r c) P 1 = c) ∧ (∀ k, k < 54 → mI (shC (stN M 6 0 6) P r c) (P + 1) k = -1) ∧ mI (shC (stN M 6 0 6) P r c) (P + 2) = (fun _ => 0) ∧ mI (shC (stN M 6 0 6) P r c) (P + 3) = (fun _ => 0) ∧ mI (shC (stN M 6 0 6) P r c) (P + 4) = (fun _ => 0) := by
  have hN : mN (stN M 6 0 6) = P + 1 := by rw [mN_stN, hP]
  have ht : mT (stN M 6 0 6) P = (6, 0) := by rw [mT_stN, va_up_ap, if_pos hP.symm]
  obtain ⟨f1, f2, f3, f4, f5, f6, f7, f8, f9⟩ := shC4_f hN ht
  refine ⟨fun Q => sp28 hN ht, ?_, ?_, fun a ha => ⟨?_, ?_, ?_, ?_⟩, ?_, ⟨?_, ?_⟩, fun k hk => ?_, ?_, ?_, ?_⟩
  all_goals unfold shC
  · rw [mN_stI, mN_stI]; exact f1
  · rw [mS_stI, mS_stI]; exact f2
  · rw [mT_stI, mT_stI, (f3 a (by omega)).1, mT_stN, va_up_ap, if_neg (by omega)]
  · rw [mI_stI, va_up_ap, if_neg (by omega), mI_stI, va_up_ap, if_neg (by omega), (f3 a (by omega)).2.1, mI_stN, va_up_ap, if_neg (by omega)]
  · rw [mL_stI, mL_stI, (f3 a (by omega)).2.2, mL_stN, va_up_ap, if_neg (by omega)]
  · rw [mR_stI, mR_stI, f4 a ha, mR_stN, va_up_ap, if_neg (by omega)]
  · rw [SH_stI, SH_stI]; exact f5
  · rw [mI_stI, va_up_ap, if_neg (by omega), mI_stI, va_up_ap, if_pos rfl, upd_ap, if_neg (by decide), upd_ap, if_pos rfl]
  · rw [mI_stI, va_up_ap, if_neg (by omega), mI_stI, va_up_ap, if_pos rfl, upd_ap, if_pos rfl]
  · rw [mI_stI, va_up_ap, if_pos rfl]
    unfold fillF
    rw [if_pos (by omega)]
  · rw [mI_stI, va_up_ap, if_neg (by omega), mI_stI, va_up_ap, if_neg (by omega)]; exact f7
  · rw [mI_stI, va_up_ap, if_neg (by omega), mI_stI, va_up_ap, if_neg (by omega)]; exact f8
  · rw [mI_stI, va_up_ap, if_neg (by omega), mI_stI, va_up_ap, if_neg (by omega)]; exact f9
theorem cs44 {B n : Nat} {r c : Int32} {M Y : AMem} (h0 : ST B M) (hx1 : inR r 1 6 = true) (hx2 : inR c 1 9 = true) (hn : mI M B 1 = nI n) (hn6 : n < 6) (e28 : ∀ Q, CaP 28 [.ref (mN M), .int r, .int c] (stN M 6 0 6) Q = Q (Y, .inl none)) (hY : ST B Y) (hP : mT Y (mN M) = (6, 0)) : ∀ Q, CaP 44 [.ref B, .int r, .int c] M Q = Q (stI (stR Y (B + 1) (va_up (mR Y (B + 1)) n (some (mN M)))) B (upd (mI Y B) 1 (nI (n + 1))), .inl (some (.int (nI n)))) := by
  intro Q
  unfold CaP
  simp [lv_args, sStep, amStep, a_nx, a_ii, a_jj, a_ji, a_ld, a_st, a_if, a_ald, a_c1, a_c2, lkp, lput, lput2, lins, oP_none, oP_next, oP_call, oP_ret, oP_thr, outP_ite, aft_ret, aft_void, aft_thr, fHnd, List.isEmpty_nil, List.filter_cons, List.filter_nil, Value.category, csum, List.map_cons, List.map_nil, List.sum_cons, List.sum_nil, List.cons_append, List.nil_append, Option.toList, vp_nar_int, narrow_b1, narrow_b0, nc115, vc115, fc115, nc111, vc111, fc111, nc100, vc100, fc100, nc109, vc109, fc109, nc120, vc120, fc120, nc119, vc119, fc119, nc116, vc116, fc116, nc45, vc45, fc45, nc32, vc32, fc32, nc102, vc102, fc102, nc106, vc106, fc106, fin3, rf_some, rf_none, upd_ap, va_up_ap, nar_bi, fits_bi, nvp_bi, bi_t, bi_f, fval, fty, ftabs, wrv_0, wrv_1, wrv_2, wrv_3, wrv_5, mT_stI, mI_stI, mL_stI, mD_stI, mR_stI, mN_stI, mS_stI, mT_stL, mI_stL, mL_stL, mD_stL, mR_stL, mN_stL, mS_stL, mT_stD, mI_stD, mL_stD, mD_stD, mR_stD, mN_stD, mS_stD, mT_stR, mI_stR, mL_stR, mD_stR, mR_stR, mN_stR, mS_stR, mT_stN, mI_stN, mL_stN, mD_stN, mR_stN, mN_stN, mS_stN, e44_0, e44_1, e44_2, e44_4, e44_7, e44_10, e44_11, e44_12, e44_14, e44_17, e44_20, e44_30, e44_31, e44_34, e44_35, e44_36, e44_39, e44_40, e44_41, e44_44, e44_45, e44_48, e44_58, e44_59, e44_62, e44_63, e44_66, e44_67, e44_68, e44_69, e44_72, e44_73, e44_74, e44_75, e44_76, e44_77, e44_80, e44_81, rt44, hn44, h0, tT0, tT1, tT2, tT3, tT4, tT5, tT6, tT7, tT8, tT9, tT10, tT11, tT12, tT13, tT14, tT15, tT16, tT17, tT18, tT19, tT20, tT21, tT22, tT23, tT24, tT25, tT26, tT27, tT28, tT29, tT30, tT31, tT32, tT33, tT34, tT35, tT36, tT37, tT38, tT39, tT40, tT41, tT42, tT43, tT44, tR0_0, tR0_6, tR0_7, tR0_8, tR0_9, tR0_11, tR0_12, tR0_14, tR2_0, tR2_1, tR6_0, tR9_0, tR9_1, tR14_0, tR14_1, tR14_2, tR14_3, tR14_4, tR14_5, tR14_6, tR14_7, tR14_8, tR14_9, tR14_10, tR14_11, tR14_12, tR14_13, tR14_14, tR14_15, tR14_16, tR14_17, tR14_18, tR14_19, tR14_20, tR14_21, tR14_22, tR14_23, tR14_24, tR14_25, tR14_26, tR14_27, ST_stI, ST_stL, ST_stD, cl87, sp87, hx1, hx2, bi, hn, nlt0 (show n < 2 ^ 31 by omega), ge6 hn6, nlt6 hn6, cl28, e28, tT0 hY, tT1 hY, hP, elK, inb_nI hn6, nI_clamp (show n < 2 ^ 31 by omega), fNs, nI_1]
theorem in1 {x : Int32} {n : Nat} {y : Int32} (hy : y = nI n) (hn : n < 100) (h : inR x 1 y = true) : ∃ k, 1 ≤ k ∧ k ≤ n ∧ x = nI k := by
  have h2 : inR x 0 y = true := by
    simp only [inR, Bool.and_eq_true, decide_eq_true_eq] at h ⊢
    exact ⟨Int32.le_trans (by decide) h.1, h.2⟩
  obtain ⟨k, hk, rfl⟩ := inR_of hy (by omega) h2
  simp only [inR, Bool.and_eq_true, decide_eq_true_eq] at h
  have h1 := h.1
  rw [show (1 : Int32) = nI 1 from rfl, nI_leI (by decide) (by omega)] at h1
  exact ⟨k, h1, hk, rfl⟩
theorem cnt_neg {P : Nat → Int32} {c : Nat} (hc : c < 54) (h : ∀ k, k < 54 → P k = -1) : cnt P c 54 = 0 := cnt_m1 (n := 0) hc (by decide) (fun k _ hk => h k hk)
theorem fill_in {G : Nat → Int32} {n k : Nat} (hk : k < 54) : fillF G (54 * n) (-1) 54 (54 * n + k) = -1 := by
  unfold fillF
  rw [if_pos (by omega)]
theorem fill_out {G : Nat → Int32} {n i k : Nat} (hk : k < 54) (hi : i < n) : fillF G (54 * n) (-1) 54 (54 * i + k) = G (54 * i + k) := by
  unfold fillF
  rw [if_neg (by omega)]
theorem mI_oM' {B : Nat} {M : AMem} {r : Int32} : mI (oM B M r) = mI M := of_eq_true (eq_true rfl)
theorem mI_stI' {M : AMem} {a : Nat} {f : Nat → Int32} : mI (stI M a f) = va_up (mI M) a f := of_eq_true (eq_true rfl)
theorem mT_stI' {M : AMem} {a : Nat} {f : Nat → Int32} : mT (stI M a f) = mT M := of_eq_true (eq_true rfl)
theorem mR_stI' {M : AMem} {a : Nat} {f : Nat → Int32} : mR (stI M a f) = mR M := of_eq_true (eq_true rfl)
theorem mL_stI' {M : AMem} {a : Nat} {f : Nat → Int32} : mL (stI M a f) = mL M := of_eq_true (eq_true rfl)
theorem mN_stI' {M : AMem} {a : Nat} {f : Nat → Int32} : mN (stI M a f) = mN M := of_eq_true (eq_true rfl)
theorem mS_stI' {M : AMem} {a : Nat} {f : Nat → Int32} : mS (stI M a f) = mS M := of_eq_true (eq_true rfl)
theorem oM_mF {B k : Nat} {M : AMem} {x r : Int32} : mF B (oM B M r) k x = oM B (mF B M k x) r := of_eq_true (eq_true rfl)
theorem SK_mF {B s k : Nat} {M M' : AMem} {x : Int32} (h : SK B s M M') (hs : s < B) : SK B s M (mF B M' k x) := by
  unfold mF
  exact SK_Bk h hs
theorem mN_mF {B k : Nat} {M : AMem} {x : Int32} : mN (mF B M k x) = mN M := of_eq_true (eq_true rfl)
theorem mS_mF {B k : Nat} {M : AMem} {x : Int32} : mS (mF B M k x) = mS M := of_eq_true (eq_true rfl)
theorem md111 {B n : Nat} {r c : Int32} {X : AMem} (h : ST B X) (hx : (inR r 1 6 && inR c 1 9) = true) (hn : mI X (B + 14) 28 = nI n) (hn6 : n < 6) : ∀ Q, CaP 111 [.ref (B + 14), .int r, .int c] X Q = Q (thr B (mF B (stI (stI (stI X (B + 15) (upd (mI X (B + 15)) n r)) (B + 16) (upd (mI X (B + 16)) n c)) (B + 17) (fillF (mI X (B + 17)) (54 * n) (-1) 54)) 28 (nI (n + 1))) 0, .inl (some (.int (nI n)))) := by
  intro Q
  rw [sp111 h hx hn hn6, thr_cm (show ¬ 15 = 14 by decide), thr_cm (show ¬ 16 = 14 by decide), thr_cm (show ¬ 17 = 14 by decide), thr_mF (show ¬ 28 = 36 by decide)]
theorem op0 {B s L : Nat} {M : AMem} {ns np no nl : Nat} {p q o : Nat → Nat} (h : INV B s L M ns np no nl p q o) (x y : Int32) : GO B s L 44 111 [.int x, .int y] [(0, 1), (1, 2)] M := by
  have h0 := INV_ST h
  have hsB := h.1.1.2.1
  have hN := ad_N h.1
  by_cases hx : (inR x 1 6 && inR y 1 9) = true
  · have hx2 := hx
    rw [Bool.and_eq_true] at hx2
    by_cases hn : ns < 6
    · have hinv := h
      obtain ⟨hA, ⟨⟨a1, a2⟩, ⟨a3, a4⟩, ⟨a5, a6⟩, ⟨a7, a8⟩, a9, a10, a11, a12, a13, a14⟩, d2, d3, d4, d5, d6, d7, d8⟩ := h
      obtain ⟨e28, yN, yS, yA, ySH, ⟨y0, y1⟩, yP, yT2, y3, y4⟩ := @shC_f M (mN M) x y rfl
      generalize shC (stN M 6 0 6) (mN M) x y = Y at e28 yN yS yA ySH y0 y1 yP yT2 y3 y4
      have hAY : AD B s L Y ns np no p q o := AD_fr hA (fun a ha => (yA a ha).1) (fun a ha => (yA a ha).2.2.2) (by omega)
      have hY := hAY.1.1
      have hcls := cs44 h0 hx2.1 hx2.2 a1 hn e28 hY (sh0 ySH)
      have hA2 := AD_addS (P := mN M) hAY hn (by omega) (by omega) ySH (fun i hi => (hA.2.2.1.1 i hi).2.1)
      have yk : ∀ k, k < 45 → mI Y (B + k) = mI M (B + k) := fun k hk => (yA _ (by omega)).2.1
      have y00 : mI Y B = mI M B := yk 0 (by decide)
      generalize hF : va_up (mR Y (B + 1)) ns (some (mN M)) = F at hcls hA2
      generalize hM1 : stI (stR Y (B + 1) F) B (upd (mI Y B) 1 (nI (ns + 1))) = M1 at hcls
      have m1T : mT M1 = mT Y := by rw [← hM1, mT_stI, mT_stR]
      have m1I : mI M1 = va_up (mI Y) B (upd (mI Y B) 1 (nI (ns + 1))) := by rw [← hM1, mI_stI, mI_stR]
      have m1L : mL M1 = mL Y := by rw [← hM1, mL_stI, mL_stR]
      have m1N : mN M1 = mN Y := by rw [← hM1, mN_stI, mN_stR]
      have m1S : mS M1 = mS Y := by rw [← hM1, mS_stI, mS_stR]
      have hA3 : AD B s L M1 (ns + 1) np no (adx p ns (mN M)) q o := by rw [← hM1]; exact AD_fr hA2 (fun a _ => by rw [mT_stI']) (fun a _ => by rw [mR_stI']) (by rw [mN_stI']; exact Nat.le_refl _)
      have hS1 : ST B M1 := hA3.1.1
      have m1k : ∀ k, 1 ≤ k → k < 45 → mI M1 (B + k) = mI M (B + k) := fun k h1 h2 => by rw [m1I, va_up_ap, if_neg (by omega), yk k h2]
      have sk1 : SK B s M M1 := ⟨hS1, by rw [m1T]; exact (yA s (by omega)).1, by rw [m1I, va_up_ap, if_neg (by omega)]; exact (yA s (by omega)).2.1⟩
      have m1a : ∀ a, a < mN M → ¬ a = B → mI M1 a = mI M a := fun a ha hb => by rw [m1I, va_up_ap, if_neg hb]; exact (yA a ha).2.1
      have m1n : ∀ t, mI M1 (mN M + t) = mI Y (mN M + t) := fun t => by rw [m1I, va_up_ap, if_neg (by omega)]
      refine go_w5 (M1 := M1) (M5 := mF B (stI (stI (stI M1 (B + 15) (upd (mI M (B + 15)) ns x)) (B + 16) (upd (mI M (B + 16)) ns y)) (B + 17) (fillF (mI M (B + 17)) (54 * ns) (-1) 54)) 28 (nI (ns + 1))) (r := nI ns) hsB hcls sk1 (fun Q => ?_) (SK_mF (SK_Bk (SK_Bk (SK_Bk sk1 hsB) hsB) hsB) hsB) (by rw [mN_mF, mN_stI', mN_stI', mN_stI']; omega) (by rw [mS_mF, mS_stI', mS_stI', mS_stI']; omega) ⟨ns + 1, np, no, nl, adx p ns (mN M), q, o, ?_⟩
      · rw [md111 (X := oM B M1 (nI ns)) (by rw [ST_oM]; exact hS1) hx (by rw [mI_oM', m1k 14 (by decide) (by decide)]; exact a2) hn]
        rw [mI_oM', m1k 15 (by decide) (by decide), m1k 16 (by decide) (by decide), m1k 17 (by decide) (by decide), oM_stI, oM_stI, oM_stI, oM_mF]
      · generalize hG : fillF (mI M (B + 17)) (54 * ns) (-1) 54 = G
        have g5 : ∀ a, mI (mF B (stI (stI (stI M1 (B + 15) (upd (mI M (B + 15)) ns x)) (B + 16) (upd (mI M (B + 16)) ns y)) (B + 17) G) 28 (nI (ns + 1))) a = if a = B + 14 then upd (mI M (B + 14)) 28 (nI (ns + 1)) else if a = B + 17 then G else if a = B + 16 then upd (mI M (B + 16)) ns y else if a = B + 15 then upd (mI M (B + 15)) ns x else mI M1 a := by
          intro a
          unfold mF
          simp only [mI_stI', va_up_ap, if_neg (show ¬ B + 14 = B + 17 by omega), if_neg (show ¬ B + 14 = B + 16 by omega), if_neg (show ¬ B + 14 = B + 15 by omega), m1k 14 (by decide) (by decide)]
        have g5L : mL (mF B (stI (stI (stI M1 (B + 15) (upd (mI M (B + 15)) ns x)) (B + 16) (upd (mI M (B + 16)) ns y)) (B + 17) G) 28 (nI (ns + 1))) = mL M1 := by unfold mF; simp only [mL_stI']
        have hA5 : AD B s L (mF B (stI (stI (stI M1 (B + 15) (upd (mI M (B + 15)) ns x)) (B + 16) (upd (mI M (B + 16)) ns y)) (B + 17) G) 28 (nI (ns + 1))) (ns + 1) np no (adx p ns (mN M)) q o := by
          unfold mF
          exact AD_fr hA3 (fun a _ => by simp only [mT_stI']) (fun a _ => by simp only [mR_stI']) (by simp only [mN_stI']; omega)
        generalize mF B (stI (stI (stI M1 (B + 15) (upd (mI M (B + 15)) ns x)) (B + 16) (upd (mI M (B + 16)) ns y)) (B + 17) G) 28 (nI (ns + 1)) = M5 at g5 g5L hA5
        have fr : ∀ j, ¬ j = 1 → ¬ j = 2 → j < 9 → FR B M j (mI M) (mI M5) := by
          intro j hj1 hj2 hj9 a ha e
          have n0 : ¬ a = B := fun e2 => hj1 (by rw [← e, e2]; exact grB)
          have n14 : ¬ a = B + 14 := fun e2 => hj1 (by rw [← e, e2]; exact gr_k (by decide))
          have n15 : ¬ a = B + 15 := fun e2 => hj2 (by rw [← e, e2]; exact gr_k (by decide))
          have n16 : ¬ a = B + 16 := fun e2 => hj2 (by rw [← e, e2]; exact gr_k (by decide))
          have n17 : ¬ a = B + 17 := fun e2 => hj2 (by rw [← e, e2]; exact gr_k (by decide))
          rw [g5, if_neg n14, if_neg n17, if_neg n16, if_neg n15]
          exact m1a a ha n0
        have fk : ∀ j, FK B M j (mL M) (mL M5) := fun j a ha _ => by rw [g5L, m1L]; exact (yA a ha).2.2.1
        refine ⟨hA5, ?_, ⟨fun i hi => ?_, fun i hi hi2 k hk => ?_⟩, D3_fr hN (fr 3 (by decide) (by decide) (by decide)) d3, D4_fr hN (fr 4 (by decide) (by decide) (by decide)) d4, D5_fr hN (fr 5 (by decide) (by decide) (by decide)) d5, D6_fr hA (fr 6 (by decide) (by decide) (by decide)) (fk 6) d6, D7_fr hA (fr 7 (by decide) (by decide) (by decide)) (fk 7) d7, D8_fr hN (fr 8 (by decide) (by decide) (by decide)) (fr 7 (by decide) (by decide) (by decide)) d8⟩
        · have gB : mI M5 B = upd (mI M B) 1 (nI (ns + 1)) := by
            rw [g5, if_neg (by omega), if_neg (by omega), if_neg (by omega), if_neg (by omega), m1I, va_up_ap, if_pos rfl, y00]
          have g14 : mI M5 (B + 14) = upd (mI M (B + 14)) 28 (nI (ns + 1)) := by rw [g5, if_pos rfl]
          unfold D1
          rw [gB, g14]
          simp [upd_ap, a3, a4, a5, a6, a7, a8, a9, a10, a11, a12]
          exact ⟨a10 ▸ a13, a11 ▸ a14⟩
        · by_cases e : i = ns
          · rw [e, adx_n]
            obtain ⟨R, r1, r2, r3⟩ := in1 (n := 6) rfl (by decide) hx2.1
            obtain ⟨C, c1, c2, c3⟩ := in1 (n := 9) rfl (by decide) hx2.2
            have gn : ∀ t, t < 5 → mI M5 (mN M + t) = mI Y (mN M + t) := fun t ht => by
              rw [g5, if_neg (by omega), if_neg (by omega), if_neg (by omega), if_neg (by omega), m1n]
            have gn0 := gn 0 (by decide)
            rw [Nat.add_zero] at gn0
            refine ⟨R, C, ⟨r1, r2, c1, c2⟩, ⟨by rw [gn0, y0, r3], by rw [gn0, y1, c3], ?_, ?_⟩, fun k hk => ?_, fun d hd => ?_, fun k hk => ?_⟩
            · rw [g5, if_neg (by omega), if_neg (by omega), if_neg (by omega), if_pos rfl, upd_ap, if_pos rfl, r3]
            · rw [g5, if_neg (by omega), if_neg (by omega), if_pos rfl, upd_ap, if_pos rfl, c3]
            · rw [gn 1 (by decide), g5, if_neg (by omega), if_pos rfl, ← hG, fill_in hk, yP k hk]
              exact ⟨rfl, Or.inl rfl, fun _ => rfl⟩
            · rw [gn 1 (by decide), gn 2 (by decide), yT2, cnt_neg hd yP]
              rfl
            · obtain ⟨z1, z2⟩ := d2.2 ns (Nat.le_refl ns) hn k hk
              rw [gn 3 (by decide), gn 4 (by decide), y3, y4, g5, if_neg (by omega), if_neg (by omega), if_neg (by omega), if_neg (by omega), g5, if_neg (by omega), if_neg (by omega), if_neg (by omega), if_neg (by omega), m1k 18 (by decide) (by decide), m1k 19 (by decide) (by decide), z1, z2]
              exact ⟨rfl, rfl, show inR 0 (-40) 40 = true by decide, show inR 0 (-40) 40 = true by decide⟩
          · have hi2 : i < ns := by omega
            rw [adx_lt hi2]
            have lo := hA.2.2.1.1 i hi2
            have go : ∀ t, t < 5 → mI M5 (p i + t) = mI M (p i + t) := fun t ht => by
              rw [g5, if_neg (by omega), if_neg (by omega), if_neg (by omega), if_neg (by omega), m1a _ (by omega) (by omega)]
            exact SD_fr (d2.1 i hi2) (go 0 (by decide)) (go 1 (by decide)) (go 2 (by decide)) (go 3 (by decide)) (go 4 (by decide)) (by rw [g5, if_neg (by omega), if_neg (by omega), if_neg (by omega), if_pos rfl, upd_ap, if_neg e]) (by rw [g5, if_neg (by omega), if_neg (by omega), if_pos rfl, upd_ap, if_neg e]) (fun k hk => by rw [g5, if_neg (by omega), if_pos rfl, ← hG, fill_out hk hi2]) (fun k hk => by rw [g5, if_neg (by omega), if_neg (by omega), if_neg (by omega), if_neg (by omega), m1k 18 (by decide) (by decide)]) (fun k hk => by rw [g5, if_neg (by omega), if_neg (by omega), if_neg (by omega), if_neg (by omega), m1k 19 (by decide) (by decide)])
        · rw [g5, if_neg (by omega), if_neg (by omega), if_neg (by omega), if_neg (by omega), g5, if_neg (by omega), if_neg (by omega), if_neg (by omega), if_neg (by omega), m1k 18 (by decide) (by decide), m1k 19 (by decide) (by decide)]
          exact d2.2 i (by omega) hi2 k hk
    · have hn6 : ns = 6 := by have := (iv_ns h).2; omega
      obtain ⟨⟨a1, a2⟩, -⟩ := h.2.1
      refine go_th (GO_th h 1 2 0 (by simp) (fun Q => ?_) (fun h2 Q => ?_))
      · unfold CaP
        simp [lv_args, sStep, amStep, a_nx, a_ii, a_jj, a_ji, a_ld, a_st, a_if, a_ald, a_c1, a_c2, lkp, lput, lput2, lins, oP_none, oP_next, oP_call, oP_ret, oP_thr, outP_ite, aft_ret, aft_void, aft_thr, fHnd, List.isEmpty_nil, List.filter_cons, List.filter_nil, Value.category, csum, List.map_cons, List.map_nil, List.sum_cons, List.sum_nil, List.cons_append, List.nil_append, Option.toList, vp_nar_int, narrow_b1, narrow_b0, nc115, vc115, fc115, nc111, vc111, fc111, nc100, vc100, fc100, nc109, vc109, fc109, nc120, vc120, fc120, nc119, vc119, fc119, nc116, vc116, fc116, nc45, vc45, fc45, nc32, vc32, fc32, nc102, vc102, fc102, nc106, vc106, fc106, fin3, rf_some, rf_none, upd_ap, va_up_ap, nar_bi, fits_bi, nvp_bi, bi_t, bi_f, fval, fty, ftabs, wrv_0, wrv_1, wrv_2, wrv_3, wrv_5, mT_stI, mI_stI, mL_stI, mD_stI, mR_stI, mN_stI, mS_stI, mT_stL, mI_stL, mL_stL, mD_stL, mR_stL, mN_stL, mS_stL, mT_stD, mI_stD, mL_stD, mD_stD, mR_stD, mN_stD, mS_stD, mT_stR, mI_stR, mL_stR, mD_stR, mR_stR, mN_stR, mS_stR, mT_stN, mI_stN, mL_stN, mD_stN, mR_stN, mN_stN, mS_stN, e44_0, e44_1, e44_2, e44_4, e44_7, e44_10, e44_11, e44_12, e44_14, e44_17, e44_20, e44_30, e44_31, e44_34, e44_35, e44_36, e44_39, e44_40, e44_41, e44_44, e44_45, e44_48, e44_58, e44_59, e44_62, e44_63, e44_66, e44_67, e44_68, e44_69, e44_72, e44_73, e44_74, e44_75, e44_76, e44_77, e44_80, e44_81, rt44, hn44, h0, tT0, tT1, tT2, tT3, tT4, tT5, tT6, tT7, tT8, tT9, tT10, tT11, tT12, tT13, tT14, tT15, tT16, tT17, tT18, tT19, tT20, tT21, tT22, tT23, tT24, tT25, tT26, tT27, tT28, tT29, tT30, tT31, tT32, tT33, tT34, tT35, tT36, tT37, tT38, tT39, tT40, tT41, tT42, tT43, tT44, tR0_0, tR0_6, tR0_7, tR0_8, tR0_9, tR0_11, tR0_12, tR0_14, tR2_0, tR2_1, tR6_0, tR9_0, tR9_1, tR14_0, tR14_1, tR14_2, tR14_3, tR14_4, tR14_5, tR14_6, tR14_7, tR14_8, tR14_9, tR14_10, tR14_11, tR14_12, tR14_13, tR14_14, tR14_15, tR14_16, tR14_17, tR14_18, tR14_19, tR14_20, tR14_21, tR14_22, tR14_23, tR14_24, tR14_25, tR14_26, tR14_27, ST_stI, ST_stL, ST_stD, cl87, sp87, hx2.1, hx2.2, bi, a1, hn6, show ¬ nI 6 < 0 by decide, show (6 : Int32) ≤ nI 6 by decide, show ¬ nI 6 < (6 : Int32) by decide]
      · exact sp111y (INV_ST h2) hx (by rw [(iv_ns h2).1, hn6]; rfl)
  · refine go_th (GO_th h 0 1 0 (by simp) (fun Q => ?_) (fun h2 Q => sp111x (INV_ST h2) (nt hx)))
    unfold CaP
    cases e1 : inR x 1 6
    · simp [lv_args, sStep, amStep, a_nx, a_ii, a_jj, a_ji, a_ld, a_st, a_if, a_ald, a_c1, a_c2, lkp, lput, lput2, lins, oP_none, oP_next, oP_call, oP_ret, oP_thr, outP_ite, aft_ret, aft_void, aft_thr, fHnd, List.isEmpty_nil, List.filter_cons, List.filter_nil, Value.category, csum, List.map_cons, List.map_nil, List.sum_cons, List.sum_nil, List.cons_append, List.nil_append, Option.toList, vp_nar_int, narrow_b1, narrow_b0, nc115, vc115, fc115, nc111, vc111, fc111, nc100, vc100, fc100, nc109, vc109, fc109, nc120, vc120, fc120, nc119, vc119, fc119, nc116, vc116, fc116, nc45, vc45, fc45, nc32, vc32, fc32, nc102, vc102, fc102, nc106, vc106, fc106, fin3, rf_some, rf_none, upd_ap, va_up_ap, nar_bi, fits_bi, nvp_bi, bi_t, bi_f, fval, fty, ftabs, wrv_0, wrv_1, wrv_2, wrv_3, wrv_5, mT_stI, mI_stI, mL_stI, mD_stI, mR_stI, mN_stI, mS_stI, mT_stL, mI_stL, mL_stL, mD_stL, mR_stL, mN_stL, mS_stL, mT_stD, mI_stD, mL_stD, mD_stD, mR_stD, mN_stD, mS_stD, mT_stR, mI_stR, mL_stR, mD_stR, mR_stR, mN_stR, mS_stR, mT_stN, mI_stN, mL_stN, mD_stN, mR_stN, mN_stN, mS_stN, e44_0, e44_1, e44_2, e44_4, e44_7, e44_10, e44_11, e44_12, e44_14, e44_17, e44_20, e44_30, e44_31, e44_34, e44_35, e44_36, e44_39, e44_40, e44_41, e44_44, e44_45, e44_48, e44_58, e44_59, e44_62, e44_63, e44_66, e44_67, e44_68, e44_69, e44_72, e44_73, e44_74, e44_75, e44_76, e44_77, e44_80, e44_81, rt44, hn44, h0, tT0, tT1, tT2, tT3, tT4, tT5, tT6, tT7, tT8, tT9, tT10, tT11, tT12, tT13, tT14, tT15, tT16, tT17, tT18, tT19, tT20, tT21, tT22, tT23, tT24, tT25, tT26, tT27, tT28, tT29, tT30, tT31, tT32, tT33, tT34, tT35, tT36, tT37, tT38, tT39, tT40, tT41, tT42, tT43, tT44, tR0_0, tR0_6, tR0_7, tR0_8, tR0_9, tR0_11, tR0_12, tR0_14, tR2_0, tR2_1, tR6_0, tR9_0, tR9_1, tR14_0, tR14_1, tR14_2, tR14_3, tR14_4, tR14_5, tR14_6, tR14_7, tR14_8, tR14_9, tR14_10, tR14_11, tR14_12, tR14_13, tR14_14, tR14_15, tR14_16, tR14_17, tR14_18, tR14_19, tR14_20, tR14_21, tR14_22, tR14_23, tR14_24, tR14_25, tR14_26, tR14_27, ST_stI, ST_stL, ST_stD, cl87, sp87, e1, bi]
    · cases e2 : inR y 1 9
      · simp [lv_args, sStep, amStep, a_nx, a_ii, a_jj, a_ji, a_ld, a_st, a_if, a_ald, a_c1, a_c2, lkp, lput, lput2, lins, oP_none, oP_next, oP_call, oP_ret, oP_thr, outP_ite, aft_ret, aft_void, aft_thr, fHnd, List.isEmpty_nil, List.filter_cons, List.filter_nil, Value.category, csum, List.map_cons, List.map_nil, List.sum_cons, List.sum_nil, List.cons_append, List.nil_append, Option.toList, vp_nar_int, narrow_b1, narrow_b0, nc115, vc115, fc115, nc111, vc111, fc111, nc100, vc100, fc100, nc109, vc109, fc109, nc120, vc120, fc120, nc119, vc119, fc119, nc116, vc116, fc116, nc45, vc45, fc45, nc32, vc32, fc32, nc102, vc102, fc102, nc106, vc106, fc106, fin3, rf_some, rf_none, upd_ap, va_up_ap, nar_bi, fits_bi, nvp_bi, bi_t, bi_f, fval, fty, ftabs, wrv_0, wrv_1, wrv_2, wrv_3, wrv_5, mT_stI, mI_stI, mL_stI, mD_stI, mR_stI, mN_stI, mS_stI, mT_stL, mI_stL, mL_stL, mD_stL, mR_stL, mN_stL, mS_stL, mT_stD, mI_stD, mL_stD, mD_stD, mR_stD, mN_stD, mS_stD, mT_stR, mI_stR, mL_stR, mD_stR, mR_stR, mN_stR, mS_stR, mT_stN, mI_stN, mL_stN, mD_stN, mR_stN, mN_stN, mS_stN, e44_0, e44_1, e44_2, e44_4, e44_7, e44_10, e44_11, e44_12, e44_14, e44_17, e44_20, e44_30, e44_31, e44_34, e44_35, e44_36, e44_39, e44_40, e44_41, e44_44, e44_45, e44_48, e44_58, e44_59, e44_62, e44_63, e44_66, e44_67, e44_68, e44_69, e44_72, e44_73, e44_74, e44_75, e44_76, e44_77, e44_80, e44_81, rt44, hn44, h0, tT0, tT1, tT2, tT3, tT4, tT5, tT6, tT7, tT8, tT9, tT10, tT11, tT12, tT13, tT14, tT15, tT16, tT17, tT18, tT19, tT20, tT21, tT22, tT23, tT24, tT25, tT26, tT27, tT28, tT29, tT30, tT31, tT32, tT33, tT34, tT35, tT36, tT37, tT38, tT39, tT40, tT41, tT42, tT43, tT44, tR0_0, tR0_6, tR0_7, tR0_8, tR0_9, tR0_11, tR0_12, tR0_14, tR2_0, tR2_1, tR6_0, tR9_0, tR9_1, tR14_0, tR14_1, tR14_2, tR14_3, tR14_4, tR14_5, tR14_6, tR14_7, tR14_8, tR14_9, tR14_10, tR14_11, tR14_12, tR14_13, tR14_14, tR14_15, tR14_16, tR14_17, tR14_18, tR14_19, tR14_20, tR14_21, tR14_22, tR14_23, tR14_24, tR14_25, tR14_26, tR14_27, ST_stI, ST_stL, ST_stD, cl87, sp87, e1, e2, bi]
      · rw [e1, e2] at hx
        exact absurd rfl hx
