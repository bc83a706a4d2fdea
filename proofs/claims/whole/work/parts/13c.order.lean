/-! ===== order ===== -/
theorem stL_stI {M : AMem} {a b : Nat} {f : Nat → Int32} {g : Nat → Int64} : stI (stL M b g) a f = stL (stI M a f) b g := of_eq_true (eq_true rfl)
def orC (M : AMem) (a : Nat) (w : Int32) (k : Int64) (n z : Int32) : AMem := stL (stI M a (upd (upd (upd (upd (mI M a) 4 0) 0 w) 2 n) 3 z)) a (vp_updL (mL M a) 1 k)
theorem sp7 {a : Nat} {w n z : Int32} {k : Int64} {M : AMem} {Q : AR → Prop} (ht : mT M a = (3, 0)) : CaP 7 [.ref a, .int w, .long k, .int n, .int z] M Q = Q (orC M a w k n z, .inl none) := by
  unfold CaP orC
  simp [lv_args, sStep, amStep, a_nx, a_ii, a_jj, a_ji, a_ld, a_st, a_if, a_ald, a_c1, a_c2, lkp, lput, lput2, lins, oP_none, oP_next, oP_call, oP_ret, oP_thr, outP_ite, aft_ret, aft_void, aft_thr, fHnd, List.isEmpty_nil, List.filter_cons, List.filter_nil, Value.category, csum, List.map_cons, List.map_nil, List.sum_cons, List.sum_nil, List.cons_append, List.nil_append, Option.toList, vp_nar_int, narrow_b1, narrow_b0, nc115, vc115, fc115, nc111, vc111, fc111, nc100, vc100, fc100, nc109, vc109, fc109, nc120, vc120, fc120, nc119, vc119, fc119, nc116, vc116, fc116, nc45, vc45, fc45, nc32, vc32, fc32, nc102, vc102, fc102, nc106, vc106, fc106, fin3, rf_some, rf_none, upd_ap, va_up_ap, nar_bi, fits_bi, nvp_bi, bi_t, bi_f, fval, fty, ftabs, wrv_0, wrv_1, wrv_2, wrv_3, wrv_5, mT_stI, mI_stI, mL_stI, mD_stI, mR_stI, mN_stI, mS_stI, mT_stL, mI_stL, mL_stL, mD_stL, mR_stL, mN_stL, mS_stL, mT_stD, mI_stD, mL_stD, mD_stD, mR_stD, mN_stD, mS_stD, mT_stR, mI_stR, mL_stR, mD_stR, mR_stR, mN_stR, mS_stR, mT_stN, mI_stN, mL_stN, mD_stN, mR_stN, mN_stN, mS_stN, e7_0, e7_1, e7_4, e7_5, e7_6, e7_9, e7_10, e7_11, e7_14, e7_15, e7_16, e7_19, e7_20, e7_22, e7_25, e7_26, e7_28, e7_31, rt7, hn7, ht, stI_stI, stL_stI, wrF]
theorem orC_f {M : AMem} {P : Nat} {w n z : Int32} {k : Int64} (hP : mN M = P) : (∀ Q, CaP 7 [.ref P, .int w, .long k, .int n, .int z] (stN M 3 0 5) Q = Q (orC (stN M 3 0 5) P w k n z, .inl none)) ∧ mN (orC (stN M 3 0 5) P w k n z) = P + 1 ∧ mS (orC (stN M 3 0 5) P w k n z) = mS M + 5 ∧ (∀ a, a < P → mT (orC (stN M 3 0 5) P w k n z) a = mT M a ∧ mI (orC (stN M 3 0 5) P w k n z) a = mI M a ∧ mL (orC (stN M 3 0 5) P w k n z) a = mL M a ∧ mR (orC (stN M 3 0 5) P w k n z) a = mR M a) ∧ mT (orC (stN M 3 0 5) P w k n z) P = (3, 0) ∧ mI (orC (stN M 3 0 5) P w k n z) P = upd (upd (upd (upd (fun _ => 0) 4 0) 0 w) 2 n) 3 z ∧ mL (orC (stN M 3 0 5) P w k n z) P = vp_updL (fun _ => 0) 1 k := by
  have ht : mT (stN M 3 0 5) P = (3, 0) := by rw [mT_stN, va_up_ap, if_pos hP.symm]
  refine ⟨fun Q => sp7 ht, ?_, ?_, fun a ha => ⟨?_, ?_, ?_, ?_⟩, ?_, ?_, ?_⟩
  all_goals unfold orC
  · rw [mN_stL, mN_stI, mN_stN, hP]
  · rw [mS_stL, mS_stI, mS_stN]
  · rw [mT_stL, mT_stI, mT_stN, va_up_ap, if_neg (by omega)]
  · rw [mI_stL, mI_stI, va_up_ap, if_neg (by omega), mI_stN, va_up_ap, if_neg (by omega)]
  · rw [mL_stL, va_up_ap, if_neg (by omega), mL_stI, mL_stN, va_up_ap, if_neg (by omega)]
  · rw [mR_stL, mR_stI, mR_stN, va_up_ap, if_neg (by omega)]
  · rw [mT_stL, mT_stI]; exact ht
  · rw [mI_stL, mI_stI, va_up_ap, if_pos rfl, mI_stN, va_up_ap, if_pos hP.symm]
  · rw [mL_stL, va_up_ap, if_pos rfl, mL_stN, va_up_ap, if_pos hP.symm]
theorem cs78 {B j : Nat} {w k n z : Int32} {M Y : AMem} (h0 : ST B M) (hw : inR w 0 3 = true) (hk : kdF k = true) (hn : inR n 1 9 = true) (hz : inR z 1 99 = true) (hj : mI M B 13 = nI j) (hj12 : j < 12) (e7 : ∀ Q, CaP 7 [.ref (mN M), .int w, .long (ksF k), .int n, .int z] (stN M 3 0 5) Q = Q (Y, .inl none)) (hY : ST B Y) (hP : mT Y (mN M) = (3, 0)) : ∀ Q, CaP 78 [.ref B, .int w, .int k, .int n, .int z] M Q = Q (stI (stR Y (B + 12) (va_up (mR Y (B + 12)) j (some (mN M)))) B (upd (mI Y B) 13 (nI (j + 1))), .inl (some (.int (nI j)))) := by
  intro Q
  unfold CaP
  simp [lv_args, sStep, amStep, a_nx, a_ii, a_jj, a_ji, a_ld, a_st, a_if, a_ald, a_c1, a_c2, lkp, lput, lput2, lins, oP_none, oP_next, oP_call, oP_ret, oP_thr, outP_ite, aft_ret, aft_void, aft_thr, fHnd, List.isEmpty_nil, List.filter_cons, List.filter_nil, Value.category, csum, List.map_cons, List.map_nil, List.sum_cons, List.sum_nil, List.cons_append, List.nil_append, Option.toList, vp_nar_int, narrow_b1, narrow_b0, nc115, vc115, fc115, nc111, vc111, fc111, nc100, vc100, fc100, nc109, vc109, fc109, nc120, vc120, fc120, nc119, vc119, fc119, nc116, vc116, fc116, nc45, vc45, fc45, nc32, vc32, fc32, nc102, vc102, fc102, nc106, vc106, fc106, fin3, rf_some, rf_none, upd_ap, va_up_ap, nar_bi, fits_bi, nvp_bi, bi_t, bi_f, fval, fty, ftabs, wrv_0, wrv_1, wrv_2, wrv_3, wrv_5, mT_stI, mI_stI, mL_stI, mD_stI, mR_stI, mN_stI, mS_stI, mT_stL, mI_stL, mL_stL, mD_stL, mR_stL, mN_stL, mS_stL, mT_stD, mI_stD, mL_stD, mD_stD, mR_stD, mN_stD, mS_stD, mT_stR, mI_stR, mL_stR, mD_stR, mR_stR, mN_stR, mS_stR, mT_stN, mI_stN, mL_stN, mD_stN, mR_stN, mN_stN, mS_stN, e78_0, e78_1, e78_4, e78_6, e78_7, e78_10, e78_11, e78_12, e78_14, e78_17, e78_20, e78_22, e78_23, e78_25, e78_28, e78_31, e78_42, e78_43, e78_46, e78_48, e78_50, e78_53, e78_55, e78_56, e78_59, e78_60, e78_63, e78_74, e78_75, e78_78, e78_80, e78_83, e78_84, e78_85, e78_87, e78_88, e78_90, e78_93, e78_94, e78_95, e78_97, e78_98, e78_99, e78_102, e78_104, rt78, hn78, h0, tT0, tT1, tT2, tT3, tT4, tT5, tT6, tT7, tT8, tT9, tT10, tT11, tT12, tT13, tT14, tT15, tT16, tT17, tT18, tT19, tT20, tT21, tT22, tT23, tT24, tT25, tT26, tT27, tT28, tT29, tT30, tT31, tT32, tT33, tT34, tT35, tT36, tT37, tT38, tT39, tT40, tT41, tT42, tT43, tT44, tR0_0, tR0_6, tR0_7, tR0_8, tR0_9, tR0_11, tR0_12, tR0_14, tR2_0, tR2_1, tR6_0, tR9_0, tR9_1, tR14_0, tR14_1, tR14_2, tR14_3, tR14_4, tR14_5, tR14_6, tR14_7, tR14_8, tR14_9, tR14_10, tR14_11, tR14_12, tR14_13, tR14_14, tR14_15, tR14_16, tR14_17, tR14_18, tR14_19, tR14_20, tR14_21, tR14_22, tR14_23, tR14_24, tR14_25, tR14_26, tR14_27, ST_stI, ST_stL, ST_stD, cl92, sp92, hk, cl94, sp94, hw, cl87, sp87, hn, hz, bi, hj, nlt0 (show j < 2 ^ 31 by omega), ge12 hj12, nlt12 hj12, cl7, e7, tT0 hY, tT12 hY, hP, elK, inb_nI hj12, nI_clamp (show j < 2 ^ 31 by omega), fNs, nI_1]
theorem md157 {B j : Nat} {w k n z : Int32} {X : AMem} (h : ST B X) (hx : (inR w 0 3 && kdF k && inR n 1 9 && inR z 1 99) = true) (ho : mI X (B + 14) 31 = nI j) (hj : j < 12) : ∀ Q, CaP 157 [.ref (B + 14), .int w, .int k, .int n, .int z] X Q = Q (thr B (mF B (stI (stI (stI (stI X (B + 37) (upd (mI X (B + 37)) j w)) (B + 38) (upd (mI X (B + 38)) j n)) (B + 39) (upd (mI X (B + 39)) j z)) (B + 40) (upd (mI X (B + 40)) j k)) 31 (nI (j + 1))) 0, .inl (some (.int (nI j)))) := by
  intro Q
  rw [sp157 h hx ho hj, thr_cm (show ¬ 37 = 14 by decide), thr_cm (show ¬ 38 = 14 by decide), thr_cm (show ¬ 39 = 14 by decide), thr_cm (show ¬ 40 = 14 by decide), thr_mF (show ¬ 31 = 36 by decide)]
theorem op34 {B s L : Nat} {M : AMem} {ns np no nl : Nat} {p q o : Nat → Nat} (h : INV B s L M ns np no nl p q o) (w k n z : Int32) : GO B s L 78 157 [.int w, .int k, .int n, .int z] [(0, 1), (1, 2)] M := by
  have h0 := INV_ST h
  have hsB := h.1.1.2.1
  have hN := ad_N h.1
  by_cases hx : (inR w 0 3 && kdF k && inR n 1 9 && inR z 1 99) = true
  · have hx2 := hx
    simp only [Bool.and_eq_true] at hx2
    obtain ⟨⟨⟨hw, hk⟩, hn⟩, hz⟩ := hx2
    by_cases hno : no < 12
    · obtain ⟨hA, ⟨⟨a1, a2⟩, ⟨a3, a4⟩, ⟨a5, a6⟩, ⟨a7, a8⟩, a9, a10, a11, a12, a13, a14⟩, d2, d3, d4, d5, d6, d7, d8⟩ := h
      obtain ⟨e7, yN, yS, yA, yT, yI, yL⟩ := @orC_f M (mN M) w n z (ksF k) rfl
      generalize orC (stN M 3 0 5) (mN M) w (ksF k) n z = Y at e7 yN yS yA yT yI yL
      have hAY : AD B s L Y ns np no p q o := AD_fr hA (fun a ha => (yA a ha).1) (fun a ha => (yA a ha).2.2.2) (by omega)
      have hY := hAY.1.1
      have hcls := cs78 h0 hw hk hn hz a5 hno e7 hY yT
      have hA2 := AD_addO (P := mN M) hAY hno (by omega) (by omega) yT (fun i hi => (hA.2.2.1.2.2 i hi).2.1)
      have yk : ∀ k, k < 45 → mI Y (B + k) = mI M (B + k) := fun k hk => (yA _ (by omega)).2.1
      have y00 : mI Y B = mI M B := yk 0 (by decide)
      generalize hF : va_up (mR Y (B + 12)) no (some (mN M)) = F at hcls hA2
      generalize hM1 : stI (stR Y (B + 12) F) B (upd (mI Y B) 13 (nI (no + 1))) = M1 at hcls
      have m1T : mT M1 = mT Y := by rw [← hM1, mT_stI, mT_stR]
      have m1I : mI M1 = va_up (mI Y) B (upd (mI Y B) 13 (nI (no + 1))) := by rw [← hM1, mI_stI, mI_stR]
      have m1L : mL M1 = mL Y := by rw [← hM1, mL_stI, mL_stR]
      have m1N : mN M1 = mN Y := by rw [← hM1, mN_stI, mN_stR]
      have m1S : mS M1 = mS Y := by rw [← hM1, mS_stI, mS_stR]
      have hA3 : AD B s L M1 ns np (no + 1) p q (adx o no (mN M)) := by rw [← hM1]; exact AD_fr hA2 (fun a _ => by rw [mT_stI']) (fun a _ => by rw [mR_stI']) (by rw [mN_stI']; exact Nat.le_refl _)
      have hS1 : ST B M1 := hA3.1.1
      have m1k : ∀ k, 1 ≤ k → k < 45 → mI M1 (B + k) = mI M (B + k) := fun k h1 h2 => by rw [m1I, va_up_ap, if_neg (by omega), yk k h2]
      have sk1 : SK B s M M1 := ⟨hS1, by rw [m1T]; exact (yA s (by omega)).1, by rw [m1I, va_up_ap, if_neg (by omega)]; exact (yA s (by omega)).2.1⟩
      have m1a : ∀ a, a < mN M → ¬ a = B → mI M1 a = mI M a := fun a ha hb => by rw [m1I, va_up_ap, if_neg hb]; exact (yA a ha).2.1
      refine go_w5 (M1 := M1) (M5 := mF B (stI (stI (stI (stI M1 (B + 37) (upd (mI M (B + 37)) no w)) (B + 38) (upd (mI M (B + 38)) no n)) (B + 39) (upd (mI M (B + 39)) no z)) (B + 40) (upd (mI M (B + 40)) no k)) 31 (nI (no + 1))) (r := nI no) hsB hcls sk1 (fun Q => ?_) (SK_mF (SK_Bk (SK_Bk (SK_Bk (SK_Bk sk1 hsB) hsB) hsB) hsB) hsB) (by rw [mN_mF, mN_stI', mN_stI', mN_stI', mN_stI']; omega) (by rw [mS_mF, mS_stI', mS_stI', mS_stI', mS_stI']; omega) ⟨ns, np, no + 1, nl, p, q, adx o no (mN M), ?_⟩
      · rw [md157 (X := oM B M1 (nI no)) (by rw [ST_oM]; exact hS1) hx (by rw [mI_oM', m1k 14 (by decide) (by decide)]; exact a6) hno]
        rw [mI_oM', m1k 37 (by decide) (by decide), m1k 38 (by decide) (by decide), m1k 39 (by decide) (by decide), m1k 40 (by decide) (by decide), oM_stI, oM_stI, oM_stI, oM_stI, oM_mF]
      · have g5 : ∀ a, mI (mF B (stI (stI (stI (stI M1 (B + 37) (upd (mI M (B + 37)) no w)) (B + 38) (upd (mI M (B + 38)) no n)) (B + 39) (upd (mI M (B + 39)) no z)) (B + 40) (upd (mI M (B + 40)) no k)) 31 (nI (no + 1))) a = if a = B + 14 then upd (mI M (B + 14)) 31 (nI (no + 1)) else if a = B + 40 then upd (mI M (B + 40)) no k else if a = B + 39 then upd (mI M (B + 39)) no z else if a = B + 38 then upd (mI M (B + 38)) no n else if a = B + 37 then upd (mI M (B + 37)) no w else mI M1 a := by
          intro a
          unfold mF
          simp only [mI_stI', va_up_ap, if_neg (show ¬ B + 14 = B + 40 by omega), if_neg (show ¬ B + 14 = B + 39 by omega), if_neg (show ¬ B + 14 = B + 38 by omega), if_neg (show ¬ B + 14 = B + 37 by omega), m1k 14 (by decide) (by decide)]
        have g5L : mL (mF B (stI (stI (stI (stI M1 (B + 37) (upd (mI M (B + 37)) no w)) (B + 38) (upd (mI M (B + 38)) no n)) (B + 39) (upd (mI M (B + 39)) no z)) (B + 40) (upd (mI M (B + 40)) no k)) 31 (nI (no + 1))) = mL M1 := by unfold mF; rw [mL_stI', mL_stI', mL_stI', mL_stI', mL_stI']
        have hA5 : AD B s L (mF B (stI (stI (stI (stI M1 (B + 37) (upd (mI M (B + 37)) no w)) (B + 38) (upd (mI M (B + 38)) no n)) (B + 39) (upd (mI M (B + 39)) no z)) (B + 40) (upd (mI M (B + 40)) no k)) 31 (nI (no + 1))) ns np (no + 1) p q (adx o no (mN M)) := by
          unfold mF
          exact AD_fr hA3 (fun a _ => by rw [mT_stI', mT_stI', mT_stI', mT_stI', mT_stI']) (fun a _ => by rw [mR_stI', mR_stI', mR_stI', mR_stI', mR_stI']) (by rw [mN_stI', mN_stI', mN_stI', mN_stI', mN_stI']; omega)
        generalize mF B (stI (stI (stI (stI M1 (B + 37) (upd (mI M (B + 37)) no w)) (B + 38) (upd (mI M (B + 38)) no n)) (B + 39) (upd (mI M (B + 39)) no z)) (B + 40) (upd (mI M (B + 40)) no k)) 31 (nI (no + 1)) = M5 at g5 g5L hA5
        have fr : ∀ j, ¬ j = 1 → ¬ j = 7 → j < 9 → FR B M j (mI M) (mI M5) := by
          intro j hj1 hj2 hj9 a ha e
          have n0 : ¬ a = B := fun e2 => hj1 (by rw [← e, e2]; exact grB)
          have n14 : ¬ a = B + 14 := fun e2 => hj1 (by rw [← e, e2]; exact gr_k (by decide))
          have n37 : ¬ a = B + 37 := fun e2 => hj2 (by rw [← e, e2]; exact gr_k (by decide))
          have n38 : ¬ a = B + 38 := fun e2 => hj2 (by rw [← e, e2]; exact gr_k (by decide))
          have n39 : ¬ a = B + 39 := fun e2 => hj2 (by rw [← e, e2]; exact gr_k (by decide))
          have n40 : ¬ a = B + 40 := fun e2 => hj2 (by rw [← e, e2]; exact gr_k (by decide))
          rw [g5, if_neg n14, if_neg n40, if_neg n39, if_neg n38, if_neg n37]
          exact m1a a ha n0
        have fk : ∀ j, FK B M j (mL M) (mL M5) := fun j a ha _ => by rw [g5L, m1L]; exact (yA a ha).2.2.1
        have g37 : mI M5 (B + 37) = upd (mI M (B + 37)) no w := by rw [g5, if_neg (by omega), if_neg (by omega), if_neg (by omega), if_neg (by omega), if_pos rfl]
        have g38 : mI M5 (B + 38) = upd (mI M (B + 38)) no n := by rw [g5, if_neg (by omega), if_neg (by omega), if_neg (by omega), if_pos rfl]
        have g39 : mI M5 (B + 39) = upd (mI M (B + 39)) no z := by rw [g5, if_neg (by omega), if_neg (by omega), if_pos rfl]
        have g40 : mI M5 (B + 40) = upd (mI M (B + 40)) no k := by rw [g5, if_neg (by omega), if_pos rfl]
        have g41 : mI M5 (B + 41) = mI M (B + 41) := by rw [g5, if_neg (by omega), if_neg (by omega), if_neg (by omega), if_neg (by omega), if_neg (by omega), m1k 41 (by decide) (by decide)]
        have g42 : mI M5 (B + 42) = mI M (B + 42) := by rw [g5, if_neg (by omega), if_neg (by omega), if_neg (by omega), if_neg (by omega), if_neg (by omega), m1k 42 (by decide) (by decide)]
        have g13 : mI M5 (B + 13) = mI M (B + 13) := by rw [g5, if_neg (by omega), if_neg (by omega), if_neg (by omega), if_neg (by omega), if_neg (by omega), m1k 13 (by decide) (by decide)]
        have z41 := d7.2 no (Nat.le_refl no) hno
        refine ⟨hA5, ?_, D2_fr hA (fr 2 (by decide) (by decide) (by decide)) d2, D3_fr hN (fr 3 (by decide) (by decide) (by decide)) d3, D4_fr hN (fr 4 (by decide) (by decide) (by decide)) d4, D5_fr hN (fr 5 (by decide) (by decide) (by decide)) d5, D6_fr hA (fr 6 (by decide) (by decide) (by decide)) (fk 6) d6, ⟨fun i hi => ?_, fun i hi hi2 => ?_⟩, ⟨?_, fun t ht => ?_⟩⟩
        · have gB : mI M5 B = upd (mI M B) 13 (nI (no + 1)) := by
            rw [g5, if_neg (by omega), if_neg (by omega), if_neg (by omega), if_neg (by omega), if_neg (by omega), m1I, va_up_ap, if_pos rfl, y00]
          have g14 : mI M5 (B + 14) = upd (mI M (B + 14)) 31 (nI (no + 1)) := by rw [g5, if_pos rfl]
          unfold D1
          rw [gB, g14]
          simp [upd_ap, a1, a2, a3, a4, a7, a8, a9, a10, a11, a12]
          exact ⟨a10 ▸ a13, a11 ▸ a14⟩
        · by_cases e : i = no
          · rw [e, adx_n]
            obtain ⟨w', w1, rfl⟩ := inR_of (n := 3) rfl (by decide) hw
            obtain ⟨n', n1, n2, rfl⟩ := in1 (n := 9) rfl (by decide) hn
            obtain ⟨z', z1, z2, rfl⟩ := in1 (n := 99) rfl (by decide) hz
            have gP : mI M5 (mN M) = upd (upd (upd (upd (fun _ => 0) 4 0) 0 (nI w')) 2 (nI n')) 3 (nI z') := by
              rw [g5, if_neg (by omega), if_neg (by omega), if_neg (by omega), if_neg (by omega), if_neg (by omega), m1I, va_up_ap, if_neg (by omega), yI]
            have gL : mL M5 (mN M) 1 = ksF k := by
              rw [g5L, m1L, yL]
              unfold vp_updL
              rw [if_pos rfl]
            refine ⟨w', n', z', k, false, ⟨by omega, n1, n2, z1, z2, hk⟩, ?_, ?_, ?_, ?_, ?_⟩
            · rw [gP, g37]; simp [upd_ap]
            · rw [gL, g40]; simp [upd_ap]
            · rw [gP, g38]; simp [upd_ap]
            · rw [gP, g39]; simp [upd_ap]
            · rw [gP, g41, z41]; simp [upd_ap, bi]
          · have hi2 : i < no := by omega
            rw [adx_lt hi2]
            have lo := hA.2.2.1.2.2 i hi2
            have go : mI M5 (o i) = mI M (o i) := by
              rw [g5, if_neg (by omega), if_neg (by omega), if_neg (by omega), if_neg (by omega), if_neg (by omega), m1a _ (by omega) (by omega)]
            have gl : mL M5 (o i) = mL M (o i) := by rw [g5L, m1L]; exact (yA _ (by omega)).2.2.1
            exact OD_fr (d7.1 i hi2) go gl (by rw [g37, upd_ap, if_neg e]) (by rw [g38, upd_ap, if_neg e]) (by rw [g39, upd_ap, if_neg e]) (by rw [g40, upd_ap, if_neg e]) (by rw [g41])
        · rw [g41]; exact d7.2 i (by omega) hi2
        · rw [g13, g42]; exact d8.1
        · rw [g42, d8.2 t ht]
          show sumF (owF B (mI M) t) no = sumF (owF B (mI M5) t) no + owF B (mI M5) t no
          have e1 : owF B (mI M5) t no = 0 := by
            unfold owF
            rw [g41, if_pos (Or.inl z41)]
          rw [e1, Int32.add_zero]
          refine sumF_ext no (fun j hj => ?_)
          unfold owF
          simp only [g41, g37, g38, g39, upd_ap, if_neg (show ¬ j = no by omega)]
    · have hn12 : no = 12 := by have := (iv_no h).2; omega
      obtain ⟨-, -, ⟨a5, a6⟩, -⟩ := h.2.1
      refine go_th (GO_th h 1 2 0 (by simp) (fun Q => ?_) (fun h2 Q => ?_))
      · unfold CaP
        simp [lv_args, sStep, amStep, a_nx, a_ii, a_jj, a_ji, a_ld, a_st, a_if, a_ald, a_c1, a_c2, lkp, lput, lput2, lins, oP_none, oP_next, oP_call, oP_ret, oP_thr, outP_ite, aft_ret, aft_void, aft_thr, fHnd, List.isEmpty_nil, List.filter_cons, List.filter_nil, Value.category, csum, List.map_cons, List.map_nil, List.sum_cons, List.sum_nil, List.cons_append, List.nil_append, Option.toList, vp_nar_int, narrow_b1, narrow_b0, nc115, vc115, fc115, nc111, vc111, fc111, nc100, vc100, fc100, nc109, vc109, fc109, nc120, vc120, fc120, nc119, vc119, fc119, nc116, vc116, fc116, nc45, vc45, fc45, nc32, vc32, fc32, nc102, vc102, fc102, nc106, vc106, fc106, fin3, rf_some, rf_none, upd_ap, va_up_ap, nar_bi, fits_bi, nvp_bi, bi_t, bi_f, fval, fty, ftabs, wrv_0, wrv_1, wrv_2, wrv_3, wrv_5, mT_stI, mI_stI, mL_stI, mD_stI, mR_stI, mN_stI, mS_stI, mT_stL, mI_stL, mL_stL, mD_stL, mR_stL, mN_stL, mS_stL, mT_stD, mI_stD, mL_stD, mD_stD, mR_stD, mN_stD, mS_stD, mT_stR, mI_stR, mL_stR, mD_stR, mR_stR, mN_stR, mS_stR, mT_stN, mI_stN, mL_stN, mD_stN, mR_stN, mN_stN, mS_stN, e78_0, e78_1, e78_4, e78_6, e78_7, e78_10, e78_11, e78_12, e78_14, e78_17, e78_20, e78_22, e78_23, e78_25, e78_28, e78_31, e78_42, e78_43, e78_46, e78_48, e78_50, e78_53, e78_55, e78_56, e78_59, e78_60, e78_63, e78_74, e78_75, e78_78, e78_80, e78_83, e78_84, e78_85, e78_87, e78_88, e78_90, e78_93, e78_94, e78_95, e78_97, e78_98, e78_99, e78_102, e78_104, rt78, hn78, h0, tT0, tT1, tT2, tT3, tT4, tT5, tT6, tT7, tT8, tT9, tT10, tT11, tT12, tT13, tT14, tT15, tT16, tT17, tT18, tT19, tT20, tT21, tT22, tT23, tT24, tT25, tT26, tT27, tT28, tT29, tT30, tT31, tT32, tT33, tT34, tT35, tT36, tT37, tT38, tT39, tT40, tT41, tT42, tT43, tT44, tR0_0, tR0_6, tR0_7, tR0_8, tR0_9, tR0_11, tR0_12, tR0_14, tR2_0, tR2_1, tR6_0, tR9_0, tR9_1, tR14_0, tR14_1, tR14_2, tR14_3, tR14_4, tR14_5, tR14_6, tR14_7, tR14_8, tR14_9, tR14_10, tR14_11, tR14_12, tR14_13, tR14_14, tR14_15, tR14_16, tR14_17, tR14_18, tR14_19, tR14_20, tR14_21, tR14_22, tR14_23, tR14_24, tR14_25, tR14_26, tR14_27, ST_stI, ST_stL, ST_stD, cl92, sp92, hk, cl94, sp94, hw, cl87, sp87, hn, hz, bi, a5, hn12, show ¬ nI 12 < 0 by decide, show (12 : Int32) ≤ nI 12 by decide, show ¬ nI 12 < (12 : Int32) by decide]
      · exact sp157y (INV_ST h2) hx (by rw [(iv_no h2).1, hn12]; rfl)
  · refine go_th (GO_th h 0 1 0 (by simp) (fun Q => ?_) (fun h2 Q => sp157x (INV_ST h2) (nt hx)))
    unfold CaP
    cases e1 : kdF k
    · simp [lv_args, sStep, amStep, a_nx, a_ii, a_jj, a_ji, a_ld, a_st, a_if, a_ald, a_c1, a_c2, lkp, lput, lput2, lins, oP_none, oP_next, oP_call, oP_ret, oP_thr, outP_ite, aft_ret, aft_void, aft_thr, fHnd, List.isEmpty_nil, List.filter_cons, List.filter_nil, Value.category, csum, List.map_cons, List.map_nil, List.sum_cons, List.sum_nil, List.cons_append, List.nil_append, Option.toList, vp_nar_int, narrow_b1, narrow_b0, nc115, vc115, fc115, nc111, vc111, fc111, nc100, vc100, fc100, nc109, vc109, fc109, nc120, vc120, fc120, nc119, vc119, fc119, nc116, vc116, fc116, nc45, vc45, fc45, nc32, vc32, fc32, nc102, vc102, fc102, nc106, vc106, fc106, fin3, rf_some, rf_none, upd_ap, va_up_ap, nar_bi, fits_bi, nvp_bi, bi_t, bi_f, fval, fty, ftabs, wrv_0, wrv_1, wrv_2, wrv_3, wrv_5, mT_stI, mI_stI, mL_stI, mD_stI, mR_stI, mN_stI, mS_stI, mT_stL, mI_stL, mL_stL, mD_stL, mR_stL, mN_stL, mS_stL, mT_stD, mI_stD, mL_stD, mD_stD, mR_stD, mN_stD, mS_stD, mT_stR, mI_stR, mL_stR, mD_stR, mR_stR, mN_stR, mS_stR, mT_stN, mI_stN, mL_stN, mD_stN, mR_stN, mN_stN, mS_stN, e78_0, e78_1, e78_4, e78_6, e78_7, e78_10, e78_11, e78_12, e78_14, e78_17, e78_20, e78_22, e78_23, e78_25, e78_28, e78_31, e78_42, e78_43, e78_46, e78_48, e78_50, e78_53, e78_55, e78_56, e78_59, e78_60, e78_63, e78_74, e78_75, e78_78, e78_80, e78_83, e78_84, e78_85, e78_87, e78_88, e78_90, e78_93, e78_94, e78_95, e78_97, e78_98, e78_99, e78_102, e78_104, rt78, hn78, h0, tT0, tT1, tT2, tT3, tT4, tT5, tT6, tT7, tT8, tT9, tT10, tT11, tT12, tT13, tT14, tT15, tT16, tT17, tT18, tT19, tT20, tT21, tT22, tT23, tT24, tT25, tT26, tT27, tT28, tT29, tT30, tT31, tT32, tT33, tT34, tT35, tT36, tT37, tT38, tT39, tT40, tT41, tT42, tT43, tT44, tR0_0, tR0_6, tR0_7, tR0_8, tR0_9, tR0_11, tR0_12, tR0_14, tR2_0, tR2_1, tR6_0, tR9_0, tR9_1, tR14_0, tR14_1, tR14_2, tR14_3, tR14_4, tR14_5, tR14_6, tR14_7, tR14_8, tR14_9, tR14_10, tR14_11, tR14_12, tR14_13, tR14_14, tR14_15, tR14_16, tR14_17, tR14_18, tR14_19, tR14_20, tR14_21, tR14_22, tR14_23, tR14_24, tR14_25, tR14_26, tR14_27, ST_stI, ST_stL, ST_stD, cl92, sp92, e1]
    · cases e2 : inR w 0 3
      · simp [lv_args, sStep, amStep, a_nx, a_ii, a_jj, a_ji, a_ld, a_st, a_if, a_ald, a_c1, a_c2, lkp, lput, lput2, lins, oP_none, oP_next, oP_call, oP_ret, oP_thr, outP_ite, aft_ret, aft_void, aft_thr, fHnd, List.isEmpty_nil, List.filter_cons, List.filter_nil, Value.category, csum, List.map_cons, List.map_nil, List.sum_cons, List.sum_nil, List.cons_append, List.nil_append, Option.toList, vp_nar_int, narrow_b1, narrow_b0, nc115, vc115, fc115, nc111, vc111, fc111, nc100, vc100, fc100, nc109, vc109, fc109, nc120, vc120, fc120, nc119, vc119, fc119, nc116, vc116, fc116, nc45, vc45, fc45, nc32, vc32, fc32, nc102, vc102, fc102, nc106, vc106, fc106, fin3, rf_some, rf_none, upd_ap, va_up_ap, nar_bi, fits_bi, nvp_bi, bi_t, bi_f, fval, fty, ftabs, wrv_0, wrv_1, wrv_2, wrv_3, wrv_5, mT_stI, mI_stI, mL_stI, mD_stI, mR_stI, mN_stI, mS_stI, mT_stL, mI_stL, mL_stL, mD_stL, mR_stL, mN_stL, mS_stL, mT_stD, mI_stD, mL_stD, mD_stD, mR_stD, mN_stD, mS_stD, mT_stR, mI_stR, mL_stR, mD_stR, mR_stR, mN_stR, mS_stR, mT_stN, mI_stN, mL_stN, mD_stN, mR_stN, mN_stN, mS_stN, e78_0, e78_1, e78_4, e78_6, e78_7, e78_10, e78_11, e78_12, e78_14, e78_17, e78_20, e78_22, e78_23, e78_25, e78_28, e78_31, e78_42, e78_43, e78_46, e78_48, e78_50, e78_53, e78_55, e78_56, e78_59, e78_60, e78_63, e78_74, e78_75, e78_78, e78_80, e78_83, e78_84, e78_85, e78_87, e78_88, e78_90, e78_93, e78_94, e78_95, e78_97, e78_98, e78_99, e78_102, e78_104, rt78, hn78, h0, tT0, tT1, tT2, tT3, tT4, tT5, tT6, tT7, tT8, tT9, tT10, tT11, tT12, tT13, tT14, tT15, tT16, tT17, tT18, tT19, tT20, tT21, tT22, tT23, tT24, tT25, tT26, tT27, tT28, tT29, tT30, tT31, tT32, tT33, tT34, tT35, tT36, tT37, tT38, tT39, tT40, tT41, tT42, tT43, tT44, tR0_0, tR0_6, tR0_7, tR0_8, tR0_9, tR0_11, tR0_12, tR0_14, tR2_0, tR2_1, tR6_0, tR9_0, tR9_1, tR14_0, tR14_1, tR14_2, tR14_3, tR14_4, tR14_5, tR14_6, tR14_7, tR14_8, tR14_9, tR14_10, tR14_11, tR14_12, tR14_13, tR14_14, tR14_15, tR14_16, tR14_17, tR14_18, tR14_19, tR14_20, tR14_21, tR14_22, tR14_23, tR14_24, tR14_25, tR14_26, tR14_27, ST_stI, ST_stL, ST_stD, cl92, sp92, e1, cl94, sp94, e2]
      · cases e3 : inR n 1 9
        · simp [lv_args, sStep, amStep, a_nx, a_ii, a_jj, a_ji, a_ld, a_st, a_if, a_ald, a_c1, a_c2, lkp, lput, lput2, lins, oP_none, oP_next, oP_call, oP_ret, oP_thr, outP_ite, aft_ret, aft_void, aft_thr, fHnd, List.isEmpty_nil, List.filter_cons, List.filter_nil, Value.category, csum, List.map_cons, List.map_nil, List.sum_cons, List.sum_nil, List.cons_append, List.nil_append, Option.toList, vp_nar_int, narrow_b1, narrow_b0, nc115, vc115, fc115, nc111, vc111, fc111, nc100, vc100, fc100, nc109, vc109, fc109, nc120, vc120, fc120, nc119, vc119, fc119, nc116, vc116, fc116, nc45, vc45, fc45, nc32, vc32, fc32, nc102, vc102, fc102, nc106, vc106, fc106, fin3, rf_some, rf_none, upd_ap, va_up_ap, nar_bi, fits_bi, nvp_bi, bi_t, bi_f, fval, fty, ftabs, wrv_0, wrv_1, wrv_2, wrv_3, wrv_5, mT_stI, mI_stI, mL_stI, mD_stI, mR_stI, mN_stI, mS_stI, mT_stL, mI_stL, mL_stL, mD_stL, mR_stL, mN_stL, mS_stL, mT_stD, mI_stD, mL_stD, mD_stD, mR_stD, mN_stD, mS_stD, mT_stR, mI_stR, mL_stR, mD_stR, mR_stR, mN_stR, mS_stR, mT_stN, mI_stN, mL_stN, mD_stN, mR_stN, mN_stN, mS_stN, e78_0, e78_1, e78_4, e78_6, e78_7, e78_10, e78_11, e78_12, e78_14, e78_17, e78_20, e78_22, e78_23, e78_25, e78_28, e78_31, e78_42, e78_43, e78_46, e78_48, e78_50, e78_53, e78_55, e78_56, e78_59, e78_60, e78_63, e78_74, e78_75, e78_78, e78_80, e78_83, e78_84, e78_85, e78_87, e78_88, e78_90, e78_93, e78_94, e78_95, e78_97, e78_98, e78_99, e78_102, e78_104, rt78, hn78, h0, tT0, tT1, tT2, tT3, tT4, tT5, tT6, tT7, tT8, tT9, tT10, tT11, tT12, tT13, tT14, tT15, tT16, tT17, tT18, tT19, tT20, tT21, tT22, tT23, tT24, tT25, tT26, tT27, tT28, tT29, tT30, tT31, tT32, tT33, tT34, tT35, tT36, tT37, tT38, tT39, tT40, tT41, tT42, tT43, tT44, tR0_0, tR0_6, tR0_7, tR0_8, tR0_9, tR0_11, tR0_12, tR0_14, tR2_0, tR2_1, tR6_0, tR9_0, tR9_1, tR14_0, tR14_1, tR14_2, tR14_3, tR14_4, tR14_5, tR14_6, tR14_7, tR14_8, tR14_9, tR14_10, tR14_11, tR14_12, tR14_13, tR14_14, tR14_15, tR14_16, tR14_17, tR14_18, tR14_19, tR14_20, tR14_21, tR14_22, tR14_23, tR14_24, tR14_25, tR14_26, tR14_27, ST_stI, ST_stL, ST_stD, cl92, sp92, e1, cl94, sp94, e2, cl87, sp87, e3, bi]
        · cases e4 : inR z 1 99
          · simp [lv_args, sStep, amStep, a_nx, a_ii, a_jj, a_ji, a_ld, a_st, a_if, a_ald, a_c1, a_c2, lkp, lput, lput2, lins, oP_none, oP_next, oP_call, oP_ret, oP_thr, outP_ite, aft_ret, aft_void, aft_thr, fHnd, List.isEmpty_nil, List.filter_cons, List.filter_nil, Value.category, csum, List.map_cons, List.map_nil, List.sum_cons, List.sum_nil, List.cons_append, List.nil_append, Option.toList, vp_nar_int, narrow_b1, narrow_b0, nc115, vc115, fc115, nc111, vc111, fc111, nc100, vc100, fc100, nc109, vc109, fc109, nc120, vc120, fc120, nc119, vc119, fc119, nc116, vc116, fc116, nc45, vc45, fc45, nc32, vc32, fc32, nc102, vc102, fc102, nc106, vc106, fc106, fin3, rf_some, rf_none, upd_ap, va_up_ap, nar_bi, fits_bi, nvp_bi, bi_t, bi_f, fval, fty, ftabs, wrv_0, wrv_1, wrv_2, wrv_3, wrv_5, mT_stI, mI_stI, mL_stI, mD_stI, mR_stI, mN_stI, mS_stI, mT_stL, mI_stL, mL_stL, mD_stL, mR_stL, mN_stL, mS_stL, mT_stD, mI_stD, mL_stD, mD_stD, mR_stD, mN_stD, mS_stD, mT_stR, mI_stR, mL_stR, mD_stR, mR_stR, mN_stR, mS_stR, mT_stN, mI_stN, mL_stN, mD_stN, mR_stN, mN_stN, mS_stN, e78_0, e78_1, e78_4, e78_6, e78_7, e78_10, e78_11, e78_12, e78_14, e78_17, e78_20, e78_22, e78_23, e78_25, e78_28, e78_31, e78_42, e78_43, e78_46, e78_48, e78_50, e78_53, e78_55, e78_56, e78_59, e78_60, e78_63, e78_74, e78_75, e78_78, e78_80, e78_83, e78_84, e78_85, e78_87, e78_88, e78_90, e78_93, e78_94, e78_95, e78_97, e78_98, e78_99, e78_102, e78_104, rt78, hn78, h0, tT0, tT1, tT2, tT3, tT4, tT5, tT6, tT7, tT8, tT9, tT10, tT11, tT12, tT13, tT14, tT15, tT16, tT17, tT18, tT19, tT20, tT21, tT22, tT23, tT24, tT25, tT26, tT27, tT28, tT29, tT30, tT31, tT32, tT33, tT34, tT35, tT36, tT37, tT38, tT39, tT40, tT41, tT42, tT43, tT44, tR0_0, tR0_6, tR0_7, tR0_8, tR0_9, tR0_11, tR0_12, tR0_14, tR2_0, tR2_1, tR6_0, tR9_0, tR9_1, tR14_0, tR14_1, tR14_2, tR14_3, tR14_4, tR14_5, tR14_6, tR14_7, tR14_8, tR14_9, tR14_10, tR14_11, tR14_12, tR14_13, tR14_14, tR14_15, tR14_16, tR14_17, tR14_18, tR14_19, tR14_20, tR14_21, tR14_22, tR14_23, tR14_24, tR14_25, tR14_26, tR14_27, ST_stI, ST_stL, ST_stD, cl92, sp92, e1, cl94, sp94, e2, cl87, sp87, e3, e4, bi]
          · rw [e1, e2, e3, e4] at hx
            exact absurd rfl hx
