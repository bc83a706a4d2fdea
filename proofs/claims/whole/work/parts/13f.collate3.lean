/-! ===== collate, whole ===== -/
def c8 (B : Nat) (Z : AMem) (f26 f27 f33 f34 f35 f20 f28 f32 : Nat → Int32) : AMem := stI (stI (stI (stI (stI (stI (stI (stI Z (B + 26) f26) (B + 27) f27) (B + 33) f33) (B + 34) f34) (B + 35) f35) (B + 20) f20) (B + 28) f28) (B + 32) f32
theorem c8_I {B a : Nat} {Z : AMem} {f26 f27 f33 f34 f35 f20 f28 f32 : Nat → Int32} : mI (c8 B Z f26 f27 f33 f34 f35 f20 f28 f32) a = if a = B + 32 then f32 else if a = B + 28 then f28 else if a = B + 20 then f20 else if a = B + 35 then f35 else if a = B + 34 then f34 else if a = B + 33 then f33 else if a = B + 27 then f27 else if a = B + 26 then f26 else mI Z a := by
  unfold c8
  simp only [mI_stI', va_up_ap]
theorem c8_T {B : Nat} {Z : AMem} {f26 f27 f33 f34 f35 f20 f28 f32 : Nat → Int32} : mT (c8 B Z f26 f27 f33 f34 f35 f20 f28 f32) = mT Z := by
  unfold c8
  simp only [mT_stI']
theorem c8_R {B : Nat} {Z : AMem} {f26 f27 f33 f34 f35 f20 f28 f32 : Nat → Int32} : mR (c8 B Z f26 f27 f33 f34 f35 f20 f28 f32) = mR Z := by
  unfold c8
  simp only [mR_stI']
theorem c8_L {B : Nat} {Z : AMem} {f26 f27 f33 f34 f35 f20 f28 f32 : Nat → Int32} : mL (c8 B Z f26 f27 f33 f34 f35 f20 f28 f32) = mL Z := by
  unfold c8
  simp only [mL_stI']
theorem c8_N {B : Nat} {Z : AMem} {f26 f27 f33 f34 f35 f20 f28 f32 : Nat → Int32} : mN (c8 B Z f26 f27 f33 f34 f35 f20 f28 f32) = mN Z := by
  unfold c8
  simp only [mN_stI']
theorem c8_S {B : Nat} {Z : AMem} {f26 f27 f33 f34 f35 f20 f28 f32 : Nat → Int32} : mS (c8 B Z f26 f27 f33 f34 f35 f20 f28 f32) = mS Z := by
  unfold c8
  simp only [mS_stI']
theorem c8_oM {B : Nat} {Z : AMem} {r : Int32} {f26 f27 f33 f34 f35 f20 f28 f32 : Nat → Int32} : c8 B (oM B Z r) f26 f27 f33 f34 f35 f20 f28 f32 = oM B (c8 B Z f26 f27 f33 f34 f35 f20 f28 f32) r := by
  unfold c8
  simp only [oM_stI]
theorem SK_c8 {B s : Nat} {M Z : AMem} {f26 f27 f33 f34 f35 f20 f28 f32 : Nat → Int32} (h : SK B s M Z) (hs : s < B) : SK B s M (c8 B Z f26 f27 f33 f34 f35 f20 f28 f32) := by
  unfold c8
  exact SK_Bk (SK_Bk (SK_Bk (SK_Bk (SK_Bk (SK_Bk (SK_Bk (SK_Bk h hs) hs) hs) hs) hs) hs) hs) hs
theorem md138 {B n nl : Nat} {K : Int32} {X : AMem} (h : ST B X) (hK : kdF K = true) (hx : dnF (lakF (mI X (B + 20)) K) 54 = -1) (hn : mI X (B + 14) 30 = nI n) (hn12 : n < 12) (hnl : mI X (B + 14) 29 = nI nl) (hnl5 : nl ≤ 5) (hz : mI X (B + 32) n = 0) : ∀ Q, CaP 138 [.ref (B + 14), .int K] X Q = Q (thr B (mF B (c8 B X (upd (mI X (B + 26)) n 115) (upd (mI X (B + 27)) n K) (upd (mI X (B + 33)) n (-1)) (upd (mI X (B + 34)) n (bi (!allB (trnF (mI X (B + 25))) 35))) (upd (mI X (B + 35)) n (bi (decide (sumF (mI X (B + 23)) nl < 100)))) (giF (mI X (B + 20)) K 54) (coF (mI X (B + 28)) (60 * n) K 54) (upd (mI X (B + 32)) n (nI (kcF K 54)))) 30 (nI (n + 1))) 0, .inl (some (.int (nI n)))) := by
  intro Q
  rw [sp138 h hK hx hn hn12 hnl hnl5 hz]
  unfold coM c8
  rw [thr_cm (show ¬ 26 = 14 by decide), thr_cm (show ¬ 27 = 14 by decide), thr_cm (show ¬ 33 = 14 by decide), thr_cm (show ¬ 34 = 14 by decide), thr_cm (show ¬ 35 = 14 by decide), thr_cm (show ¬ 20 = 14 by decide), thr_cm (show ¬ 28 = 14 by decide), thr_cm (show ¬ 32 = 14 by decide), thr_mF (show ¬ 30 = 36 by decide)]
theorem gi_in {f : Nat → Int32} {K : Int32} {c a : Nat} (hc : c < 54) (h : f c = nI a) (hl : lakF f K c = false) (ha : a < 2 ^ 31) : ∃ a', a' ≤ a ∧ giF f K 54 c = nI a' := by
  unfold giF
  by_cases e : c < 54 ∧ kdOf K (nI c) = true
  · rw [if_pos e]
    unfold lakF at hl
    rw [e.2, Bool.true_and, decide_eq_false_iff_not, h, eq0 ha] at hl
    exact ⟨a - 1, by omega, by rw [h, nI_pred1 (by omega)]⟩
  · rw [if_neg e]
    exact ⟨a, Nat.le_refl a, h⟩
theorem op19 {B s L : Nat} {M : AMem} {ns np no nl : Nat} {p q o : Nat → Nat} (h : INV B s L M ns np no nl p q o) (K : Int32) : GO B s L 63 138 [.int K] [(0, 1), (3, 2), (1, 3)] M := by
  have h0 := INV_ST h
  have hsB := h.1.1.2.1
  have hN := ad_N h.1
  obtain ⟨e3, e4, e5⟩ := iv_3 h
  by_cases hK : kdF K = true
  · by_cases hx : dnF (lakF (mI M (B + 20)) K) 54 = -1
    · by_cases hnp : np < 12
      · have hh := h
        obtain ⟨hA, ⟨⟨a1, a2⟩, ⟨a3, a4⟩, ⟨a5, a6⟩, ⟨a7, a8⟩, a9, a10, a11, a12, a13, a14⟩, d2, d3, ⟨b0, b1, b2, b3, b4⟩, d5, d6, d7, d8⟩ := h
        obtain ⟨ow, how⟩ : ∃ ow, ow = !allB (trnF (mI M (B + 7))) 35 := ⟨_, rfl⟩
        obtain ⟨th, hth⟩ : ∃ th, th = !decide (100 ≤ mI M (B + 5) 2) := ⟨_, rfl⟩
        obtain ⟨e9, yN, yS, yA, yP, yI, yI1, yL⟩ := @pkC_f (stI M (B + 3) (giF (mI M (B + 3)) K 54)) (mN M) K ow th (mN_stI) hK
        generalize pkC (stN (stI M (B + 3) (giF (mI M (B + 3)) K 54)) 4 0 9) (mN M) K (bi ow) (bi th) = Y at e9 yN yS yA yP yI yI1 yL
        have hAY : AD B s L Y ns np no p q o := AD_fr hA (fun a ha => by rw [(yA a ha).1, mT_stI']) (fun a ha => by rw [(yA a ha).2.2.2, mR_stI']) (by omega)
        have hY := hAY.1.1
        have hcls := cs63 h0 hK (by rw [e3]; exact hx) a3 hnp how hth hN e9 hY (pk0 yP)
        have hA2 := AD_addP (P := mN M) hAY hnp (by omega) (by omega) yP (fun i hi => (hA.2.2.1.2.1 i hi).2.1)
        have yk : ∀ a, a < mN M → ¬ a = B + 3 → mI Y a = mI M a := fun a ha h3 => by rw [(yA a ha).2.1, mI_stI', va_up_ap, if_neg h3]
        have y3 : mI Y (B + 3) = giF (mI M (B + 3)) K 54 := by rw [(yA _ (by omega)).2.1, mI_stI', va_up_ap, if_pos rfl]
        have yLa : ∀ a, a < mN M → mL Y a = mL M a := fun a ha => by rw [(yA a ha).2.2.1, mL_stI']
        have y00 : mI Y B = mI M B := yk B (by omega) (by omega)
        generalize hF : va_up (mR Y (B + 8)) np (some (mN M)) = F at hcls hA2
        generalize hM1 : stI (stR Y (B + 8) F) B (upd (mI Y B) 10 (nI (np + 1))) = M1 at hcls
        have m1T : mT M1 = mT Y := by rw [← hM1, mT_stI, mT_stR]
        have m1I : mI M1 = va_up (mI Y) B (upd (mI Y B) 10 (nI (np + 1))) := by rw [← hM1, mI_stI, mI_stR]
        have m1L : mL M1 = mL Y := by rw [← hM1, mL_stI, mL_stR]
        have m1N : mN M1 = mN Y := by rw [← hM1, mN_stI, mN_stR]
        have m1S : mS M1 = mS Y := by rw [← hM1, mS_stI, mS_stR]
        have hA3 : AD B s L M1 ns (np + 1) no p (adx q np (mN M)) o := by rw [← hM1]; exact AD_fr hA2 (fun a _ => by rw [mT_stI']) (fun a _ => by rw [mR_stI']) (by rw [mN_stI']; exact Nat.le_refl _)
        have hS1 : ST B M1 := hA3.1.1
        have m1a : ∀ a, a < mN M → ¬ a = B → ¬ a = B + 3 → mI M1 a = mI M a := fun a ha hb h3 => by rw [m1I, va_up_ap, if_neg hb]; exact yk a ha h3
        have m1k : ∀ k, 1 ≤ k → ¬ k = 3 → k < 45 → mI M1 (B + k) = mI M (B + k) := fun k h1 h3 h2 => m1a _ (by omega) (by omega) (by omega)
        have sk1 : SK B s M M1 := ⟨hS1, by rw [m1T, (yA s (by omega)).1, mT_stI'], m1a s (by omega) (by omega) (by omega)⟩
        have o25 : allB (trnF (mI M (B + 25))) 35 = allB (trnF (mI M (B + 7))) 35 := tr35 d5.symm
        have t23 : decide (sumF (mI M (B + 23)) nl < 100) = !decide (100 ≤ mI M (B + 5) 2) := by
          rw [b2]
          by_cases e : sumF (mI M (B + 23)) nl < 100
          · rw [decide_eq_true e, decide_eq_false (Int32.not_le.mpr e)]; rfl
          · rw [decide_eq_false e, decide_eq_true (Int32.not_lt.mp e)]; rfl
        obtain ⟨z32, z36, z28⟩ := d6.2 np (Nat.le_refl np) hnp
        generalize hf26 : upd (mI M (B + 26)) np 115 = f26
        generalize hf27 : upd (mI M (B + 27)) np K = f27
        generalize hf33 : upd (mI M (B + 33)) np (-1) = f33
        generalize hf34 : upd (mI M (B + 34)) np (bi ow) = f34
        generalize hf35 : upd (mI M (B + 35)) np (bi th) = f35
        generalize hf20 : giF (mI M (B + 20)) K 54 = f20
        generalize hf28 : coF (mI M (B + 28)) (60 * np) K 54 = f28
        generalize hf32 : upd (mI M (B + 32)) np (nI (kcF K 54)) = f32
        refine go_w5 (M1 := M1) (M5 := mF B (c8 B M1 f26 f27 f33 f34 f35 f20 f28 f32) 30 (nI (np + 1))) (r := nI np) hsB hcls sk1 (fun Q => ?_) (SK_mF (SK_c8 sk1 hsB) hsB) (by rw [mN_mF, c8_N]; omega) (by rw [mS_mF, c8_S, m1S, yS, mS_stI']; omega) ⟨ns, np + 1, no, nl, p, adx q np (mN M), o, ?_⟩
        · have k14 := m1k 14 (by decide) (by decide) (by decide)
          rw [md138 (X := oM B M1 (nI np)) (n := np) (nl := nl) (by rw [ST_oM]; exact hS1) hK (by rw [mI_oM', m1k 20 (by decide) (by decide) (by decide)]; exact hx) (by rw [mI_oM', k14]; exact a4) hnp (by rw [mI_oM', k14]; exact a7) a8 (by rw [mI_oM', m1k 32 (by decide) (by decide) (by decide)]; exact z32)]
          rw [mI_oM', m1k 26 (by decide) (by decide) (by decide), m1k 27 (by decide) (by decide) (by decide), m1k 33 (by decide) (by decide) (by decide), m1k 34 (by decide) (by decide) (by decide), m1k 35 (by decide) (by decide) (by decide), m1k 20 (by decide) (by decide) (by decide), m1k 28 (by decide) (by decide) (by decide), m1k 32 (by decide) (by decide) (by decide), m1k 25 (by decide) (by decide) (by decide), m1k 23 (by decide) (by decide) (by decide), o25, t23, ← how, ← hth, hf26, hf27, hf33, hf34, hf35, hf20, hf28, hf32, c8_oM, oM_mF]
        · have g5 : ∀ a, mI (mF B (c8 B M1 f26 f27 f33 f34 f35 f20 f28 f32) 30 (nI (np + 1))) a = if a = B + 14 then upd (mI M (B + 14)) 30 (nI (np + 1)) else if a = B + 32 then f32 else if a = B + 28 then f28 else if a = B + 20 then f20 else if a = B + 35 then f35 else if a = B + 34 then f34 else if a = B + 33 then f33 else if a = B + 27 then f27 else if a = B + 26 then f26 else mI M1 a := by
            intro a
            have h14 : mI (c8 B M1 f26 f27 f33 f34 f35 f20 f28 f32) (B + 14) = mI M (B + 14) := by
              rw [c8_I, if_neg (by omega), if_neg (by omega), if_neg (by omega), if_neg (by omega), if_neg (by omega), if_neg (by omega), if_neg (by omega), if_neg (by omega)]
              exact m1k 14 (by decide) (by decide) (by decide)
            unfold mF
            rw [mI_stI', va_up_ap, h14, c8_I]
          have g5L : mL (mF B (c8 B M1 f26 f27 f33 f34 f35 f20 f28 f32) 30 (nI (np + 1))) = mL M1 := by unfold mF; rw [mL_stI', c8_L]
          have hA5 : AD B s L (mF B (c8 B M1 f26 f27 f33 f34 f35 f20 f28 f32) 30 (nI (np + 1))) ns (np + 1) no p (adx q np (mN M)) o := by
            unfold mF
            exact AD_fr hA3 (fun a _ => by rw [mT_stI', c8_T]) (fun a _ => by rw [mR_stI', c8_R]) (by rw [mN_stI', c8_N]; omega)
          generalize mF B (c8 B M1 f26 f27 f33 f34 f35 f20 f28 f32) 30 (nI (np + 1)) = M5 at g5 g5L hA5
          have far : ∀ a, a < mN M → ¬ a = B → ¬ a = B + 3 → ¬ a = B + 14 → ¬ a = B + 32 → ¬ a = B + 28 → ¬ a = B + 20 → ¬ a = B + 35 → ¬ a = B + 34 → ¬ a = B + 33 → ¬ a = B + 27 → ¬ a = B + 26 → mI M5 a = mI M a := by
            intro a ha n0 n3 n14 n32 n28 n20 n35 n34 n33 n27 n26
            rw [g5, if_neg n14, if_neg n32, if_neg n28, if_neg n20, if_neg n35, if_neg n34, if_neg n33, if_neg n27, if_neg n26]
            exact m1a a ha n0 n3
          have fr : ∀ j, ¬ j = 1 → ¬ j = 3 → ¬ j = 6 → j < 9 → FR B M j (mI M) (mI M5) := by
            intro j hj1 hj3 hj6 hj9 a ha e
            have g6 : ∀ k, k < 45 → gtab.getD k 9 = 6 → ¬ a = B + k := fun k hk hg e2 => hj6 (by rw [← e, e2, gr_k hk, hg])
            exact far a ha (fun e2 => hj1 (by rw [← e, e2]; exact grB)) (fun e2 => hj3 (by rw [← e, e2]; exact gr_k (by decide))) (fun e2 => hj1 (by rw [← e, e2]; exact gr_k (by decide))) (g6 32 (by decide) rfl) (g6 28 (by decide) rfl) (fun e2 => hj3 (by rw [← e, e2]; exact gr_k (by decide))) (g6 35 (by decide) rfl) (g6 34 (by decide) rfl) (g6 33 (by decide) rfl) (g6 27 (by decide) rfl) (g6 26 (by decide) rfl)
          have fk : ∀ j, FK B M j (mL M) (mL M5) := fun j a ha _ => by rw [g5L, m1L]; exact yLa a ha
          have g32 : mI M5 (B + 32) = f32 := by rw [g5, if_neg (by omega), if_pos rfl]
          have g28 : mI M5 (B + 28) = f28 := by rw [g5, if_neg (by omega), if_neg (by omega), if_pos rfl]
          have g20 : mI M5 (B + 20) = f20 := by rw [g5, if_neg (by omega), if_neg (by omega), if_neg (by omega), if_pos rfl]
          have g35 : mI M5 (B + 35) = f35 := by rw [g5, if_neg (by omega), if_neg (by omega), if_neg (by omega), if_neg (by omega), if_pos rfl]
          have g34 : mI M5 (B + 34) = f34 := by rw [g5, if_neg (by omega), if_neg (by omega), if_neg (by omega), if_neg (by omega), if_neg (by omega), if_pos rfl]
          have g33 : mI M5 (B + 33) = f33 := by rw [g5, if_neg (by omega), if_neg (by omega), if_neg (by omega), if_neg (by omega), if_neg (by omega), if_neg (by omega), if_pos rfl]
          have g27 : mI M5 (B + 27) = f27 := by rw [g5, if_neg (by omega), if_neg (by omega), if_neg (by omega), if_neg (by omega), if_neg (by omega), if_neg (by omega), if_neg (by omega), if_pos rfl]
          have g26 : mI M5 (B + 26) = f26 := by rw [g5, if_neg (by omega), if_neg (by omega), if_neg (by omega), if_neg (by omega), if_neg (by omega), if_neg (by omega), if_neg (by omega), if_neg (by omega), if_pos rfl]
          have g36 : mI M5 (B + 36) = mI M (B + 36) := far _ (by omega) (by omega) (by omega) (by omega) (by omega) (by omega) (by omega) (by omega) (by omega) (by omega) (by omega) (by omega)
          have g21 : mI M5 (B + 21) = mI M (B + 21) := far _ (by omega) (by omega) (by omega) (by omega) (by omega) (by omega) (by omega) (by omega) (by omega) (by omega) (by omega) (by omega)
          have g4 : mI M5 (B + 4) = mI M (B + 4) := far _ (by omega) (by omega) (by omega) (by omega) (by omega) (by omega) (by omega) (by omega) (by omega) (by omega) (by omega) (by omega)
          have g3 : mI M5 (B + 3) = giF (mI M (B + 3)) K 54 := by
            rw [g5, if_neg (by omega), if_neg (by omega), if_neg (by omega), if_neg (by omega), if_neg (by omega), if_neg (by omega), if_neg (by omega), if_neg (by omega), if_neg (by omega), m1I, va_up_ap, if_neg (by omega), y3]
          refine ⟨hA5, ?_, D2_fr hA (fr 2 (by decide) (by decide) (by decide) (by decide)) d2, ⟨?_, ?_, fun c hc => ?_⟩, D4_fr hN (fr 4 (by decide) (by decide) (by decide) (by decide)) ⟨b0, b1, b2, b3, b4⟩, D5_fr hN (fr 5 (by decide) (by decide) (by decide) (by decide)) d5, ⟨fun i hi => ?_, fun i hi hi2 => ?_⟩, D7_fr hA (fr 7 (by decide) (by decide) (by decide) (by decide)) (fk 7) d7, D8_fr hN (fr 8 (by decide) (by decide) (by decide) (by decide)) (fr 7 (by decide) (by decide) (by decide) (by decide)) d8⟩
          · have gB : mI M5 B = upd (mI M B) 10 (nI (np + 1)) := by
              rw [g5, if_neg (by omega), if_neg (by omega), if_neg (by omega), if_neg (by omega), if_neg (by omega), if_neg (by omega), if_neg (by omega), if_neg (by omega), if_neg (by omega), m1I, va_up_ap, if_pos rfl, y00]
            have g14 : mI M5 (B + 14) = upd (mI M (B + 14)) 30 (nI (np + 1)) := by rw [g5, if_pos rfl]
            unfold D1
            rw [gB, g14]
            simp [upd_ap, a1, a2, a5, a6, a7, a8, a9, a10, a11, a12]
            exact ⟨a10 ▸ a13, a11 ▸ a14⟩
          · rw [g3, g20, ← hf20, e3]
          · rw [g4, g21, e4]
          · obtain ⟨a, b, h1, h2, h3⟩ := e5 c hc
            obtain ⟨a', h4, h5⟩ := gi_in hc h2 (dn_all hx c hc) (by omega)
            exact ⟨a', b, by omega, by rw [g20, ← hf20]; exact h5, by rw [g21]; exact h3⟩
          · by_cases e : i = np
            · rw [e, adx_n]
              have gq : mI M5 (mN M) = mI Y (mN M) := by
                rw [g5, if_neg (by omega), if_neg (by omega), if_neg (by omega), if_neg (by omega), if_neg (by omega), if_neg (by omega), if_neg (by omega), if_neg (by omega), if_neg (by omega), m1I, va_up_ap, if_neg (by omega)]
              have gq1 : mI M5 (mN M + 1) = coF (fun _ => 0) 0 K 54 := by
                rw [g5, if_neg (by omega), if_neg (by omega), if_neg (by omega), if_neg (by omega), if_neg (by omega), if_neg (by omega), if_neg (by omega), if_neg (by omega), if_neg (by omega), m1I, va_up_ap, if_neg (by omega), yI1]
              have gl : mL M5 (mN M) 0 = ksF K := by rw [g5L, m1L]; exact yL
              have hkc := @kcF_le K 54
              obtain ⟨s1, s2⟩ := ksM_ok hK
              refine ⟨kcF K 54, K, ⟨by omega, hK⟩, ?_, ?_, ?_, ?_, ?_, ?_, ⟨fun k hk => ?_, fun k hk => ?_⟩, ?_, ?_, ?_⟩
              · rw [gq, yI, g32, ← hf32]; simp [upd_ap]
              · rw [gl, g27, ← hf27]; simp [upd_ap]
              · rw [gq, yI, g34, g35, ← hf34, ← hf35]; simp [upd_ap]
              · rw [gq, yI, g26, ← hf26]; simp [upd_ap]
              · rw [gq, yI, g33, ← hf33]; simp [upd_ap]
              · rw [gq, yI, g36, z36]; simp [upd_ap]
              · rw [gq1, g28, ← hf28]
                exact coF_rel (fun k hk => (z28 k hk).symm) 54 k hk
              · rw [gq1]
                exact coF_in 54 (Nat.le_refl 54) k hk
              · rw [gq, yI]; simp [upd_ap]
              · intro _
                rw [gq1, cs_co]
                exact ⟨s1, s2⟩
              · rw [gq, yI]; simp [upd_ap]
            · have hi2 : i < np := by omega
              rw [adx_lt hi2]
              have lo := hA.2.2.1.2.1 i hi2
              have go0 : mI M5 (q i) = mI M (q i) := far _ (by omega) (by omega) (by omega) (by omega) (by omega) (by omega) (by omega) (by omega) (by omega) (by omega) (by omega) (by omega)
              have go1 : mI M5 (q i + 1) = mI M (q i + 1) := far _ (by omega) (by omega) (by omega) (by omega) (by omega) (by omega) (by omega) (by omega) (by omega) (by omega) (by omega) (by omega)
              exact PD_fr (d6.1 i hi2) go0 go1 (by rw [g5L, m1L]; exact yLa _ (by omega)) (by rw [g26, ← hf26, upd_ap, if_neg e]) (by rw [g27, ← hf27, upd_ap, if_neg e]) (fun k hk => by rw [g28, ← hf28]; exact coF_out e hk 54 (Nat.le_refl 54)) (by rw [g32, ← hf32, upd_ap, if_neg e]) (by rw [g33, ← hf33, upd_ap, if_neg e]) (by rw [g34, ← hf34, upd_ap, if_neg e]) (by rw [g35, ← hf35, upd_ap, if_neg e]) (by rw [g36])
          · obtain ⟨x1, x2, x3⟩ := d6.2 i (by omega) hi2
            refine ⟨by rw [g32, ← hf32, upd_ap, if_neg (by omega)]; exact x1, by rw [g36]; exact x2, fun k hk => ?_⟩
            rw [g28, ← hf28, coF_out (show ¬ i = np by omega) hk 54 (Nat.le_refl 54)]
            exact x3 k hk
      · have hn12 : np = 12 := by have := (iv_np h).2; omega
        obtain ⟨-, ⟨a3, a4⟩, -⟩ := h.2.1
        refine go_th (GO_th h 1 3 0 (by simp) (fun Q => ?_) (fun h2 Q => ?_))
        · unfold CaP
          simp [lv_args, sStep, amStep, a_nx, a_ii, a_jj, a_ji, a_ld, a_st, a_if, a_ald, a_c1, a_c2, lkp, lput, lput2, lins, oP_none, oP_next, oP_call, oP_ret, oP_thr, outP_ite, aft_ret, aft_void, aft_thr, fHnd, List.isEmpty_nil, List.filter_cons, List.filter_nil, Value.category, csum, List.map_cons, List.map_nil, List.sum_cons, List.sum_nil, List.cons_append, List.nil_append, Option.toList, vp_nar_int, narrow_b1, narrow_b0, nc115, vc115, fc115, nc111, vc111, fc111, nc100, vc100, fc100, nc109, vc109, fc109, nc120, vc120, fc120, nc119, vc119, fc119, nc116, vc116, fc116, nc45, vc45, fc45, nc32, vc32, fc32, nc102, vc102, fc102, nc106, vc106, fc106, fin3, rf_some, rf_none, upd_ap, va_up_ap, nar_bi, fits_bi, nvp_bi, bi_t, bi_f, fval, fty, ftabs, wrv_0, wrv_1, wrv_2, wrv_3, wrv_5, mT_stI, mI_stI, mL_stI, mD_stI, mR_stI, mN_stI, mS_stI, mT_stL, mI_stL, mL_stL, mD_stL, mR_stL, mN_stL, mS_stL, mT_stD, mI_stD, mL_stD, mD_stD, mR_stD, mN_stD, mS_stD, mT_stR, mI_stR, mL_stR, mD_stR, mR_stR, mN_stR, mS_stR, mT_stN, mI_stN, mL_stN, mD_stN, mR_stN, mN_stN, mS_stN, e63_0, e63_1, e63_4, e63_5, e63_6, e63_9, e63_10, e63_13, e63_14, e63_17, e63_27, e63_28, e63_31, e63_33, e63_35, e63_38, e63_40, e63_41, e63_44, e63_45, e63_48, e63_58, e63_59, e63_62, e63_63, e63_66, e63_67, e63_70, e63_72, e63_75, e63_76, e63_77, e63_78, e63_81, e63_84, e63_87, e63_88, e63_91, e63_92, e63_93, e63_96, e63_99, e63_102, e63_103, e63_106, e63_107, e63_110, e63_111, e63_112, e63_114, e63_115, e63_116, e63_119, e63_121, rt63, hn63, h0, tT0, tT1, tT2, tT3, tT4, tT5, tT6, tT7, tT8, tT9, tT10, tT11, tT12, tT13, tT14, tT15, tT16, tT17, tT18, tT19, tT20, tT21, tT22, tT23, tT24, tT25, tT26, tT27, tT28, tT29, tT30, tT31, tT32, tT33, tT34, tT35, tT36, tT37, tT38, tT39, tT40, tT41, tT42, tT43, tT44, tR0_0, tR0_6, tR0_7, tR0_8, tR0_9, tR0_11, tR0_12, tR0_14, tR2_0, tR2_1, tR6_0, tR9_0, tR9_1, tR14_0, tR14_1, tR14_2, tR14_3, tR14_4, tR14_5, tR14_6, tR14_7, tR14_8, tR14_9, tR14_10, tR14_11, tR14_12, tR14_13, tR14_14, tR14_15, tR14_16, tR14_17, tR14_18, tR14_19, tR14_20, tR14_21, tR14_22, tR14_23, tR14_24, tR14_25, tR14_26, tR14_27, ST_stI, ST_stL, ST_stD, cl92, sp92, hK, cl25, sp25 h0 hK, e3, hx, a3, hn12, show ¬ nI 12 < 0 by decide, show (12 : Int32) ≤ nI 12 by decide, show ¬ nI 12 < (12 : Int32) by decide]
        · have q20 : mI (stN M 0 0 6) (B + 20) = mI M (B + 20) := by rw [mI_stN, va_up_ap, if_neg (by omega)]
          rw [sp138y (INV_ST h2) hK (Or.inr (by rw [(iv_np h2).1, hn12]; rfl)), q20, if_pos hx]
    · refine go_th (GO_th h 3 2 0 (by simp) (fun Q => ?_) (fun h2 Q => ?_))
      · unfold CaP
        simp [lv_args, sStep, amStep, a_nx, a_ii, a_jj, a_ji, a_ld, a_st, a_if, a_ald, a_c1, a_c2, lkp, lput, lput2, lins, oP_none, oP_next, oP_call, oP_ret, oP_thr, outP_ite, aft_ret, aft_void, aft_thr, fHnd, List.isEmpty_nil, List.filter_cons, List.filter_nil, Value.category, csum, List.map_cons, List.map_nil, List.sum_cons, List.sum_nil, List.cons_append, List.nil_append, Option.toList, vp_nar_int, narrow_b1, narrow_b0, nc115, vc115, fc115, nc111, vc111, fc111, nc100, vc100, fc100, nc109, vc109, fc109, nc120, vc120, fc120, nc119, vc119, fc119, nc116, vc116, fc116, nc45, vc45, fc45, nc32, vc32, fc32, nc102, vc102, fc102, nc106, vc106, fc106, fin3, rf_some, rf_none, upd_ap, va_up_ap, nar_bi, fits_bi, nvp_bi, bi_t, bi_f, fval, fty, ftabs, wrv_0, wrv_1, wrv_2, wrv_3, wrv_5, mT_stI, mI_stI, mL_stI, mD_stI, mR_stI, mN_stI, mS_stI, mT_stL, mI_stL, mL_stL, mD_stL, mR_stL, mN_stL, mS_stL, mT_stD, mI_stD, mL_stD, mD_stD, mR_stD, mN_stD, mS_stD, mT_stR, mI_stR, mL_stR, mD_stR, mR_stR, mN_stR, mS_stR, mT_stN, mI_stN, mL_stN, mD_stN, mR_stN, mN_stN, mS_stN, e63_0, e63_1, e63_4, e63_5, e63_6, e63_9, e63_10, e63_13, e63_14, e63_17, e63_27, e63_28, e63_31, e63_33, e63_35, e63_38, e63_40, e63_41, e63_44, e63_45, e63_48, e63_58, e63_59, e63_62, e63_63, e63_66, e63_67, e63_70, e63_72, e63_75, e63_76, e63_77, e63_78, e63_81, e63_84, e63_87, e63_88, e63_91, e63_92, e63_93, e63_96, e63_99, e63_102, e63_103, e63_106, e63_107, e63_110, e63_111, e63_112, e63_114, e63_115, e63_116, e63_119, e63_121, rt63, hn63, h0, tT0, tT1, tT2, tT3, tT4, tT5, tT6, tT7, tT8, tT9, tT10, tT11, tT12, tT13, tT14, tT15, tT16, tT17, tT18, tT19, tT20, tT21, tT22, tT23, tT24, tT25, tT26, tT27, tT28, tT29, tT30, tT31, tT32, tT33, tT34, tT35, tT36, tT37, tT38, tT39, tT40, tT41, tT42, tT43, tT44, tR0_0, tR0_6, tR0_7, tR0_8, tR0_9, tR0_11, tR0_12, tR0_14, tR2_0, tR2_1, tR6_0, tR9_0, tR9_1, tR14_0, tR14_1, tR14_2, tR14_3, tR14_4, tR14_5, tR14_6, tR14_7, tR14_8, tR14_9, tR14_10, tR14_11, tR14_12, tR14_13, tR14_14, tR14_15, tR14_16, tR14_17, tR14_18, tR14_19, tR14_20, tR14_21, tR14_22, tR14_23, tR14_24, tR14_25, tR14_26, tR14_27, ST_stI, ST_stL, ST_stD, cl92, sp92, hK, cl25, sp25 h0 hK, e3, hx]
      · have q20 : mI (stN M 0 0 6) (B + 20) = mI M (B + 20) := by rw [mI_stN, va_up_ap, if_neg (by omega)]
        rw [sp138y (INV_ST h2) hK (Or.inl (by rw [q20]; exact hx)), q20, if_neg hx]
  · refine go_th (GO_th h 0 1 0 (by simp) (fun Q => ?_) (fun h2 Q => sp138x (INV_ST h2) (nt hK)))
    unfold CaP
    simp [lv_args, sStep, amStep, a_nx, a_ii, a_jj, a_ji, a_ld, a_st, a_if, a_ald, a_c1, a_c2, lkp, lput, lput2, lins, oP_none, oP_next, oP_call, oP_ret, oP_thr, outP_ite, aft_ret, aft_void, aft_thr, fHnd, List.isEmpty_nil, List.filter_cons, List.filter_nil, Value.category, csum, List.map_cons, List.map_nil, List.sum_cons, List.sum_nil, List.cons_append, List.nil_append, Option.toList, vp_nar_int, narrow_b1, narrow_b0, nc115, vc115, fc115, nc111, vc111, fc111, nc100, vc100, fc100, nc109, vc109, fc109, nc120, vc120, fc120, nc119, vc119, fc119, nc116, vc116, fc116, nc45, vc45, fc45, nc32, vc32, fc32, nc102, vc102, fc102, nc106, vc106, fc106, fin3, rf_some, rf_none, upd_ap, va_up_ap, nar_bi, fits_bi, nvp_bi, bi_t, bi_f, fval, fty, ftabs, wrv_0, wrv_1, wrv_2, wrv_3, wrv_5, mT_stI, mI_stI, mL_stI, mD_stI, mR_stI, mN_stI, mS_stI, mT_stL, mI_stL, mL_stL, mD_stL, mR_stL, mN_stL, mS_stL, mT_stD, mI_stD, mL_stD, mD_stD, mR_stD, mN_stD, mS_stD, mT_stR, mI_stR, mL_stR, mD_stR, mR_stR, mN_stR, mS_stR, mT_stN, mI_stN, mL_stN, mD_stN, mR_stN, mN_stN, mS_stN, e63_0, e63_1, e63_4, e63_5, e63_6, e63_9, e63_10, e63_13, e63_14, e63_17, e63_27, e63_28, e63_31, e63_33, e63_35, e63_38, e63_40, e63_41, e63_44, e63_45, e63_48, e63_58, e63_59, e63_62, e63_63, e63_66, e63_67, e63_70, e63_72, e63_75, e63_76, e63_77, e63_78, e63_81, e63_84, e63_87, e63_88, e63_91, e63_92, e63_93, e63_96, e63_99, e63_102, e63_103, e63_106, e63_107, e63_110, e63_111, e63_112, e63_114, e63_115, e63_116, e63_119, e63_121, rt63, hn63, h0, tT0, tT1, tT2, tT3, tT4, tT5, tT6, tT7, tT8, tT9, tT10, tT11, tT12, tT13, tT14, tT15, tT16, tT17, tT18, tT19, tT20, tT21, tT22, tT23, tT24, tT25, tT26, tT27, tT28, tT29, tT30, tT31, tT32, tT33, tT34, tT35, tT36, tT37, tT38, tT39, tT40, tT41, tT42, tT43, tT44, tR0_0, tR0_6, tR0_7, tR0_8, tR0_9, tR0_11, tR0_12, tR0_14, tR2_0, tR2_1, tR6_0, tR9_0, tR9_1, tR14_0, tR14_1, tR14_2, tR14_3, tR14_4, tR14_5, tR14_6, tR14_7, tR14_8, tR14_9, tR14_10, tR14_11, tR14_12, tR14_13, tR14_14, tR14_15, tR14_16, tR14_17, tR14_18, tR14_19, tR14_20, tR14_21, tR14_22, tR14_23, tR14_24, tR14_25, tR14_26, tR14_27, ST_stI, ST_stL, ST_stD, cl92, sp92, nt hK]
