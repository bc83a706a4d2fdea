/-! ===== the start; a sheet; a pack ===== -/
theorem mxL_ok {B : Nat} : ∀ e ∈ stR0, mxL B rs0 e.1 e.2.1 = some (B + e.2.2) := by
  have h : ∀ e ∈ stR0, rs0.find? (fun x => x.1 == e.1 && x.2.1 == e.2.1) = some e := by decide +kernel
  intro e he
  unfold mxL
  rw [h e he]
theorem mxL_no {B k : Nat} (hk : k = 1 ∨ k = 8 ∨ k = 12) {i : Nat} : mxL B rs0 k i = none := by
  have h : ∀ x ∈ rs0, ¬ x.1 = 1 ∧ ¬ x.1 = 8 ∧ ¬ x.1 = 12 := by decide
  unfold mxL
  rw [List.find?_eq_none.mpr]
  intro x hx
  have := h x hx
  simp
  omega
theorem M0_f {B b ms : Nat} {M : AMem} (hb : b < B) : ST B (MX B M 14 rs0 10 0 ms) ∧ mN (MX B M 14 rs0 10 0 ms) = B + 14 ∧ mS (MX B M 14 rs0 10 0 ms) = ms ∧ mT (MX B M 14 rs0 10 0 ms) b = mT M b ∧ mI (MX B M 14 rs0 10 0 ms) b = mI M b ∧ (∀ k, k = 1 ∨ k = 8 ∨ k = 12 → ∀ i, mR (MX B M 14 rs0 10 0 ms) (B + k) i = none)
    ∧ mI (MX B M 14 rs0 10 0 ms) B = upd (fun _ => 0) 2 10 ∧ (∀ k, 1 ≤ k → k < 14 → mI (MX B M 14 rs0 10 0 ms) (B + k) = fun _ => 0) := by
  have hR : ∀ k, k < 14 → mR (MX B M 14 rs0 10 0 ms) (B + k) = mxL B rs0 k := by
    intro k hk
    show (if B ≤ B + k ∧ B + k < B + 14 then mxL B rs0 (B + k - B) else mR M (B + k)) = _
    rw [if_pos (by omega), Nat.add_sub_cancel_left]
  refine ⟨⟨fun k hk => mx_T hk, fun e he => ?_, Nat.le_refl _⟩, rfl, rfl, ?_, ?_, fun k hk i => ?_, ?_, fun k h1 h3 => ?_⟩
  · have hb : e.1 < 14 := by
      have : ∀ e ∈ stR0, e.1 < 14 := by decide
      exact this e he
    rw [hR _ hb]
    exact mxL_ok e he
  · show (if B ≤ b ∧ b < B + 14 then stT.getD (b - B) (0, 0) else mT M b) = _
    rw [if_neg (by omega)]
  · show (if B ≤ b ∧ b < B + 14 then mxI B 10 0 b else mI M b) = _
    rw [if_neg (by omega)]
  · rw [hR k (by omega)]
    exact mxL_no hk
  · rw [show mI (MX B M 14 rs0 10 0 ms) B = mxI B 10 0 B from mx_Iv (k := 0) (by decide)]
    unfold mxI
    rw [if_pos rfl]
  · rw [mx_Iv h3]
    unfold mxI
    rw [if_neg (by omega), if_neg (by omega)]
theorem in1R {n N : Nat} (h1 : 1 ≤ n) (h2 : n ≤ N) (hN : N < 1000) : inR (nI n) 1 (nI N) = true := by
  have a : (1 : Int32) ≤ nI n := nI_le (a := 1) h1 (by omega)
  have b : nI n ≤ nI N := nI_le h2 (by omega)
  simp [inR, a, b]
theorem d44 {B R C : Nat} {M : AMem} (h : ST B M) (h1 : ∀ i, i < 6 → mR M (B + 1) i = none) (h12 : ∀ i, i < 12 → mR M (B + 12) i = none) (hN : mN M = B + 15) (hn : mI M B 1 = 0) (hR1 : 1 ≤ R) (hR : R ≤ 6) (hC1 : 1 ≤ C) (hC : C ≤ 9) : ∃ M', (∀ Q, CaP 44 [.ref B, .int (nI R), .int (nI C)] M Q = Q (M', .inl (some (.int 0)))) ∧ WS B M' ∧ mN M' = B + 20 ∧ mS M' = mS M + 122
    ∧ (∀ a, a < B + 15 → mT M' a = mT M a ∧ (¬ a = B → mI M' a = mI M a) ∧ (¬ a = B + 1 → mR M' a = mR M a)) ∧ mI M' B = upd (mI M B) 1 1 ∧ mI M' (B + 15) 0 = nI R ∧ mI M' (B + 15) 1 = nI C ∧ (∀ k, k < 54 → mI M' (B + 16) k = -1) ∧ mI M' (B + 17) = (fun _ => 0) ∧ mI M' (B + 18) = (fun _ => 0) ∧ mI M' (B + 19) = (fun _ => 0) := by
  obtain ⟨f1, f2, f3, f4, f5, ⟨f6, f7⟩, f8, f9, f10, f11⟩ := @shC_f M (B + 15) (nI R) (nI C) hN
  generalize shC (stN M 6 0 6) (B + 15) (nI R) (nI C) = Y at f1 f2 f3 f4 f5 f6 f7 f8 f9 f10 f11
  have hY : ST B Y := by
    refine ⟨fun k hk => ?_, fun e he => ?_, by omega⟩
    · rw [(f4 _ (by omega)).1]; exact h.1 k hk
    · have hb : e.1 < 14 := by
        have : ∀ e ∈ stR0, e.1 < 14 := by decide
        exact this e he
      rw [(f4 _ (by omega)).2.2.2]; exact h.2.1 e he
  have hx1 : inR (nI R) 1 6 = true := in1R (N := 6) hR1 hR (by decide)
  have hx2 : inR (nI C) 1 9 = true := in1R (N := 9) hC1 hC (by decide)
  have e44 := @cs44 B 0 (nI R) (nI C) M Y h hx1 hx2 hn (by decide) (by rw [hN]; exact f1) hY (by rw [hN]; exact f5.1)
  rw [hN] at e44
  have n1 : nI (0 + 1) = 1 := rfl
  rw [n1, nI_0] at e44
  have qI : ∀ a, ¬ a = B → mI (stI (stR Y (B + 1) (va_up (mR Y (B + 1)) 0 (some (B + 15)))) B (upd (mI Y B) 1 1)) a = mI Y a := fun a ha => by rw [mI_stI, va_up_ap, if_neg ha, mI_stR]
  refine ⟨stI (stR Y (B + 1) (va_up (mR Y (B + 1)) 0 (some (B + 15)))) B (upd (mI Y B) 1 1), e44, ?_, by rw [mN_stI, mN_stR, f2], by rw [mS_stI, mS_stR, f3], fun a ha => ⟨?_, fun hb => ?_, fun hb => ?_⟩, ?_, ?_, ?_, fun k hk => ?_, ?_, ?_, ?_⟩
  · rw [WS_stI]
    refine ⟨ST_R1 (Or.inl rfl) hY, SH_Rh f5 (by omega), fun i hi => ?_, fun i hi => ?_, by rw [mN_stR, f2]; exact Nat.le_refl _⟩
    · rw [mR_stR, va_up_ap, if_pos rfl, va_up_ap]
      by_cases e : i = 0
      · rw [if_pos e, if_pos e]
      · rw [if_neg e, if_neg e, (f4 _ (by omega)).2.2.2]
        exact h1 i hi
    · rw [mR_stR, va_up_ap, if_neg (by omega), (f4 _ (by omega)).2.2.2]
      exact h12 i hi
  · rw [mT_stI, mT_stR]; exact (f4 a ha).1
  · rw [qI a hb]; exact (f4 a ha).2.1
  · rw [mR_stI, mR_stR, va_up_ap, if_neg hb]; exact (f4 a ha).2.2.2
  · rw [mI_stI, va_up_ap, if_pos rfl, (f4 B (by omega)).2.1]
  · rw [qI _ (by omega)]; exact f6
  · rw [qI _ (by omega)]; exact f7
  · rw [qI _ (by omega)]; exact f8 k hk
  · rw [qI _ (by omega)]; exact f9
  · rw [qI _ (by omega)]; exact f10
  · rw [qI _ (by omega)]; exact f11
theorem tr0 : allB (trnF (fun _ => 0)) 35 = true := by decide
theorem d63 {B : Nat} {K : Int32} {M : AMem} (h : WS B M) (hK : kdF K = true) (hx : dnF (lakF (mI M (B + 3)) K) 54 = -1) (hj : mI M B 10 = 0) (hp : ∀ i, i < 12 → mR M (B + 8) i = none) (h7 : mI M (B + 7) = fun _ => 0) (h5 : mI M (B + 5) 2 = 0) : ∃ M', (∀ Q, CaP 63 [.ref B, .int K] M Q = Q (M', .inl (some (.int 0)))) ∧ ST B M' ∧ mN M' = mN M + 2 ∧ mS M' = mS M + 69
    ∧ (∀ i, i < 12 → mR M' (B + 8) i = if i = 0 then some (mN M) else none) ∧ (∀ i, i < 12 → mR M' (B + 12) i = none) ∧ PK M' (mN M) ∧ (mI M' (mN M) 4 = nI (kcF K 54) ∧ mI M' (mN M) 5 = 115 ∧ mI M' (mN M) 6 = 0 ∧ mI M' (mN M) 8 = -1 ∧ mI M' (mN M) 1 = 0 ∧ mI M' (mN M) 2 = 1) ∧ mI M' (mN M + 1) = coF (fun _ => 0) 0 K 54 ∧ mL M' (mN M) 0 = ksF K ∧ (∀ a, a < mN M → ¬ a = B → ¬ a = B + 3 → mI M' a = mI M a) ∧ mI M' (B + 3) = giF (mI M (B + 3)) K 54 ∧ (∀ a, a < mN M → mT M' a = mT M a ∧ (¬ a = B + 8 → mR M' a = mR M a)) := by
  have hws : WS B (stI M (B + 3) (giF (mI M (B + 3)) K 54)) := by rw [WS_stI]; exact h
  have hN2 := h.2.2.2.2
  obtain ⟨f1, f2, f3, f4, f5, f6, f7, f8⟩ := @pkC_f (stI M (B + 3) (giF (mI M (B + 3)) K 54)) (mN M) K false true mN_stI hK
  generalize pkC (stN (stI M (B + 3) (giF (mI M (B + 3)) K 54)) 4 0 9) (mN M) K (bi false) (bi true) = Y at f1 f2 f3 f4 f5 f6 f7 f8
  have hY : ST B Y := by
    refine ⟨fun k hk => ?_, fun e he => ?_, by omega⟩
    · rw [(f4 _ (by omega)).1]; exact hws.1.1 k hk
    · have hb : e.1 < 14 := by
        have : ∀ e ∈ stR0, e.1 < 14 := by decide
        exact this e he
      rw [(f4 _ (by omega)).2.2.2]; exact hws.1.2.1 e he
  have e63 := @cs63 B 0 K false true M Y h.1 hK hx hj (by decide) (by rw [h7, tr0]; rfl) (by rw [h5]; decide) (by omega) f1 hY f5.1
  have n1 : nI (0 + 1) = 1 := rfl
  rw [n1, nI_0] at e63
  have qI : ∀ a, ¬ a = B → mI (stI (stR Y (B + 8) (va_up (mR Y (B + 8)) 0 (some (mN M)))) B (upd (mI Y B) 10 1)) a = mI Y a := fun a ha => by rw [mI_stI, va_up_ap, if_neg ha, mI_stR]
  refine ⟨stI (stR Y (B + 8) (va_up (mR Y (B + 8)) 0 (some (mN M)))) B (upd (mI Y B) 10 1), e63, ?_, by rw [mN_stI, mN_stR, f2], ?_, fun i hi => ?_, fun i hi => ?_, ?_, ⟨?_, ?_, ?_, ?_, ?_, ?_⟩, ?_, ?_, fun a ha hb h3 => ?_, ?_, fun a ha => ⟨?_, fun hb => ?_⟩⟩
  · rw [ST_stI]; exact ST_R1 (Or.inr (Or.inl rfl)) hY
  · rw [mS_stI, mS_stR, f3, mS_stI]
  · rw [mR_stI, mR_stR, va_up_ap, if_pos rfl, va_up_ap]
    by_cases e : i = 0
    · rw [if_pos e, if_pos e]
    · rw [if_neg e, if_neg e, (f4 _ (by omega)).2.2.2, mR_stI]
      exact hp i hi
  · rw [mR_stI, mR_stR, va_up_ap, if_neg (by omega), (f4 _ (by omega)).2.2.2, mR_stI]
    exact h.2.2.2.1 i hi
  · rw [PK_stI]
    unfold PK
    rw [mR_stR, va_up_ap, if_neg (by omega)]
    exact f5
  all_goals first | rw [qI _ (by omega), f6] | skip
  · simp [upd_ap]
  · simp [upd_ap]
  · simp [upd_ap]
  · simp [upd_ap]
  · simp [upd_ap, bi]
  · simp [upd_ap, bi]
  · rw [qI _ (by omega)]; exact f7
  · rw [mL_stI, mL_stR]; exact f8
  · rw [qI a hb, (f4 a ha).2.1, mI_stI, va_up_ap, if_neg h3]
  · rw [qI _ (by omega), (f4 _ (by omega)).2.1, mI_stI, va_up_ap, if_pos rfl]
  · rw [mT_stI, mT_stR, (f4 a ha).1, mT_stI]
  · rw [mR_stI, mR_stR, va_up_ap, if_neg hb, (f4 a ha).2.2.2, mR_stI]
