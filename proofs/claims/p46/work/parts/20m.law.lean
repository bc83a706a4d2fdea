/-! ===== the law's run ===== -/
theorem rg00 : (0 : Int32) = nI 10 - 10 := by decide
theorem run_all {base b L : Nat} {xs : Nat → Int32} (hb : b < base) (hL : L ≤ 260) : ∃ n Mf, amExec n lawM 0 [(0, .ref b)] [] (M00 base b L xs) = some (Mf, .inl (some (.int 1))) ∧ mN Mf ≤ base + 600104 ∧ mS Mf ≤ 7301314 := by
  have hN : mN (M00 base b L xs) = base := rfl
  have hS : mS (M00 base b L xs) = 0 := rfl
  have hT : mT (M00 base b L xs) b = (200, L) := by
    show (if b = b then (200, L) else (0, 0)) = _
    rw [if_pos rfl]
  have rg0 : RGs (fun _ => 0) (fun _ => 0) := fun j _ => ⟨⟨10, by decide, rg00⟩, ⟨10, by decide, rg00⟩⟩
  have h : EvP 190 0 [(0, .ref b)] [] (M00 base b L xs) (fun r => ∃ Mf, r = (Mf, .inl (some (.int 1))) ∧ mN Mf ≤ base + 600104 ∧ mS Mf ≤ 7301314) := by
    refine segA hb hN hS hT hL fun R C P M1 hR1 hR6 hC1 hC9 hPm hLB hN1 hS1 => ?_
    refine segB hb hR6 hC9 hLB hN1 fun M2 h2 => ?_
    have hRC : R * C ≤ 54 := RC_le ⟨hR1, hR6, hC1, hC9⟩
    have hCI : CI (R * C) P (fun _ => 0) := ⟨fun j hj => Or.inl (hPm j hj), fun j _ hj => hPm j hj, fun c hc => by
      rw [cnt_m1 hc (Nat.zero_le 54) (fun k _ hk => hPm k hk)]
      rfl⟩
    have h2' : LPp b base L (mI (M00 base b L xs) b) R C o0 P (fun _ => 0) (fun _ => 0) (fun _ => 0) (fun _ => 0) (fun _ => 0) P (base + 26) (mS M1 + 54) M2 := ⟨h2.1, h2.2.1, h2.2.2.1, h2.2.2.2.1, fun j hj => by rw [h2.2.2.2.2 j hj, hPm j (by omega)]⟩
    refine segC hb hL hR1 hR6 hC1 hC9 hCI h2' fun P1 T1 M3 hCI1 h3 => ?_
    refine segD hb hL hR1 hR6 hC1 hC9 hCI1 h3 fun P2 T2 M4 hCI2 h4 => ?_
    refine segE hb hR6 hC1 hC9 hCI2 h4 fun M5 h5 => ?_
    refine segF (CI_T hCI2) h5 ?_
    refine segG hb hL rg0 h5 fun r u M6 hrg h6 hPA hPV => ?_
    refine segH hrg hPA hPV ?_
    refine segI hb hrg h6 fun M7 h7 hPZ hz => ?_
    refine segK hb hL (fun c hc => ⟨cnt P2 c 54, cnt_le, hCI2.2.2 c hc⟩) h7 hPZ hz rfl rfl rfl rfl rfl (fun _ _ => rfl) (fun _ _ => rfl) fun o pl mk M8 k1 k2 k3 k4 k5 k6 k7 k8 => ?_
    refine segL hb ⟨k1, k2, k3, k4, k5, k6⟩ fun M9 h9 => ?_
    refine segM h9.2.2.2.2.1 h9.2.2.2.2.2 ?_
    refine segN h9.1 ?_
    refine segO hb h9 k7 k8 (fun M10 h10 => ?_) fun Mf q1 q2 => ⟨Mf, rfl, by omega, by omega⟩
    exact segP hb hL h10 fun Mf q1 q2 => ⟨Mf, rfl, by omega, by omega⟩
  obtain ⟨n, r, h1, Mf, h2, h3, h4⟩ := h
  exact ⟨n, Mf, by rw [← h2]; exact h1, h3, h4⟩
