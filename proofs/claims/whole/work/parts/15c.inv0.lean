/-! ===== the world at the start ===== -/
theorem mxL_ok {B : Nat} : ∀ e ∈ stR0, mxL B rs0 e.1 e.2.1 = some (B + e.2.2) := by
  have h : ∀ e ∈ stR0, rs0.find? (fun x => x.1 == e.1 && x.2.1 == e.2.1) = some e := by decide +kernel
  intro e he
  unfold mxL
  rw [h e he]
theorem mxL_no {B k : Nat} (hk : k = 1 ∨ k = 8 ∨ k = 12) {i : Nat} : mxL B rs0 k i = none := by
  have h : ∀ x ∈ rs0, ¬ x.1 = 1 ∧ ¬ x.1 = 8 ∧ ¬ x.1 = 12 := by decide
  unfold mxL
  rw [List.find?_eq_none.mpr]
  intro x hx
  have := h x hx
  simp
  omega
theorem sumF_z {n : Nat} : sumF (fun _ => 0) n = 0 := by
  induction n with
  | zero => rfl
  | succ n ih => show sumF (fun _ => 0) n + 0 = 0; rw [ih]; rfl
theorem INV_0 {B b L ms : Nat} {M : AMem} {p q o : Nat → Nat} (hb : b < B) (hs : mT M b = (200, L)) : INV B b L (MX B M 45 rs0 10 10 ms) 0 0 0 0 p q o := by
  have hR : ∀ k, k < 45 → mR (MX B M 45 rs0 10 10 ms) (B + k) = mxL B rs0 k := by
    intro k hk
    show (if B ≤ B + k ∧ B + k < B + 45 then mxL B rs0 (B + k - B) else mR M (B + k)) = _
    rw [if_pos (by omega), Nat.add_sub_cancel_left]
  have hS : ST B (MX B M 45 rs0 10 10 ms) := by
    refine ⟨fun k hk => mx_T hk, fun e he => ?_, Nat.le_refl _⟩
    have hb : e.1 < 45 := by
      have : ∀ e ∈ stR0, e.1 < 45 := by decide
      exact this e he
    rw [hR _ hb]
    exact mxL_ok e he
  have hI : ∀ k, 1 ≤ k → ¬ k = 14 → k < 45 → mI (MX B M 45 rs0 10 10 ms) (B + k) = fun _ => 0 := by
    intro k h1 h2 h3
    rw [mx_Iv h3]
    unfold mxI
    rw [if_neg (by omega), if_neg (by omega)]
  have hB : mI (MX B M 45 rs0 10 10 ms) B = upd (fun _ => 0) 2 10 := by
    rw [show mI (MX B M 45 rs0 10 10 ms) B = mxI B 10 10 B from mx_Iv (k := 0) (by decide)]
    unfold mxI
    rw [if_pos rfl]
  have h14 : mI (MX B M 45 rs0 10 10 ms) (B + 14) = upd (fun _ => 0) 32 10 := by
    rw [mx_Iv (by decide)]
    unfold mxI
    rw [if_neg (by omega), if_pos rfl]
  have hT : mT (MX B M 45 rs0 10 10 ms) b = (200, L) := by
    show (if B ≤ b ∧ b < B + 45 then stT.getD (b - B) (0, 0) else mT M b) = _
    rw [if_neg (by omega), hs]
  refine ⟨⟨⟨hS, hb, hT, by decide, by decide, by decide⟩, ⟨fun i hi => ?_, fun i hi => ?_, fun i hi => ?_⟩, ⟨fun i hi => absurd hi (Nat.not_lt_zero i), fun i hi => absurd hi (Nat.not_lt_zero i), fun i hi => absurd hi (Nat.not_lt_zero i)⟩, ⟨fun i j _ hj => absurd hj (Nat.not_lt_zero j), fun i j _ hj => absurd hj (Nat.not_lt_zero j), fun i j _ hj => absurd hj (Nat.not_lt_zero j)⟩⟩, ?_, ⟨fun i hi => absurd hi (Nat.not_lt_zero i), fun i _ _ k _ => ?_⟩, ⟨?_, ?_, fun c _ => ⟨0, 0, by decide, ?_, ?_⟩⟩, ⟨?_, ?_, ?_, ?_, fun h => absurd h (by decide)⟩, ?_, ⟨fun i hi => absurd hi (Nat.not_lt_zero i), fun i _ _ => ⟨?_, ?_, fun k _ => ?_⟩⟩, ⟨fun i hi => absurd hi (Nat.not_lt_zero i), fun i _ _ => ?_⟩, ⟨?_, fun t ht => ?_⟩⟩
  · rw [hR 1 (by decide), mxL_no (Or.inl rfl), if_neg (Nat.not_lt_zero i)]
  · rw [hR 8 (by decide), mxL_no (Or.inr (Or.inl rfl)), if_neg (Nat.not_lt_zero i)]
  · rw [hR 12 (by decide), mxL_no (Or.inr (Or.inr rfl)), if_neg (Nat.not_lt_zero i)]
  · unfold D1
    rw [hB, h14]
    simp [upd_ap, show nI 0 = 0 from rfl]
    decide
  · rw [hI 18 (by decide) (by decide) (by decide), hI 19 (by decide) (by decide) (by decide)]
    exact ⟨rfl, rfl⟩
  · rw [hI 3 (by decide) (by decide) (by decide), hI 20 (by decide) (by decide) (by decide)]
  · rw [hI 4 (by decide) (by decide) (by decide), hI 21 (by decide) (by decide) (by decide)]
  · rw [hI 20 (by decide) (by decide) (by decide)]; rfl
  · rw [hI 21 (by decide) (by decide) (by decide)]; rfl
  · rw [hI 5 (by decide) (by decide) (by decide)]; rfl
  · rw [hI 5 (by decide) (by decide) (by decide)]; rfl
  · rw [hI 5 (by decide) (by decide) (by decide)]; rfl
  · rw [hI 5 (by decide) (by decide) (by decide)]; rfl
  · unfold D5
    rw [hI 7 (by decide) (by decide) (by decide), hI 25 (by decide) (by decide) (by decide)]
  · rw [hI 32 (by decide) (by decide) (by decide)]
  · rw [hI 36 (by decide) (by decide) (by decide)]
  · rw [hI 28 (by decide) (by decide) (by decide)]
  · rw [hI 41 (by decide) (by decide) (by decide)]
  · rw [hI 13 (by decide) (by decide) (by decide), hI 42 (by decide) (by decide) (by decide)]
  · rw [hI 42 (by decide) (by decide) (by decide)]; rfl
