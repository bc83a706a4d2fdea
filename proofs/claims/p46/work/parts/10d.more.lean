theorem inR_of {x y : Int32} {n : Nat} (hy : y = nI n) (hn : n < 2 ^ 31) (h : inR x 0 y = true) : ∃ k, k ≤ n ∧ x = nI k := by
  simp only [inR, Bool.and_eq_true, decide_eq_true_eq] at h
  have h0 : ¬ x < 0 := Int32.not_lt.mpr h.1
  obtain ⟨j, h1, h2⟩ := nI_of2 (M := y) (n := n) (by rw [hy]; exact nI_toInt hn) h0 h.2
  exact ⟨j, h1, h2⟩
theorem nt {b : Bool} (h : ¬ b = true) : b = false := by cases b; rfl; exact absurd rfl h
theorem kn_abs' {x : Int32} : (if 0 ≤ x then x else -x) = amt x := by
  rw [← kn_abs, Int32.zero_sub]
theorem ix_pl {r c R C : Nat} (hr : r < R) (hc : c < C) (hn : R * C ≤ 54) : nI r * nI C + nI c = nI (C * r + c) ∧ C * r + c < R * C ∧ C * r + c < 54 := by
  have h1 : C * r + C ≤ R * C := by
    rw [Nat.mul_comm R C, ← Nat.mul_succ]
    exact Nat.mul_le_mul (Nat.le_refl C) hr
  exact ⟨by rw [pk_mul, nI_add, Nat.mul_comm r C], by omega, by omega⟩
theorem RC_le {R C : Nat} (h : 1 ≤ R ∧ R ≤ 6 ∧ 1 ≤ C ∧ C ≤ 9) : R * C ≤ 54 := Nat.le_trans (Nat.mul_le_mul h.2.1 h.2.2.2) (by decide)
theorem cn_of {x : Int32} (h : inR x (-1) 53 = true) : isCN x := by
  by_cases e : x = -1
  · exact Or.inl e
  · simp only [inR, Bool.and_eq_true, decide_eq_true_eq, Int32.le_iff_toInt_le] at h
    have h1 : (-1 : Int) ≤ x.toInt := h.1
    have h2 : x.toInt ≤ (53 : Int) := h.2
    have h3 : ¬ x.toInt = (-1 : Int) := fun h => e (Int32.toInt_inj.mp h)
    have h0 : ¬ x < 0 := by
      rw [Int32.lt_iff_toInt_lt]
      show ¬ x.toInt < (0 : Int)
      omega
    obtain ⟨j, hj, rfl⟩ := nI_of h0
    refine Or.inr ⟨j, ?_, rfl⟩
    by_cases hlt : j < 54
    · exact hlt
    · exfalso
      have : (54 : Int32) ≤ nI j := (nI_leI (a := 54) (by decide) hj).mpr (by omega)
      rw [Int32.le_iff_toInt_le] at this
      have h5 : (54 : Int) ≤ (nI j).toInt := this
      omega
theorem cn_in {x : Int32} (h : isCN x) : x = -1 ∨ inR x 0 53 = true := by
  rcases h with h | ⟨c, hc, h⟩
  · exact Or.inl h
  · exact Or.inr (by rw [h]; exact inR53 hc)
theorem all_any {A : Nat → Bool} : ∀ n, allB (fun c => !A c) n = !anyB A n := by
  intro n
  induction n with
  | zero => rfl
  | succ n ih =>
    show (allB (fun c => !A c) n && !A n) = !(anyB A n || A n)
    rw [ih, Bool.not_or]
def prA (B : Nat) (M : AMem) (p : Nat) (y : Int32) (c : Nat) : Bool := decide (9999 < mI M (B + 3) c + mI M (B + 4) c + mI M (p + 2) c * y)
def prM (B : Nat) (M : AMem) : Bool := !(inR (mI M B 3) (-4) 4 && inR (mI M B 4) (-4) 4)
theorem gt9 {x : Nat} (hx : x < 2 ^ 31) : ((9999 : Int32) < nI x) = (9999 < x) := nI_ltN (a := 9999) (by decide) hx
theorem in99 {y : Int32} (h : inR y 1 99 = true) : ∃ m, m ≤ 99 ∧ y = nI m := by
  refine inR_of (n := 99) rfl (by decide) ?_
  simp only [inR, Bool.and_eq_true, decide_eq_true_eq] at h ⊢
  exact ⟨Int32.le_trans (by decide) h.1, h.2⟩
