/-! ===== fill: what stays true ===== -/
theorem sumF_up1 {f : Nat → Int32} {k n : Nat} {x : Int32} (hk : k < n) (h0 : f k = 0) : sumF (fun j => if j = k then x else f j) n = sumF f n + x := by
  induction n with
  | zero => omega
  | succ n ih =>
    show sumF (fun j => if j = k then x else f j) n + (if n = k then x else f n) = sumF f n + f n + x
    by_cases e : n = k
    · subst e
      rw [if_pos rfl, h0, Int32.add_zero]
      congr 1
      exact sumF_ext n (fun j hj => if_neg (by omega))
    · rw [if_neg e, ih (by omega), Int32.add_assoc, Int32.add_assoc, Int32.add_comm x]
/-- what a house owes -/
def owG (F A N C : Nat → Int32) (h k : Nat) : Int32 := if F k = 0 ∨ ¬ A k = nI h then 0 else N k * C k
theorem owG_up {F A N C : Nat → Int32} {h k n w : Nat} (hk : k < n) (h0 : F k = 0) (hh : h < 4) (hw : w < 4) (hA : A k = nI w) : sumF (owG (upd F k 1) A N C h) n = if h = w then sumF (owG F A N C h) n + N k * C k else sumF (owG F A N C h) n := by
  have hz : owG F A N C h k = 0 := if_pos (Or.inl h0)
  by_cases e : h = w
  · subst e
    rw [if_pos rfl, ← sumF_up1 (x := N k * C k) hk hz]
    refine sumF_ext n (fun j hj => ?_)
    unfold owG
    by_cases ej : j = k
    · subst ej
      rw [if_pos rfl, if_neg]
      rw [upd_ap, if_pos rfl, hA]
      intro h1
      rcases h1 with h1 | h1
      · exact absurd h1 (by decide)
      · exact h1 rfl
    · rw [if_neg ej, upd_ap, if_neg ej]
  · rw [if_neg e]
    refine sumF_ext n (fun j hj => ?_)
    unfold owG
    by_cases ej : j = k
    · subst ej
      rw [if_pos (Or.inl h0), if_pos]
      right
      rw [hA, nI_eq (show w < 2 ^ 31 by omega) (show h < 2 ^ 31 by omega)]
      omega
    · rw [upd_ap, if_neg ej]
def FI (B : Nat) (M : AMem) (np no : Nat) (s : FS) : Prop :=
  (∀ i, i < np → s.1 i = mI M (B + 33) i ∨ ((∃ h, h < 4 ∧ s.1 i = nI h) ∧ mI M (B + 26) i = 115 ∧ pkW B M i (szN B M i) = 45)) ∧
  (∀ k, k < no → ∃ b, s.2.1 k = bi b) ∧ (∀ k, no ≤ k → s.2.1 k = mI M (B + 41) k) ∧
  (∀ h, h < 4 → s.2.2.1 h = sumF (owG s.2.1 (mI M (B + 37)) (mI M (B + 38)) (mI M (B + 39)) h) no)
theorem FI_0 {B s L : Nat} {M : AMem} {ns np no nl : Nat} {p q o : Nat → Nat} (h : INV B s L M ns np no nl p q o) : FI B M np no (mI M (B + 33), mI M (B + 41), mI M (B + 42), 0) := by
  refine ⟨fun i hi => Or.inl rfl, fun k hk => ?_, fun k hk => rfl, fun w hw => ?_⟩
  · obtain ⟨w, m, z, Kd, b, -, -, -, -, -, o4, o4'⟩ := iv_OD h hk
    exact ⟨b, o4'⟩
  · exact (iv_8 h).2 w hw
theorem FI_S {B s L : Nat} {M : AMem} {ns np no nl : Nat} {p q o : Nat → Nat} (h : INV B s L M ns np no nl p q o) {pr : Int32} {k : Nat} (hk : k < no) {S : FS} (hS : FI B M np no S) : FI B M np no (fiS (bsF B M) np (omN B M) (ohN B M) (mI M (B + 39)) pr k S) := by
  unfold fiS
  split
  · rename_i hc
    obtain ⟨c1, c2, c3⟩ := hc
    obtain ⟨f1, f2, f3, f4⟩ := hS
    obtain ⟨oh, om, z, Kd', b, ⟨b1, b2, b3, b4, b5, -⟩, ⟨o0, o0'⟩, -, ⟨o2, o2'⟩, ⟨o3, o3'⟩, -⟩ := iv_OD h hk
    have hom : omN B M k = om := by unfold omN; rw [o2', nI_clamp (show om < 2 ^ 31 by omega)]
    have hoh : ohN B M k = oh := by unfold ohN; rw [o0', nI_clamp (show oh < 2 ^ 31 by omega)]
    rw [hom] at c3 ⊢
    rw [hoh]
    refine ⟨fun i hi => ?_, fun j hj => ?_, fun j hj => ?_, fun w hw => ?_⟩
    · show hoF (bsF B M k) S.1 om (nI oh) np i = _ ∨ ((∃ h, h < 4 ∧ hoF (bsF B M k) S.1 om (nI oh) np i = nI h) ∧ _)
      unfold hoF
      split
      · rename_i hh
        obtain ⟨-, hh, -⟩ := hh
        unfold isF bsF at hh
        simp only [Bool.and_eq_true, decide_eq_true_eq] at hh
        exact Or.inr ⟨⟨oh, b1, rfl⟩, hh.1.1, hh.1.2.2⟩
      · exact f1 i hi
    · show ∃ b, upd S.2.1 k 1 j = bi b
      rw [upd_ap]
      split
      · exact ⟨true, rfl⟩
      · exact f2 j hj
    · show upd S.2.1 k 1 j = _
      rw [upd_ap, if_neg (by omega)]
      exact f3 j hj
    · show upd S.2.2.1 oh (S.2.2.1 oh + nI om * mI M (B + 39) k) w = sumF (owG (upd S.2.1 k 1) (mI M (B + 37)) (mI M (B + 38)) (mI M (B + 39)) w) no
      rw [owG_up hk c1 hw b1 o0', upd_ap]
      by_cases e : w = oh
      · rw [if_pos e, if_pos e, f4 oh b1, o2', e]
      · rw [if_neg e, if_neg e]
        exact f4 w hw
  · exact hS
theorem FI_R {B s L : Nat} {M : AMem} {ns np no nl : Nat} {p q o : Nat → Nat} (h : INV B s L M ns np no nl p q o) : ∀ a, FI B M np no (fiR B M np no a) := by
  intro a
  induction a with
  | zero => exact FI_0 h
  | succ a ih =>
    rw [fiR_S]
    have : ∀ j, j ≤ no → FI B M np no (fiI (bsF B M) np (omN B M) (ohN B M) (mI M (B + 39)) (nI (99 - a)) (fiR B M np no a) j) := by
      intro j
      induction j with
      | zero => exact fun _ => ih
      | succ j ihj => exact fun hj => FI_S h (by omega) (ihj (by omega))
    exact this no (Nat.le_refl no)
