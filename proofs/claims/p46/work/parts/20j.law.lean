/-! ===== the law: the least, the first, how many of a kind ===== -/
theorem kd102 {n : Int32} : kdOf 102 n = decide (n < 52) := by
  unfold kdOf
  rw [show decide ((102 : Int32) = 106) = false by decide, show decide ((102 : Int32) = 102) = true by decide, Bool.false_or, Bool.true_or, Bool.and_true]
theorem kd106 {n : Int32} : kdOf 106 n = true := by
  unfold kdOf
  rw [show decide ((106 : Int32) = 106) = true by decide, Bool.true_or]
theorem kd115 {n : Int32} : kdOf 115 n = (decide (n < 52) && decide (5 ≤ n - n / 13 * 13)) := by
  unfold kdOf
  rw [show decide ((115 : Int32) = 106) = false by decide, show decide ((115 : Int32) = 102) = false by decide, Bool.false_or, Bool.false_or]
def MnF (f : Nat → Int32) (K v : Int32) : Prop := v ≤ 9999 ∧ (∀ c, c < 54 → kdOf K (nI c) = true → v ≤ f c) ∧ (v = 9999 ∨ ∃ c, c < 54 ∧ kdOf K (nI c) = true ∧ f c = v)
theorem MnF_eq {f : Nat → Int32} {K v w : Int32} (h : MnF f K v) (h' : MnF f K w) : v = w := by
  have key : ∀ {v w : Int32}, MnF f K v → MnF f K w → v ≤ w := fun {v w} h h' => by
    rcases h'.2.2 with e | ⟨c, hc, hk, e⟩
    · rw [e]; exact h.1
    · rw [← e]; exact h.2.1 c hc hk
  exact Int32.le_antisymm (key h h') (key h' h)
theorem poF_mn {f : Nat → Int32} {K : Int32} : ∀ n, poF f K n ≤ 9999 ∧ (∀ c, c < n → kdOf K (nI c) = true → poF f K n ≤ f c) ∧ (poF f K n = 9999 ∨ ∃ c, c < n ∧ kdOf K (nI c) = true ∧ f c = poF f K n) := by
  intro n
  induction n with
  | zero => exact ⟨Int32.le_refl _, fun c hc => absurd hc (Nat.not_lt_zero c), Or.inl rfl⟩
  | succ n ih =>
    obtain ⟨h1, h2, h3⟩ := ih
    have e : poF f K (n + 1) = if kdOf K (nI n) = true then (if f n < poF f K n then f n else poF f K n) else poF f K n := rfl
    rw [e]
    have h3' : poF f K n = 9999 ∨ ∃ c, c < n + 1 ∧ kdOf K (nI c) = true ∧ f c = poF f K n := by
      rcases h3 with a | ⟨c, hc, hk, a⟩
      · exact Or.inl a
      · exact Or.inr ⟨c, by omega, hk, a⟩
    by_cases hk : kdOf K (nI n) = true
    · rw [if_pos hk]
      by_cases hl : f n < poF f K n
      · rw [if_pos hl]
        refine ⟨Int32.le_trans (Int32.le_of_lt hl) h1, fun c hc hc2 => ?_, Or.inr ⟨n, Nat.lt_succ_self n, hk, rfl⟩⟩
        by_cases e2 : c = n
        · rw [e2]; exact Int32.le_refl _
        · exact Int32.le_trans (Int32.le_of_lt hl) (h2 c (by omega) hc2)
      · rw [if_neg hl]
        refine ⟨h1, fun c hc hc2 => ?_, h3'⟩
        by_cases e2 : c = n
        · rw [e2]; exact Int32.not_lt.mp hl
        · exact h2 c (by omega) hc2
    · rw [if_neg hk]
      refine ⟨h1, fun c hc hc2 => ?_, h3'⟩
      by_cases e2 : c = n
      · rw [e2] at hc2; exact absurd hc2 hk
      · exact h2 c (by omega) hc2
/-- the least, seen from above -/
def loF (f : Nat → Int32) (K : Int32) : Nat → Int32
  | 0 => 9999
  | j + 1 => if kdOf K (nI (53 - j)) = true then (if f (53 - j) < loF f K j then f (53 - j) else loF f K j) else loF f K j
theorem loF_mn {f : Nat → Int32} {K : Int32} : ∀ n, n ≤ 54 → loF f K n ≤ 9999 ∧ (∀ c, 54 - n ≤ c → c < 54 → kdOf K (nI c) = true → loF f K n ≤ f c) ∧ (loF f K n = 9999 ∨ ∃ c, c < 54 ∧ kdOf K (nI c) = true ∧ f c = loF f K n) := by
  intro n
  induction n with
  | zero => exact fun _ => ⟨Int32.le_refl _, fun c hc hc2 => by omega, Or.inl rfl⟩
  | succ n ih =>
    intro hn
    obtain ⟨h1, h2, h3⟩ := ih (by omega)
    have e : loF f K (n + 1) = if kdOf K (nI (53 - n)) = true then (if f (53 - n) < loF f K n then f (53 - n) else loF f K n) else loF f K n := rfl
    rw [e]
    by_cases hk : kdOf K (nI (53 - n)) = true
    · rw [if_pos hk]
      by_cases hl : f (53 - n) < loF f K n
      · rw [if_pos hl]
        refine ⟨Int32.le_trans (Int32.le_of_lt hl) h1, fun c hc hc2 hc3 => ?_, Or.inr ⟨53 - n, by omega, hk, rfl⟩⟩
        by_cases e2 : c = 53 - n
        · rw [e2]; exact Int32.le_refl _
        · exact Int32.le_trans (Int32.le_of_lt hl) (h2 c (by omega) hc2 hc3)
      · rw [if_neg hl]
        refine ⟨h1, fun c hc hc2 hc3 => ?_, h3⟩
        by_cases e2 : c = 53 - n
        · rw [e2]; exact Int32.not_lt.mp hl
        · exact h2 c (by omega) hc2 hc3
    · rw [if_neg hk]
      refine ⟨h1, fun c hc hc2 hc3 => ?_, h3⟩
      by_cases e2 : c = 53 - n
      · rw [e2] at hc3; exact absurd hc3 hk
      · exact h2 c (by omega) hc2 hc3
theorem po_mn {f : Nat → Int32} {K : Int32} : MnF f K (poF f K 54) := poF_mn 54
theorem lo_po {f : Nat → Int32} {K : Int32} : loF f K 54 = poF f K 54 := by
  obtain ⟨h1, h2, h3⟩ := @loF_mn f K 54 (Nat.le_refl _)
  exact MnF_eq ⟨h1, fun c hc hk => h2 c (by omega) hc hk, h3⟩ po_mn
def fiF (f : Nat → Int32) (K : Int32) : Nat → Int32
  | 0 => -900002
  | j + 1 => if lakF f K (53 - j) = true then nI (53 - j) else fiF f K j
theorem fi_dn {f : Nat → Int32} {K : Int32} : ∀ n, n ≤ 54 → fiF f K n = if dnF (lakF f K) n = -1 then -900002 else dnF (lakF f K) n := by
  intro n
  induction n with
  | zero => exact fun _ => rfl
  | succ n ih =>
    intro hn
    have e1 : fiF f K (n + 1) = if lakF f K (53 - n) = true then nI (53 - n) else fiF f K n := rfl
    have e2 : dnF (lakF f K) (n + 1) = if lakF f K (53 - n) = true then nI (53 - n) else dnF (lakF f K) n := rfl
    rw [e1, e2]
    by_cases h : lakF f K (53 - n) = true
    · rw [if_pos h, if_pos h, if_neg (nI_nm1 (by omega))]
    · rw [if_neg h, if_neg h]
      exact ih (by omega)
def cnF (K : Int32) : Nat → Int32
  | 0 => 0
  | j + 1 => cnF K j + bi (kdOf K (nI (53 - j)))
theorem cn_kc {K : Int32} (hK : kdF K = true) : cnF K 54 = nI (kcF K 54) := by
  rcases kdF_cases hK with h | h | h <;> subst h <;> decide +kernel
theorem dn_iff {ok : Nat → Bool} : ∀ n, n ≤ 54 → (dnF ok n = -1 ↔ ∀ c, 54 - n ≤ c → c < 54 → ok c = false) := by
  intro n
  induction n with
  | zero => exact fun _ => ⟨fun _ c h1 h2 => by omega, fun _ => rfl⟩
  | succ n ih =>
    intro hn
    have e2 : dnF ok (n + 1) = if ok (53 - n) = true then nI (53 - n) else dnF ok n := rfl
    rw [e2]
    by_cases h : ok (53 - n) = true
    · rw [if_pos h]
      refine ⟨fun e => absurd e (nI_nm1 (by omega)), fun e => ?_⟩
      rw [e (53 - n) (by omega) (by omega)] at h
      cases h
    · rw [if_neg h, ih (by omega)]
      refine ⟨fun e c h1 h2 => ?_, fun e c h1 h2 => e c (by omega) h2⟩
      by_cases e2 : c = 53 - n
      · rw [e2]; exact nt h
      · exact e c (by omega) h2
theorem kd5 {K : Int32} (hK : kdF K = true) : kdOf K (nI 5) = true := by
  rcases kdF_cases hK with h | h | h <;> subst h <;> decide
theorem po_nat {f : Nat → Int32} {K : Int32} (hB : ∀ c, c < 54 → ∃ x, f c = nI x ∧ x ≤ 9999) : ∃ z, z ≤ 9999 ∧ poF f K 54 = nI z := by
  rcases (@po_mn f K).2.2 with e | ⟨c, hc, hk, e⟩
  · exact ⟨9999, Nat.le_refl _, e⟩
  · obtain ⟨x, hx, hx2⟩ := hB c hc
    exact ⟨x, hx2, by rw [← e, hx]⟩
theorem po_zero {f : Nat → Int32} {K : Int32} (hB : ∀ c, c < 54 → ∃ x, f c = nI x ∧ x ≤ 9999) : poF f K 54 = 0 ↔ ¬ dnF (lakF f K) 54 = -1 := by
  rw [dn_iff 54 (Nat.le_refl _)]
  obtain ⟨m1, m2, m3⟩ := @po_mn f K
  constructor
  · intro e h
    rw [e] at m3
    rcases m3 with m3 | ⟨c, hc, hk, e2⟩
    · exact absurd m3 (by decide)
    · have := h c (by omega) hc
      unfold lakF at this
      rw [hk, e2, decide_eq_true rfl] at this
      cases this
  · intro h
    have h9 : ∃ c, c < 54 ∧ lakF f K c = true := by
      refine Classical.byContradiction fun h9 => h fun c _ hc => nt fun h10 => h9 ⟨c, hc, h10⟩
    obtain ⟨c, hc, h10⟩ := h9
    unfold lakF at h10
    rw [Bool.and_eq_true, decide_eq_true_eq] at h10
    have h11 := m2 c hc h10.1
    rw [h10.2] at h11
    obtain ⟨z, hz, e⟩ := @po_nat f K hB
    rw [e] at h11 ⊢
    have : nI z ≤ nI 0 := h11
    rw [nI_leN (by omega) (by omega)] at this
    rw [eq0 (by omega)]
    omega
theorem gi_at {f : Nat → Int32} {K : Int32} {c : Nat} (hc : c < 54) (hk : kdOf K (nI c) = true) : giF f K 54 c = f c - 1 := if_pos ⟨hc, hk⟩
theorem po_gi {f : Nat → Int32} {K : Int32} (hK : kdF K = true) (hB : ∀ c, c < 54 → ∃ x, f c = nI x ∧ x ≤ 9999) (hz : ¬ poF f K 54 = 0) : poF (giF f K 54) K 54 = poF f K 54 - 1 := by
  obtain ⟨z, hz9, e⟩ := @po_nat f K hB
  obtain ⟨m1, m2, m3⟩ := @po_mn f K
  have hz1 : 0 < z := by
    rcases Nat.eq_zero_or_pos z with h | h
    · rw [e, h] at hz; exact absurd rfl hz
    · exact h
  have hm : ∀ c, c < 54 → kdOf K (nI c) = true → ∃ x, f c = nI x ∧ x ≤ 9999 ∧ z ≤ x := fun c hc hk => by
    obtain ⟨x, hx, hx2⟩ := hB c hc
    have := m2 c hc hk
    rw [e, hx, nI_leN (by omega) (by omega)] at this
    exact ⟨x, hx, hx2, this⟩
  have e2 : poF f K 54 - 1 = nI (z - 1) := by rw [e, nI_pred1 hz1]
  rw [e2]
  refine MnF_eq po_mn ⟨?_, fun c hc hk => ?_, ?_⟩
  · show nI (z - 1) ≤ nI 9999
    rw [nI_leN (by omega) (by omega)]
    omega
  · obtain ⟨x, hx, hx2, hx3⟩ := hm c hc hk
    rw [gi_at hc hk, hx, nI_pred1 (by omega), nI_leN (by omega) (by omega)]
    omega
  · rcases m3 with m3 | ⟨c, hc, hk, e3⟩
    · obtain ⟨x, hx, hx2, hx3⟩ := hm 5 (by decide) (kd5 hK)
      have hz99 : z = 9999 := by
        have h1 : nI z ≤ nI 9999 := by rw [← e, m3]; exact Int32.le_refl _
        have h2 : nI 9999 ≤ nI z := by rw [← e, m3]; exact Int32.le_refl _
        rw [nI_leN (by omega) (by omega)] at h1 h2
        omega
      exact Or.inr ⟨5, by decide, kd5 hK, by rw [gi_at (by decide) (kd5 hK), hx, nI_pred1 (by omega), show x = z by omega]⟩
    · exact Or.inr ⟨c, hc, hk, by rw [gi_at hc hk, e3, e2]⟩
theorem dec53 : ∀ j, j < 54 → 53 - nI j = nI (53 - j) ∧ nI (53 - j) + -1 = 53 - nI (j + 1) := by decide +kernel
