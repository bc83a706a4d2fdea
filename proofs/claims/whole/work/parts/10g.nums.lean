/-! ===== numbers alone: how far off, how often, when a shuffle is back ===== -/
theorem nI_40s : ∀ n : Nat, n ≤ 80 → Int32.ofInt ((n : Int) - 40) = nI n - 40 := by decide +kernel
theorem in40 {x : Int32} (h : inR x (-40) 40 = true) : ∃ n, n ≤ 80 ∧ x = nI n - 40 := by
  simp only [inR, Bool.and_eq_true, decide_eq_true_eq, Int32.le_iff_toInt_le] at h
  have h1 : (-40 : Int) ≤ x.toInt := h.1
  have h2 : x.toInt ≤ (40 : Int) := h.2
  refine ⟨(x.toInt + 40).toNat, by omega, ?_⟩
  rw [← nI_40s _ (by omega), ← Int32.ofInt_toInt x]
  congr 1
  rw [Int32.ofInt_toInt]
  omega
def dst (n m : Nat) : Nat := if m ≤ n then n - m else m - n
theorem dst_ok : ∀ n, n ≤ 80 → ∀ m, m ≤ 80 → amt ((nI n - 40) - (nI m - 40)) = nI (dst n m) ∧ ab2 (nI n - 40) (nI m - 40) = nI (dst n m) := by decide +kernel
theorem dst_cm {n m : Nat} : dst n m = dst m n := by unfold dst; split <;> split <;> omega
theorem dst_0 {n : Nat} : dst n n = 0 := by unfold dst; split <;> omega
theorem nI_leN {a b : Nat} (ha : a < 2 ^ 31) (hb : b < 2 ^ 31) : (nI a ≤ nI b) = (a ≤ b) := by rw [nI_leI ha hb]
theorem nI_ltN {a b : Nat} (ha : a < 2 ^ 31) (hb : b < 2 ^ 31) : (nI a < nI b) = (a < b) := by
  rw [← Int32.not_le, nI_leI hb ha, Nat.not_le]
/-- greatest, as both find it -/
theorem offI_up {r u : Nat → Int32} {a : Nat} {d : Nat → Nat} (hd : ∀ k, k < 4 → apF r u a k = nI (d k) ∧ d k < 1000) : ∀ n, n ≤ 4 → ∀ g, g < 1000 → ∃ x, offI r u a (nI g) n = nI x ∧ x < 1000 ∧ ∀ b, x ≤ b ↔ g ≤ b ∧ ∀ k, k < n → d k ≤ b := by
  intro n
  induction n with
  | zero => intro _ g hg; exact ⟨g, rfl, hg, fun b => ⟨fun h => ⟨h, fun k hk => absurd hk (Nat.not_lt_zero k)⟩, fun h => h.1⟩⟩
  | succ n ih =>
    intro hn g hg
    obtain ⟨x, h1, h2, h3⟩ := ih (by omega) g hg
    obtain ⟨e1, e2⟩ := hd n (by omega)
    show ∃ x, (if apF r u a n ≤ offI r u a (nI g) n then offI r u a (nI g) n else apF r u a n) = nI x ∧ _
    rw [h1, e1]
    simp only [nI_leN (show d n < 2 ^ 31 by omega) (show x < 2 ^ 31 by omega)]
    have key : ∀ y b, (∀ b, y ≤ b ↔ x ≤ b ∧ d n ≤ b) → (y ≤ b ↔ g ≤ b ∧ ∀ k, k < n + 1 → d k ≤ b) := by
      intro y b hy
      rw [hy b, h3 b]
      exact ⟨fun h => ⟨h.1.1, fun k hk => by rcases Nat.lt_or_eq_of_le (Nat.le_of_lt_succ hk) with h4 | h4; exact h.1.2 k h4; rw [h4]; exact h.2⟩, fun h => ⟨⟨h.1, fun k hk => h.2 k (by omega)⟩, h.2 n (by omega)⟩⟩
    by_cases hc : d n ≤ x
    · exact ⟨x, by rw [if_pos hc], h2, fun b => key x b (fun b => by omega)⟩
    · exact ⟨d n, by rw [if_neg hc], e2, fun b => key (d n) b (fun b => by omega)⟩
theorem ocI_up {r u : Nat → Int32} {a : Nat} {d : Nat → Nat} (hd : ∀ k, k < 4 → acF r u a k = nI (d k) ∧ d k < 1000) : ∀ n, n ≤ 4 → ∀ g, g < 1000 → ∃ x, ocI r u a (nI g) n = nI x ∧ x < 1000 ∧ ∀ b, x ≤ b ↔ g ≤ b ∧ ∀ k, k < n → d k ≤ b := by
  intro n
  induction n with
  | zero => intro _ g hg; exact ⟨g, rfl, hg, fun b => ⟨fun h => ⟨h, fun k hk => absurd hk (Nat.not_lt_zero k)⟩, fun h => h.1⟩⟩
  | succ n ih =>
    intro hn g hg
    obtain ⟨x, h1, h2, h3⟩ := ih (by omega) g hg
    obtain ⟨e1, e2⟩ := hd n (by omega)
    show ∃ x, (if ocI r u a (nI g) n < acF r u a n then acF r u a n else ocI r u a (nI g) n) = nI x ∧ _
    rw [h1, e1]
    simp only [nI_ltN (show x < 2 ^ 31 by omega) (show d n < 2 ^ 31 by omega)]
    have key : ∀ y b, (∀ b, y ≤ b ↔ x ≤ b ∧ d n ≤ b) → (y ≤ b ↔ g ≤ b ∧ ∀ k, k < n + 1 → d k ≤ b) := by
      intro y b hy
      rw [hy b, h3 b]
      exact ⟨fun h => ⟨h.1.1, fun k hk => by rcases Nat.lt_or_eq_of_le (Nat.le_of_lt_succ hk) with h4 | h4; exact h.1.2 k h4; rw [h4]; exact h.2⟩, fun h => ⟨⟨h.1, fun k hk => h.2 k (by omega)⟩, h.2 n (by omega)⟩⟩
    by_cases hc : d n ≤ x
    · exact ⟨x, by rw [if_neg (by omega)], h2, fun b => key x b (fun b => by omega)⟩
    · exact ⟨d n, by rw [if_pos (by omega)], e2, fun b => key (d n) b (fun b => by omega)⟩
theorem offO_up {r u : Nat → Int32} {d : Nat → Nat → Nat} (hd : ∀ a, a < 4 → ∀ k, k < 4 → apF r u a k = nI (d a k) ∧ d a k < 1000) : ∀ n, n ≤ 4 → ∃ x, offO r u n = nI x ∧ x < 1000 ∧ ∀ b, x ≤ b ↔ ∀ a, a < n → ∀ k, k < 4 → d a k ≤ b := by
  intro n
  induction n with
  | zero => intro _; exact ⟨0, rfl, by decide, fun b => ⟨fun _ a ha => absurd ha (Nat.not_lt_zero a), fun _ => Nat.zero_le b⟩⟩
  | succ n ih =>
    intro hn
    obtain ⟨g, h1, h2, h3⟩ := ih (by omega)
    obtain ⟨x, e1, e2, e3⟩ := offI_up (hd n (by omega)) 4 (Nat.le_refl 4) g h2
    refine ⟨x, by show offI r u n (offO r u n) 4 = nI x; rw [h1, e1], e2, fun b => ?_⟩
    rw [e3 b, h3 b]
    exact ⟨fun h a ha k hk => by rcases Nat.lt_or_eq_of_le (Nat.le_of_lt_succ ha) with h4 | h4; exact h.1 a h4 k hk; rw [h4]; exact h.2 k hk, fun h => ⟨fun a ha k hk => h a (by omega) k hk, fun k hk => h n (by omega) k hk⟩⟩
theorem ocO_up {r u : Nat → Int32} {d : Nat → Nat → Nat} (hd : ∀ a, a < 4 → ∀ k, k < 4 → acF r u a k = nI (d a k) ∧ d a k < 1000) : ∀ n, n ≤ 4 → ∃ x, ocO r u n = nI x ∧ x < 1000 ∧ ∀ b, x ≤ b ↔ ∀ a, a < n → ∀ k, k < a → d a k ≤ b := by
  intro n
  induction n with
  | zero => intro _; exact ⟨0, rfl, by decide, fun b => ⟨fun _ a ha => absurd ha (Nat.not_lt_zero a), fun _ => Nat.zero_le b⟩⟩
  | succ n ih =>
    intro hn
    obtain ⟨g, h1, h2, h3⟩ := ih (by omega)
    obtain ⟨x, e1, e2, e3⟩ := ocI_up (hd n (by omega)) n (by omega) g h2
    refine ⟨x, by show ocI r u n (ocO r u n) n = nI x; rw [h1, e1], e2, fun b => ?_⟩
    rw [e3 b, h3 b]
    exact ⟨fun h a ha k hk => by rcases Nat.lt_or_eq_of_le (Nat.le_of_lt_succ ha) with h4 | h4; exact h.1 a h4 k hk; rw [h4] at hk ⊢; exact h.2 k hk, fun h => ⟨fun a ha k hk => h a (by omega) k hk, fun k hk => h n (by omega) k hk⟩⟩
theorem off_oc {r u : Nat → Int32} (hr : ∀ k, k < 4 → inR (r k) (-40) 40 = true) (hu : ∀ k, k < 4 → inR (u k) (-40) 40 = true) : ocO r u 4 = offO r u 4 := by
  have e : ∃ R U : Nat → Nat, ∀ k, k < 4 → (R k ≤ 80 ∧ r k = nI (R k) - 40) ∧ (U k ≤ 80 ∧ u k = nI (U k) - 40) := by
    refine ⟨fun k => (r k + 40).toNatClampNeg, fun k => (u k + 40).toNatClampNeg, fun k hk => ?_⟩
    obtain ⟨n, hn, e1⟩ := in40 (hr k hk)
    obtain ⟨m, hm, e2⟩ := in40 (hu k hk)
    have c : ∀ n, n ≤ 80 → (nI n - 40 + 40 : Int32).toNatClampNeg = n := by decide +kernel
    simp only [e1, e2, c n hn, c m hm]
    exact ⟨⟨hn, trivial⟩, hm, trivial⟩
  obtain ⟨R, U, e⟩ := e
  have h1 : ∀ a, a < 4 → ∀ k, k < 4 → apF r u a k = nI (dst (R a) (R k) + dst (U a) (U k)) ∧ dst (R a) (R k) + dst (U a) (U k) < 1000 := by
    intro a ha k hk
    obtain ⟨⟨a1, a2⟩, a3, a4⟩ := e a ha
    obtain ⟨⟨b1, b2⟩, b3, b4⟩ := e k hk
    refine ⟨?_, by unfold dst; split <;> split <;> omega⟩
    unfold apF
    rw [a2, a4, b2, b4, (dst_ok _ a1 _ b1).1, (dst_ok _ a3 _ b3).1, nI_add]
  have h2 : ∀ a, a < 4 → ∀ k, k < 4 → acF r u a k = nI (dst (R a) (R k) + dst (U a) (U k)) ∧ dst (R a) (R k) + dst (U a) (U k) < 1000 := by
    intro a ha k hk
    obtain ⟨⟨a1, a2⟩, a3, a4⟩ := e a ha
    obtain ⟨⟨b1, b2⟩, b3, b4⟩ := e k hk
    refine ⟨?_, by unfold dst; split <;> split <;> omega⟩
    unfold acF
    rw [a2, a4, b2, b4, (dst_ok _ a1 _ b1).2, (dst_ok _ a3 _ b3).2, nI_add]
  obtain ⟨x, x1, x2, x3⟩ := offO_up (d := fun a k => dst (R a) (R k) + dst (U a) (U k)) h1 4 (Nat.le_refl 4)
  obtain ⟨y, y1, y2, y3⟩ := ocO_up (d := fun a k => dst (R a) (R k) + dst (U a) (U k)) h2 4 (Nat.le_refl 4)
  have : x = y := by
    refine Nat.le_antisymm ((x3 y).mpr fun a ha k hk => ?_) ((y3 x).mpr fun a ha k hk => (x3 x).mp (Nat.le_refl x) a ha k (by omega))
    rcases Nat.lt_trichotomy k a with h | h | h
    · exact (y3 y).mp (Nat.le_refl y) a ha k h
    · subst h
      show dst (R k) (R k) + dst (U k) (U k) ≤ y
      rw [dst_0, dst_0]
      omega
    · have := (y3 y).mp (Nat.le_refl y) k hk a h
      show dst (R a) (R k) + dst (U a) (U k) ≤ y
      rw [dst_cm, @dst_cm (U a)]
      exact this
  rw [x1, y1, this]
/-- a knife's way -/
theorem kn_abs {x : Int32} : (if 0 ≤ x then x else 0 - x) = amt x := by
  unfold amt
  by_cases h : x < 0
  · rw [if_pos h, if_neg (Int32.not_le.mpr h), Int32.zero_sub]
  · rw [if_neg h, if_pos (Int32.not_lt.mp h)]
theorem nI_20s : ∀ n : Nat, n ≤ 40 → Int32.ofInt ((n : Int) - 20) = nI n - 20 := by decide +kernel
theorem in20 {x : Int32} (h : inR x (-20) 20 = true) : ∃ n, n ≤ 40 ∧ x = nI n - 20 := by
  simp only [inR, Bool.and_eq_true, decide_eq_true_eq, Int32.le_iff_toInt_le] at h
  have h1 : (-20 : Int) ≤ x.toInt := h.1
  have h2 : x.toInt ≤ (20 : Int) := h.2
  refine ⟨(x.toInt + 20).toNat, by omega, ?_⟩
  rw [← nI_20s _ (by omega), ← Int32.ofInt_toInt x]
  congr 1
  rw [Int32.ofInt_toInt]
  omega
theorem kn_4n : ∀ n, n ≤ 40 → decide (4 < amt (nI n - 20)) = !inR (nI n - 20) (-4) 4 := by decide +kernel
theorem kn_4 {x : Int32} (h : inR x (-20) 20 = true) : decide (4 < amt x) = !inR x (-4) 4 := by
  obtain ⟨n, hn, rfl⟩ := in20 h
  exact kn_4n n hn
/-- how often, after a place has changed -/
theorem cnt_hi {P P' : Nat → Int32} {c : Nat} : ∀ n, (∀ k, k < n → P k = P' k) → cnt P c n = cnt P' c n := by
  intro n
  induction n with
  | zero => intro _; rfl
  | succ n ih => intro h; show cnt P c n + _ = cnt P' c n + _; rw [ih (fun k hk => h k (by omega)), h n (by omega)]
theorem cnt_m1 {P : Nat → Int32} {c n m : Nat} (hc : c < 54) (hnm : n ≤ m) (h : ∀ k, n ≤ k → k < m → P k = -1) : cnt P c m = cnt P c n := by
  induction m with
  | zero => rw [Nat.le_zero.mp hnm]
  | succ m ih =>
    by_cases e : n = m + 1
    · rw [e]
    · show cnt P c m + _ = _
      rw [ih (by omega) (fun k h1 h2 => h k h1 (by omega)), h m (by omega) (by omega), if_neg (fun e => nI_nm1 hc e.symm)]
      rfl
theorem cnt_upd {P : Nat → Int32} {x : Int32} {c k : Nat} : ∀ n, k < n → cnt (upd P k x) c n + (if P k = nI c then 1 else 0) = cnt P c n + (if x = nI c then 1 else 0) := by
  intro n
  induction n with
  | zero => intro h; exact absurd h (Nat.not_lt_zero k)
  | succ n ih =>
    intro h
    show cnt (upd P k x) c n + (if upd P k x n = nI c then 1 else 0) + _ = cnt P c n + (if P n = nI c then 1 else 0) + _
    by_cases e : k = n
    · subst e
      have e1 : cnt (upd P k x) c k = cnt P c k := cnt_hi k (fun j hj => by rw [upd_ap, if_neg (by omega)])
      rw [e1, upd_ap, if_pos rfl]
      omega
    · have e1 := ih (by omega)
      rw [show upd P k x n = P n by rw [upd_ap, if_neg (fun h => e h.symm)]]
      omega
theorem nI_pred1 {n : Nat} (h : 0 < n) : nI n - 1 = nI (n - 1) := by
  conv => lhs; rw [show n = (n - 1) + 1 by omega]
  rw [nI_pred]
theorem tm_cnt {P T : Nat → Int32} {x : Int32} {k c : Nat} (hk : k < 54) (hT : ∀ c, c < 54 → T c = nI (cnt P c 54)) (hb : isCN (P k)) (hx : isCN x) (hc : c < 54) : tmF T (P k) x c = nI (cnt (upd P k x) c 54) := by
  have e := @cnt_upd P x c k 54 hk
  have e9 := @cnt_upd P (-1) c k 54 hk
  have hle := @cnt_le P c 54
  have clm : ∀ d, d < 54 → (nI d).toNatClampNeg = d := fun d hd => nI_clamp (by omega)
  have hm : ((-1 : Int32) = nI c) = False := eq_false (fun e => nI_nm1 hc e.symm)
  have hT1 : (if P k = -1 then T else upd T (P k).toNatClampNeg (T (P k).toNatClampNeg - 1)) c = nI (cnt P c 54 - (if P k = nI c then 1 else 0)) := by
    rcases hb with hb | ⟨d, hd, hb⟩
    · rw [if_pos hb, hT c hc, hb]
      simp only [hm, if_false]
      rfl
    · rw [hb] at e9 ⊢
      rw [if_neg (nI_nm1 hd), clm d hd, upd_ap]
      simp only [nIeq (show d < 2 ^ 31 by omega) (show c < 2 ^ 31 by omega), hm, if_false] at e9 ⊢
      by_cases hdc : c = d
      · subst hdc
        rw [if_pos rfl] at e9
        rw [if_pos rfl, if_pos rfl, hT c hc]
        exact nI_pred1 (by omega)
      · rw [if_neg hdc, if_neg (fun e => hdc e.symm), hT c hc]
        rfl
  simp only [hm, if_false] at e9
  unfold tmF
  generalize (if P k = -1 then T else upd T (P k).toNatClampNeg (T (P k).toNatClampNeg - 1)) = T1 at hT1
  generalize (if P k = nI c then 1 else 0) = bP at hT1 e e9
  rcases hx with hx | ⟨d, hd, hx⟩
  · subst hx
    simp only [hm, if_false] at e
    show (if (-1 : Int32) = -1 then T1 else _) c = _
    rw [if_pos rfl, hT1]
    congr 1
    omega
  · subst hx
    simp only [nIeq (show d < 2 ^ 31 by omega) (show c < 2 ^ 31 by omega)] at e
    show (if nI d = -1 then T1 else upd T1 (nI d).toNatClampNeg (T1 (nI d).toNatClampNeg + 1)) c = _
    rw [if_neg (nI_nm1 hd), clm d hd, upd_ap]
    by_cases hdc : c = d
    · subst hdc
      rw [if_pos rfl] at e
      rw [if_pos rfl, hT1, nI_1]
      congr 1
      omega
    · rw [if_neg (fun e => hdc e.symm)] at e
      rw [if_neg hdc, hT1]
      congr 1
      omega
