def amt (n : Int32) : Int32 := if n < 0 then -n else n
theorem upd_upd {f : Nat → Int32} {k : Nat} {x y : Int32} : upd (upd f k x) k y = upd f k y := by
  funext j
  simp only [upd_ap]
  split <;> rfl
/-- how far two passes are apart -/
def apF (r u : Nat → Int32) (a b : Nat) : Int32 := amt (r a - r b) + amt (u a - u b)
def offI (r u : Nat → Int32) (a : Nat) (g : Int32) : Nat → Int32
  | 0 => g
  | k + 1 => if apF r u a k ≤ offI r u a g k then offI r u a g k else apF r u a k
def offO (r u : Nat → Int32) : Nat → Int32
  | 0 => 0
  | k + 1 => offI r u k (offO r u k) 4
theorem cnt_le {P : Nat → Int32} {c n : Nat} : cnt P c n ≤ n := by
  induction n with
  | zero => exact Nat.le_refl 0
  | succ n ih =>
    unfold cnt
    split <;> omega
def kcF (K : Int32) : Nat → Nat := ctF (fun c => kdOf K (nI c))
def coF (f : Nat → Int32) (o : Nat) (K : Int32) : Nat → Nat → Int32
  | 0 => f
  | k + 1 => if kdOf K (nI k) = true then upd (coF f o K k) (o + kcF K k) (nI k) else coF f o K k
theorem coF_0 {f : Nat → Int32} {o : Nat} {K : Int32} : coF f o K 0 = f := rfl
theorem kcF_0 {K : Int32} : kcF K 0 = 0 := rfl
theorem kcF_le {K : Int32} {k : Nat} : kcF K k ≤ k := ctF_le
theorem kcF_S {K : Int32} {k : Nat} (hk : kdOf K (nI k) = true) : kcF K (k + 1) = kcF K k + 1 := by
  show kcF K k + (if kdOf K (nI k) = true then 1 else 0) = _
  rw [if_pos hk]
theorem kcF_N {K : Int32} {k : Nat} (hk : kdOf K (nI k) = false) : kcF K (k + 1) = kcF K k := by
  show kcF K k + (if kdOf K (nI k) = true then 1 else 0) = _
  rw [if_neg (by rw [hk]; decide)]
  rfl
theorem coF_S {f : Nat → Int32} {o : Nat} {K : Int32} {k : Nat} (hk : kdOf K (nI k) = true) : coF f o K (k + 1) = upd (coF f o K k) (o + kcF K k) (nI k) := if_pos hk
theorem coF_N {f : Nat → Int32} {o : Nat} {K : Int32} {k : Nat} (hk : kdOf K (nI k) = false) : coF f o K (k + 1) = coF f o K k := if_neg (by rw [hk]; decide)
theorem SH_stI {p a : Nat} {M : AMem} {f : Nat → Int32} : SH (stI M a f) p = SH M p := rfl
theorem PK_stI {p a : Nat} {M : AMem} {f : Nat → Int32} : PK (stI M a f) p = PK M p := rfl
theorem nI_40s : ∀ n : Nat, n ≤ 80 → Int32.ofInt ((n : Int) - 40) = nI n - 40 := by decide +kernel
theorem in40 {x : Int32} (h : inR x (-40) 40 = true) : ∃ n, n ≤ 80 ∧ x = nI n - 40 := by
  simp only [inR, Bool.and_eq_true, decide_eq_true_eq, Int32.le_iff_toInt_le] at h
  have h1 : (-40 : Int) ≤ x.toInt := h.1
  have h2 : x.toInt ≤ (40 : Int) := h.2
  refine ⟨(x.toInt + 40).toNat, by omega, ?_⟩
  rw [← nI_40s _ (by omega), ← Int32.ofInt_toInt x]
  congr 1
  rw [Int32.ofInt_toInt]
  omega
def dst (n m : Nat) : Nat := if m ≤ n then n - m else m - n
theorem dst_ok : ∀ n, n ≤ 80 → ∀ m, m ≤ 80 → amt ((nI n - 40) - (nI m - 40)) = nI (dst n m) ∧ ab2 (nI n - 40) (nI m - 40) = nI (dst n m) := by decide +kernel
theorem dst_cm {n m : Nat} : dst n m = dst m n := by unfold dst; split <;> split <;> omega
theorem dst_0 {n : Nat} : dst n n = 0 := by unfold dst; split <;> omega
theorem nI_leN {a b : Nat} (ha : a < 2 ^ 31) (hb : b < 2 ^ 31) : (nI a ≤ nI b) = (a ≤ b) := by rw [nI_leI ha hb]
theorem nI_ltN {a b : Nat} (ha : a < 2 ^ 31) (hb : b < 2 ^ 31) : (nI a < nI b) = (a < b) := by
  rw [← Int32.not_le, nI_leI hb ha, Nat.not_le]
/-- greatest, as both find it -/
theorem offI_up {r u : Nat → Int32} {a : Nat} {d : Nat → Nat} (hd : ∀ k, k < 4 → apF r u a k = nI (d k) ∧ d k < 1000) : ∀ n, n ≤ 4 → ∀ g, g < 1000 → ∃ x, offI r u a (nI g) n = nI x ∧ x < 1000 ∧ ∀ b, x ≤ b ↔ g ≤ b ∧ ∀ k, k < n → d k ≤ b := by
  intro n
  induction n with
  | zero => intro _ g hg; exact ⟨g, rfl, hg, fun b => ⟨fun h => ⟨h, fun k hk => absurd hk (Nat.not_lt_zero k)⟩, fun h => h.1⟩⟩
  | succ n ih =>
    intro hn g hg
    obtain ⟨x, h1, h2, h3⟩ := ih (by omega) g hg
    obtain ⟨e1, e2⟩ := hd n (by omega)
    show ∃ x, (if apF r u a n ≤ offI r u a (nI g) n then offI r u a (nI g) n else apF r u a n) = nI x ∧ _
    rw [h1, e1]
    simp only [nI_leN (show d n < 2 ^ 31 by omega) (show x < 2 ^ 31 by omega)]
    have key : ∀ y b, (∀ b, y ≤ b ↔ x ≤ b ∧ d n ≤ b) → (y ≤ b ↔ g ≤ b ∧ ∀ k, k < n + 1 → d k ≤ b) := by
      intro y b hy
      rw [hy b, h3 b]
      exact ⟨fun h => ⟨h.1.1, fun k hk => by rcases Nat.lt_or_eq_of_le (Nat.le_of_lt_succ hk) with h4 | h4; exact h.1.2 k h4; rw [h4]; exact h.2⟩, fun h => ⟨⟨h.1, fun k hk => h.2 k (by omega)⟩, h.2 n (by omega)⟩⟩
    by_cases hc : d n ≤ x
    · exact ⟨x, by rw [if_pos hc], h2, fun b => key x b (fun b => by omega)⟩
    · exact ⟨d n, by rw [if_neg hc], e2, fun b => key (d n) b (fun b => by omega)⟩
theorem ocI_up {r u : Nat → Int32} {a : Nat} {d : Nat → Nat} (hd : ∀ k, k < 4 → acF r u a k = nI (d k) ∧ d k < 1000) : ∀ n, n ≤ 4 → ∀ g, g < 1000 → ∃ x, ocI r u a (nI g) n = nI x ∧ x < 1000 ∧ ∀ b, x ≤ b ↔ g ≤ b ∧ ∀ k, k < n → d k ≤ b := by
  intro n
  induction n with
  | zero => intro _ g hg; exact ⟨g, rfl, hg, fun b => ⟨fun h => ⟨h, fun k hk => absurd hk (Nat.not_lt_zero k)⟩, fun h => h.1⟩⟩
  | succ n ih =>
    intro hn g hg
    obtain ⟨x, h1, h2, h3⟩ := ih (by omega) g hg
    obtain ⟨e1, e2⟩ := hd n (by omega)
    show ∃ x, (if ocI r u a (nI g) n < acF r u a n then acF r u a n else ocI r u a (nI g) n) = nI x ∧ _
    rw [h1, e1]
    simp only [nI_ltN (show x < 2 ^ 31 by omega) (show d n < 2 ^ 31 by omega)]
    have key : ∀ y b, (∀ b, y ≤ b ↔ x ≤ b ∧ d n ≤ b) → (y ≤ b ↔ g ≤ b ∧ ∀ k, k < n + 1 → d k ≤ b) := by
      intro y b hy
      rw [hy b, h3 b]
      exact ⟨fun h => ⟨h.1.1, fun k hk => by rcases Nat.lt_or_eq_of_le (Nat.le_of_lt_succ hk) with h4 | h4; exact h.1.2 k h4; rw [h4]; exact h.2⟩, fun h => ⟨⟨h.1, fun k hk => h.2 k (by omega)⟩, h.2 n (by omega)⟩⟩
    by_cases hc : d n ≤ x
    · exact ⟨x, by rw [if_neg (by omega)], h2, fun b => key x b (fun b => by omega)⟩
    · exact ⟨d n, by rw [if_pos (by omega)], e2, fun b => key (d n) b (fun b => by omega)⟩
theorem offO_up {r u : Nat → Int32} {d : Nat → Nat → Nat} (hd : ∀ a, a < 4 → ∀ k, k < 4 → apF r u a k = nI (d a k) ∧ d a k < 1000) : ∀ n, n ≤ 4 → ∃ x, offO r u n = nI x ∧ x < 1000 ∧ ∀ b, x ≤ b ↔ ∀ a, a < n → ∀ k, k < 4 → d a k ≤ b := by
  intro n
  induction n with
  | zero => intro _; exact ⟨0, rfl, by decide, fun b => ⟨fun _ a ha => absurd ha (Nat.not_lt_zero a), fun _ => Nat.zero_le b⟩⟩
  | succ n ih =>
    intro hn
    obtain ⟨g, h1, h2, h3⟩ := ih (by omega)
    obtain ⟨x, e1, e2, e3⟩ := offI_up (hd n (by omega)) 4 (Nat.le_refl 4) g h2
    refine ⟨x, by show offI r u n (offO r u n) 4 = nI x; rw [h1, e1], e2, fun b => ?_⟩
    rw [e3 b, h3 b]
    exact ⟨fun h a ha k hk => by rcases Nat.lt_or_eq_of_le (Nat.le_of_lt_succ ha) with h4 | h4; exact h.1 a h4 k hk; rw [h4]; exact h.2 k hk, fun h => ⟨fun a ha k hk => h a (by omega) k hk, fun k hk => h n (by omega) k hk⟩⟩
theorem ocO_up {r u : Nat → Int32} {d : Nat → Nat → Nat} (hd : ∀ a, a < 4 → ∀ k, k < 4 → acF r u a k = nI (d a k) ∧ d a k < 1000) : ∀ n, n ≤ 4 → ∃ x, ocO r u n = nI x ∧ x < 1000 ∧ ∀ b, x ≤ b ↔ ∀ a, a < n → ∀ k, k < a → d a k ≤ b := by
  intro n
  induction n with
  | zero => intro _; exact ⟨0, rfl, by decide, fun b => ⟨fun _ a ha => absurd ha (Nat.not_lt_zero a), fun _ => Nat.zero_le b⟩⟩
  | succ n ih =>
    intro hn
    obtain ⟨g, h1, h2, h3⟩ := ih (by omega)
    obtain ⟨x, e1, e2, e3⟩ := ocI_up (hd n (by omega)) n (by omega) g h2
    refine ⟨x, by show ocI r u n (ocO r u n) n = nI x; rw [h1, e1], e2, fun b => ?_⟩
    rw [e3 b, h3 b]
    exact ⟨fun h a ha k hk => by rcases Nat.lt_or_eq_of_le (Nat.le_of_lt_succ ha) with h4 | h4; exact h.1 a h4 k hk; rw [h4] at hk ⊢; exact h.2 k hk, fun h => ⟨fun a ha k hk => h a (by omega) k hk, fun k hk => h n (by omega) k hk⟩⟩
theorem off_oc {r u : Nat → Int32} (hr : ∀ k, k < 4 → inR (r k) (-40) 40 = true) (hu : ∀ k, k < 4 → inR (u k) (-40) 40 = true) : ocO r u 4 = offO r u 4 := by
  have e : ∃ R U : Nat → Nat, ∀ k, k < 4 → (R k ≤ 80 ∧ r k = nI (R k) - 40) ∧ (U k ≤ 80 ∧ u k = nI (U k) - 40) := by
    refine ⟨fun k => (r k + 40).toNatClampNeg, fun k => (u k + 40).toNatClampNeg, fun k hk => ?_⟩
    obtain ⟨n, hn, e1⟩ := in40 (hr k hk)
    obtain ⟨m, hm, e2⟩ := in40 (hu k hk)
    have c : ∀ n, n ≤ 80 → (nI n - 40 + 40 : Int32).toNatClampNeg = n := by decide +kernel
    simp only [e1, e2, c n hn, c m hm]
    exact ⟨⟨hn, trivial⟩, hm, trivial⟩
  obtain ⟨R, U, e⟩ := e
  have h1 : ∀ a, a < 4 → ∀ k, k < 4 → apF r u a k = nI (dst (R a) (R k) + dst (U a) (U k)) ∧ dst (R a) (R k) + dst (U a) (U k) < 1000 := by
    intro a ha k hk
    obtain ⟨⟨a1, a2⟩, a3, a4⟩ := e a ha
    obtain ⟨⟨b1, b2⟩, b3, b4⟩ := e k hk
    refine ⟨?_, by unfold dst; split <;> split <;> omega⟩
    unfold apF
    rw [a2, a4, b2, b4, (dst_ok _ a1 _ b1).1, (dst_ok _ a3 _ b3).1, nI_add]
  have h2 : ∀ a, a < 4 → ∀ k, k < 4 → acF r u a k = nI (dst (R a) (R k) + dst (U a) (U k)) ∧ dst (R a) (R k) + dst (U a) (U k) < 1000 := by
    intro a ha k hk
    obtain ⟨⟨a1, a2⟩, a3, a4⟩ := e a ha
    obtain ⟨⟨b1, b2⟩, b3, b4⟩ := e k hk
    refine ⟨?_, by unfold dst; split <;> split <;> omega⟩
    unfold acF
    rw [a2, a4, b2, b4, (dst_ok _ a1 _ b1).2, (dst_ok _ a3 _ b3).2, nI_add]
  obtain ⟨x, x1, x2, x3⟩ := offO_up (d := fun a k => dst (R a) (R k) + dst (U a) (U k)) h1 4 (Nat.le_refl 4)
  obtain ⟨y, y1, y2, y3⟩ := ocO_up (d := fun a k => dst (R a) (R k) + dst (U a) (U k)) h2 4 (Nat.le_refl 4)
  have : x = y := by
    refine Nat.le_antisymm ((x3 y).mpr fun a ha k hk => ?_) ((y3 x).mpr fun a ha k hk => (x3 x).mp (Nat.le_refl x) a ha k (by omega))
    rcases Nat.lt_trichotomy k a with h | h | h
    · exact (y3 y).mp (Nat.le_refl y) a ha k h
    · subst h
      show dst (R k) (R k) + dst (U k) (U k) ≤ y
      rw [dst_0, dst_0]
      omega
    · have := (y3 y).mp (Nat.le_refl y) k hk a h
      show dst (R a) (R k) + dst (U a) (U k) ≤ y
      rw [dst_cm, @dst_cm (U a)]
      exact this
  rw [x1, y1, this]
/-- a knife's way -/
theorem kn_abs {x : Int32} : (if 0 ≤ x then x else 0 - x) = amt x := by
  unfold amt
  by_cases h : x < 0
  · rw [if_pos h, if_neg (Int32.not_le.mpr h), Int32.zero_sub]
  · rw [if_neg h, if_pos (Int32.not_lt.mp h)]
theorem nI_20s : ∀ n : Nat, n ≤ 40 → Int32.ofInt ((n : Int) - 20) = nI n - 20 := by decide +kernel
theorem in20 {x : Int32} (h : inR x (-20) 20 = true) : ∃ n, n ≤ 40 ∧ x = nI n - 20 := by
  simp only [inR, Bool.and_eq_true, decide_eq_true_eq, Int32.le_iff_toInt_le] at h
  have h1 : (-20 : Int) ≤ x.toInt := h.1
  have h2 : x.toInt ≤ (20 : Int) := h.2
  refine ⟨(x.toInt + 20).toNat, by omega, ?_⟩
  rw [← nI_20s _ (by omega), ← Int32.ofInt_toInt x]
  congr 1
  rw [Int32.ofInt_toInt]
  omega
theorem kn_4n : ∀ n, n ≤ 40 → decide (4 < amt (nI n - 20)) = !inR (nI n - 20) (-4) 4 := by decide +kernel
theorem kn_4 {x : Int32} (h : inR x (-20) 20 = true) : decide (4 < amt x) = !inR x (-4) 4 := by
  obtain ⟨n, hn, rfl⟩ := in20 h
  exact kn_4n n hn
/-- how often, after a place has changed -/
theorem cnt_hi {P P' : Nat → Int32} {c : Nat} : ∀ n, (∀ k, k < n → P k = P' k) → cnt P c n = cnt P' c n := by
  intro n
  induction n with
  | zero => intro _; rfl
  | succ n ih => intro h; show cnt P c n + _ = cnt P' c n + _; rw [ih (fun k hk => h k (by omega)), h n (by omega)]
theorem cnt_upd {P : Nat → Int32} {x : Int32} {c k : Nat} : ∀ n, k < n → cnt (upd P k x) c n + (if P k = nI c then 1 else 0) = cnt P c n + (if x = nI c then 1 else 0) := by
  intro n
  induction n with
  | zero => intro h; exact absurd h (Nat.not_lt_zero k)
  | succ n ih =>
    intro h
    show cnt (upd P k x) c n + (if upd P k x n = nI c then 1 else 0) + _ = cnt P c n + (if P n = nI c then 1 else 0) + _
    by_cases e : k = n
    · subst e
      have e1 : cnt (upd P k x) c k = cnt P c k := cnt_hi k (fun j hj => by rw [upd_ap, if_neg (by omega)])
      rw [e1, upd_ap, if_pos rfl]
      omega
    · have e1 := ih (by omega)
      rw [show upd P k x n = P n by rw [upd_ap, if_neg (fun h => e h.symm)]]
      omega
theorem nI_pred1 {n : Nat} (h : 0 < n) : nI n - 1 = nI (n - 1) := by
  conv => lhs; rw [show n = (n - 1) + 1 by omega]
  rw [nI_pred]
theorem tm_cnt {P T : Nat → Int32} {x : Int32} {k c : Nat} (hk : k < 54) (hT : ∀ c, c < 54 → T c = nI (cnt P c 54)) (hb : isCN (P k)) (hx : isCN x) (hc : c < 54) : tmF T (P k) x c = nI (cnt (upd P k x) c 54) := by
  have e := @cnt_upd P x c k 54 hk
  have e9 := @cnt_upd P (-1) c k 54 hk
  have hle := @cnt_le P c 54
  have clm : ∀ d, d < 54 → (nI d).toNatClampNeg = d := fun d hd => nI_clamp (by omega)
  have hm : ((-1 : Int32) = nI c) = False := eq_false (fun e => nI_nm1 hc e.symm)
  have hT1 : (if P k = -1 then T else upd T (P k).toNatClampNeg (T (P k).toNatClampNeg - 1)) c = nI (cnt P c 54 - (if P k = nI c then 1 else 0)) := by
    rcases hb with hb | ⟨d, hd, hb⟩
    · rw [if_pos hb, hT c hc, hb]
      simp only [hm, if_false]
      rfl
    · rw [hb] at e9 ⊢
      rw [if_neg (nI_nm1 hd), clm d hd, upd_ap]
      simp only [nIeq (show d < 2 ^ 31 by omega) (show c < 2 ^ 31 by omega), hm, if_false] at e9 ⊢
      by_cases hdc : c = d
      · subst hdc
        rw [if_pos rfl] at e9
        rw [if_pos rfl, if_pos rfl, hT c hc]
        exact nI_pred1 (by omega)
      · rw [if_neg hdc, if_neg (fun e => hdc e.symm), hT c hc]
        rfl
  simp only [hm, if_false] at e9
  unfold tmF
  generalize (if P k = -1 then T else upd T (P k).toNatClampNeg (T (P k).toNatClampNeg - 1)) = T1 at hT1
  generalize (if P k = nI c then 1 else 0) = bP at hT1 e e9
  rcases hx with hx | ⟨d, hd, hx⟩
  · subst hx
    simp only [hm, if_false] at e
    show (if (-1 : Int32) = -1 then T1 else _) c = _
    rw [if_pos rfl, hT1]
    congr 1
    omega
  · subst hx
    simp only [nIeq (show d < 2 ^ 31 by omega) (show c < 2 ^ 31 by omega)] at e
    show (if nI d = -1 then T1 else upd T1 (nI d).toNatClampNeg (T1 (nI d).toNatClampNeg + 1)) c = _
    rw [if_neg (nI_nm1 hd), clm d hd, upd_ap]
    by_cases hdc : c = d
    · subst hdc
      rw [if_pos rfl] at e
      rw [if_pos rfl, hT1, nI_1]
      congr 1
      omega
    · rw [if_neg (fun e => hdc e.symm)] at e
      rw [if_neg hdc, hT1]
      congr 1
      omega
theorem wr115 {M : AMem} {a k : Nat} : wrv M a k 2 (.int 115) = some (stI M a (upd (mI M a) k 115)) := wrv_2 nc115 fc115
theorem wrF {M : AMem} {a k : Nat} : wrv M a k 1 (.int 0) = some (stI M a (upd (mI M a) k 0)) := wrv_1 (nar_bi (b := false)) (fits_bi (b := false))
/-- a row made and kept in a field -/
def sg (X : AMem) (p K n f : Nat) : AMem := stR (stN X K n n) p (va_up (mR (stN X K n n) p) f (some (mN X)))
theorem sg_N {X : AMem} {p K n f : Nat} : mN (sg X p K n f) = mN X + 1 := of_eq_true (eq_true rfl)
theorem sg_S {X : AMem} {p K n f : Nat} : mS (sg X p K n f) = mS X + n := of_eq_true (eq_true rfl)
theorem sg_T {X : AMem} {p K n f a : Nat} : mT (sg X p K n f) a = if a = mN X then (K, n) else mT X a := of_eq_true (eq_true rfl)
theorem sg_I {X : AMem} {p K n f a : Nat} : mI (sg X p K n f) a = if a = mN X then (fun _ => 0) else mI X a := of_eq_true (eq_true rfl)
theorem sg_L {X : AMem} {p K n f a : Nat} : mL (sg X p K n f) a = if a = mN X then (fun _ => 0) else mL X a := of_eq_true (eq_true rfl)
theorem sg_R {X : AMem} {p K n f a : Nat} (h1 : ¬ a = mN X) (h2 : ¬ a = p) : mR (sg X p K n f) a = mR X a := by
  unfold sg
  rw [mR_stR, va_up_ap, if_neg h2, mR_stN, va_up_ap, if_neg h1]
theorem sg_Rp {X : AMem} {p K n f g : Nat} (h1 : p < mN X) : mR (sg X p K n f) p g = if g = f then some (mN X) else mR X p g := by
  unfold sg
  rw [mR_stR, va_up_ap, if_pos rfl, va_up_ap, mR_stN, va_up_ap, if_neg (show ¬ p = mN X by omega)]
theorem k54 : inb 54 1001 = true := by decide
theorem k60 : inb 60 1001 = true := by decide
theorem k4 : inb 4 1001 = true := by decide
def shC4 (M : AMem) (p : Nat) : AMem := sg (sg (sg (sg M p 100 54 2) p 100 54 3) p 100 4 4) p 100 4 5
def shC (M : AMem) (p : Nat) (r c : Int32) : AMem := stI (stI (shC4 M p) p (upd (upd (mI (shC4 M p) p) 0 r) 1 c)) (p + 1) (fillF (mI (shC4 M p) (p + 1)) 0 (-1) 54)
theorem shC4_f {M : AMem} {p : Nat} (hN : mN M = p + 1) (ht : mT M p = (6, 0)) : mN (shC4 M p) = p + 5 ∧ mS (shC4 M p) = mS M + 116 ∧ (∀ a, a ≤ p → mT (shC4 M p) a = mT M a ∧ mI (shC4 M p) a = mI M a ∧ mL (shC4 M p) a = mL M a) ∧ (∀ a, a < p → mR (shC4 M p) a = mR M a) ∧ SH (shC4 M p) p ∧ mI (shC4 M p) (p + 1) = (fun _ => 0) ∧ mI (shC4 M p) (p + 2) = (fun _ => 0) ∧ mI (shC4 M p) (p + 3) = (fun _ => 0) ∧ mI (shC4 M p) (p + 4) = (fun _ => 0) := by
  have n1 : mN (sg M p 100 54 2) = p + 2 := by rw [sg_N, hN]
  have n2 : mN (sg (sg M p 100 54 2) p 100 54 3) = p + 3 := by rw [sg_N, n1]
  have n3 : mN (sg (sg (sg M p 100 54 2) p 100 54 3) p 100 4 4) = p + 4 := by rw [sg_N, n2]
  unfold SH shC4
  refine ⟨by rw [sg_N, n3], by rw [sg_S, sg_S, sg_S, sg_S], fun a ha => ⟨?_, ?_, ?_⟩, fun a ha => ?_, ⟨?_, ?_, ?_, ?_, ?_, ?_, ?_, ?_, ?_⟩, ?_, ?_, ?_, ?_⟩
  · rw [sg_T, sg_T, sg_T, sg_T, n3, n2, n1, hN, if_neg (by omega), if_neg (by omega), if_neg (by omega), if_neg (by omega)]
  · rw [sg_I, sg_I, sg_I, sg_I, n3, n2, n1, hN, if_neg (by omega), if_neg (by omega), if_neg (by omega), if_neg (by omega)]
  · rw [sg_L, sg_L, sg_L, sg_L, n3, n2, n1, hN, if_neg (by omega), if_neg (by omega), if_neg (by omega), if_neg (by omega)]
  · rw [sg_R (by omega) (by omega), sg_R (by omega) (by omega), sg_R (by omega) (by omega), sg_R (by omega) (by omega)]
  · rw [sg_T, sg_T, sg_T, sg_T, n3, n2, n1, hN, if_neg (by omega), if_neg (by omega), if_neg (by omega), if_neg (by omega), ht]
  · rw [sg_T, sg_T, sg_T, sg_T, n3, n2, n1, hN, if_neg (by omega), if_neg (by omega), if_neg (by omega), if_pos rfl]
  · rw [sg_T, sg_T, sg_T, n3, n2, n1, if_neg (by omega), if_neg (by omega), if_pos rfl]
  · rw [sg_T, sg_T, n3, n2, if_neg (by omega), if_pos rfl]
  · rw [sg_T, n3, if_pos rfl]
  · rw [sg_Rp (by omega), sg_Rp (by omega), sg_Rp (by omega), sg_Rp (by omega), if_neg (by decide), if_neg (by decide), if_neg (by decide), if_pos rfl, hN]
  · rw [sg_Rp (by omega), sg_Rp (by omega), sg_Rp (by omega), if_neg (by decide), if_neg (by decide), if_pos rfl, n1]
  · rw [sg_Rp (by omega), sg_Rp (by omega), if_neg (by decide), if_pos rfl, n2]
  · rw [sg_Rp (by omega), if_pos rfl, n3]
  · rw [sg_I, sg_I, sg_I, sg_I, n3, n2, n1, hN, if_neg (by omega), if_neg (by omega), if_neg (by omega), if_pos rfl]
  · rw [sg_I, sg_I, sg_I, n3, n2, n1, if_neg (by omega), if_neg (by omega), if_pos rfl]
  · rw [sg_I, sg_I, n3, n2, if_neg (by omega), if_pos rfl]
  · rw [sg_I, n3, if_pos rfl]
theorem s28_0 {p : Nat} {r c : Int32} {M : AMem} {Q : AR → Prop} (ht : mT M p = (6, 0)) (hN : p < mN M) : EvP 28 4 [(0, .ref p), (1, .int r), (2, .int c)] [] M Q = EvP 28 12 [(0, .ref p), (1, .int r), (2, .int c)] [] (sg M p 100 54 2) Q := by
  unfold sg
  simp [lv_args, sStep, amStep, a_nx, a_ii, a_jj, a_ji, a_ld, a_st, a_if, a_ald, a_c1, a_c2, lkp, lput, lput2, lins, oP_none, oP_next, oP_call, oP_ret, oP_thr, outP_ite, aft_ret, aft_void, aft_thr, fHnd, List.isEmpty_nil, List.filter_cons, List.filter_nil, Value.category, csum, List.map_cons, List.map_nil, List.sum_cons, List.sum_nil, List.cons_append, List.nil_append, Option.toList, vp_nar_int, narrow_b1, narrow_b0, nc115, vc115, fc115, nc111, vc111, fc111, nc100, vc100, fc100, nc109, vc109, fc109, nc120, vc120, fc120, nc119, vc119, fc119, nc116, vc116, fc116, nc45, vc45, fc45, nc32, vc32, fc32, nc102, vc102, fc102, nc106, vc106, fc106, fin3, rf_some, rf_none, upd_ap, va_up_ap, nar_bi, fits_bi, nvp_bi, bi_t, bi_f, fval, fty, ftabs, wrv_0, wrv_1, wrv_2, wrv_3, wrv_5, mT_stI, mI_stI, mL_stI, mD_stI, mR_stI, mN_stI, mS_stI, mT_stL, mI_stL, mL_stL, mD_stL, mR_stL, mN_stL, mS_stL, mT_stD, mI_stD, mL_stD, mD_stD, mR_stD, mN_stD, mS_stD, mT_stR, mI_stR, mL_stR, mD_stR, mR_stR, mN_stR, mS_stR, mT_stN, mI_stN, mL_stN, mD_stN, mR_stN, mN_stN, mS_stN, e28_0, e28_1, e28_4, e28_5, e28_7, e28_9, e28_13, e28_15, e28_17, e28_20, e28_21, e28_22, e28_24, e28_27, e28_28, e28_29, e28_31, e28_34, e28_35, e28_36, e28_39, e28_40, e28_41, e28_44, e28_45, e28_48, e28_49, e28_52, rt28, hn28, ht, show ¬ p = mN M by omega, k54, atc, show (54 : Int32).toNatClampNeg = 54 from rfl]
theorem s28_1 {p : Nat} {r c : Int32} {M : AMem} {Q : AR → Prop} (ht : mT M p = (6, 0)) (hN : p < mN M) : EvP 28 12 [(0, .ref p), (1, .int r), (2, .int c)] [] M Q = EvP 28 20 [(0, .ref p), (1, .int r), (2, .int c)] [] (sg M p 100 54 3) Q := by
  unfold sg
  simp [lv_args, sStep, amStep, a_nx, a_ii, a_jj, a_ji, a_ld, a_st, a_if, a_ald, a_c1, a_c2, lkp, lput, lput2, lins, oP_none, oP_next, oP_call, oP_ret, oP_thr, outP_ite, aft_ret, aft_void, aft_thr, fHnd, List.isEmpty_nil, List.filter_cons, List.filter_nil, Value.category, csum, List.map_cons, List.map_nil, List.sum_cons, List.sum_nil, List.cons_append, List.nil_append, Option.toList, vp_nar_int, narrow_b1, narrow_b0, nc115, vc115, fc115, nc111, vc111, fc111, nc100, vc100, fc100, nc109, vc109, fc109, nc120, vc120, fc120, nc119, vc119, fc119, nc116, vc116, fc116, nc45, vc45, fc45, nc32, vc32, fc32, nc102, vc102, fc102, nc106, vc106, fc106, fin3, rf_some, rf_none, upd_ap, va_up_ap, nar_bi, fits_bi, nvp_bi, bi_t, bi_f, fval, fty, ftabs, wrv_0, wrv_1, wrv_2, wrv_3, wrv_5, mT_stI, mI_stI, mL_stI, mD_stI, mR_stI, mN_stI, mS_stI, mT_stL, mI_stL, mL_stL, mD_stL, mR_stL, mN_stL, mS_stL, mT_stD, mI_stD, mL_stD, mD_stD, mR_stD, mN_stD, mS_stD, mT_stR, mI_stR, mL_stR, mD_stR, mR_stR, mN_stR, mS_stR, mT_stN, mI_stN, mL_stN, mD_stN, mR_stN, mN_stN, mS_stN, e28_0, e28_1, e28_4, e28_5, e28_7, e28_9, e28_12, e28_13, e28_15, e28_17, e28_21, e28_22, e28_24, e28_27, e28_28, e28_29, e28_31, e28_34, e28_35, e28_36, e28_39, e28_40, e28_41, e28_44, e28_45, e28_48, e28_49, e28_52, rt28, hn28, ht, show ¬ p = mN M by omega, k54, atc, show (54 : Int32).toNatClampNeg = 54 from rfl]
theorem s28_2 {p : Nat} {r c : Int32} {M : AMem} {Q : AR → Prop} (ht : mT M p = (6, 0)) (hN : p < mN M) : EvP 28 20 [(0, .ref p), (1, .int r), (2, .int c)] [] M Q = EvP 28 27 [(0, .ref p), (1, .int r), (2, .int c)] [] (sg M p 100 4 4) Q := by
  unfold sg
  simp [lv_args, sStep, amStep, a_nx, a_ii, a_jj, a_ji, a_ld, a_st, a_if, a_ald, a_c1, a_c2, lkp, lput, lput2, lins, oP_none, oP_next, oP_call, oP_ret, oP_thr, outP_ite, aft_ret, aft_void, aft_thr, fHnd, List.isEmpty_nil, List.filter_cons, List.filter_nil, Value.category, csum, List.map_cons, List.map_nil, List.sum_cons, List.sum_nil, List.cons_append, List.nil_append, Option.toList, vp_nar_int, narrow_b1, narrow_b0, nc115, vc115, fc115, nc111, vc111, fc111, nc100, vc100, fc100, nc109, vc109, fc109, nc120, vc120, fc120, nc119, vc119, fc119, nc116, vc116, fc116, nc45, vc45, fc45, nc32, vc32, fc32, nc102, vc102, fc102, nc106, vc106, fc106, fin3, rf_some, rf_none, upd_ap, va_up_ap, nar_bi, fits_bi, nvp_bi, bi_t, bi_f, fval, fty, ftabs, wrv_0, wrv_1, wrv_2, wrv_3, wrv_5, mT_stI, mI_stI, mL_stI, mD_stI, mR_stI, mN_stI, mS_stI, mT_stL, mI_stL, mL_stL, mD_stL, mR_stL, mN_stL, mS_stL, mT_stD, mI_stD, mL_stD, mD_stD, mR_stD, mN_stD, mS_stD, mT_stR, mI_stR, mL_stR, mD_stR, mR_stR, mN_stR, mS_stR, mT_stN, mI_stN, mL_stN, mD_stN, mR_stN, mN_stN, mS_stN, e28_0, e28_1, e28_4, e28_5, e28_7, e28_9, e28_12, e28_13, e28_15, e28_17, e28_20, e28_21, e28_22, e28_24, e28_28, e28_29, e28_31, e28_34, e28_35, e28_36, e28_39, e28_40, e28_41, e28_44, e28_45, e28_48, e28_49, e28_52, rt28, hn28, ht, show ¬ p = mN M by omega, k4, atc, show (4 : Int32).toNatClampNeg = 4 from rfl]
theorem s28_3 {p : Nat} {r c : Int32} {M : AMem} {Q : AR → Prop} (ht : mT M p = (6, 0)) (hN : p < mN M) : EvP 28 27 [(0, .ref p), (1, .int r), (2, .int c)] [] M Q = EvP 28 34 [(0, .ref p), (1, .int r), (2, .int c)] [] (sg M p 100 4 5) Q := by
  unfold sg
  simp [lv_args, sStep, amStep, a_nx, a_ii, a_jj, a_ji, a_ld, a_st, a_if, a_ald, a_c1, a_c2, lkp, lput, lput2, lins, oP_none, oP_next, oP_call, oP_ret, oP_thr, outP_ite, aft_ret, aft_void, aft_thr, fHnd, List.isEmpty_nil, List.filter_cons, List.filter_nil, Value.category, csum, List.map_cons, List.map_nil, List.sum_cons, List.sum_nil, List.cons_append, List.nil_append, Option.toList, vp_nar_int, narrow_b1, narrow_b0, nc115, vc115, fc115, nc111, vc111, fc111, nc100, vc100, fc100, nc109, vc109, fc109, nc120, vc120, fc120, nc119, vc119, fc119, nc116, vc116, fc116, nc45, vc45, fc45, nc32, vc32, fc32, nc102, vc102, fc102, nc106, vc106, fc106, fin3, rf_some, rf_none, upd_ap, va_up_ap, nar_bi, fits_bi, nvp_bi, bi_t, bi_f, fval, fty, ftabs, wrv_0, wrv_1, wrv_2, wrv_3, wrv_5, mT_stI, mI_stI, mL_stI, mD_stI, mR_stI, mN_stI, mS_stI, mT_stL, mI_stL, mL_stL, mD_stL, mR_stL, mN_stL, mS_stL, mT_stD, mI_stD, mL_stD, mD_stD, mR_stD, mN_stD, mS_stD, mT_stR, mI_stR, mL_stR, mD_stR, mR_stR, mN_stR, mS_stR, mT_stN, mI_stN, mL_stN, mD_stN, mR_stN, mN_stN, mS_stN, e28_0, e28_1, e28_4, e28_5, e28_7, e28_9, e28_12, e28_13, e28_15, e28_17, e28_20, e28_21, e28_22, e28_24, e28_27, e28_28, e28_29, e28_31, e28_35, e28_36, e28_39, e28_40, e28_41, e28_44, e28_45, e28_48, e28_49, e28_52, rt28, hn28, ht, show ¬ p = mN M by omega, k4, atc, show (4 : Int32).toNatClampNeg = 4 from rfl]
theorem s28_4 {p : Nat} {r c : Int32} {X : AMem} {Q : AR → Prop} (f5 : SH X p) : EvP 28 34 [(0, .ref p), (1, .int r), (2, .int c)] [] X Q = Q (stI (stI X p (upd (upd (mI X p) 0 r) 1 c)) (p + 1) (fillF (mI X (p + 1)) 0 (-1) 54), .inl none) := by
  have h169 := fun Q => @sp169 (p + 1) 54 (-1) (stI X p (upd (upd (mI X p) 0 r) 1 c)) Q (by rw [mT_stI]; exact f5.2.1) (by decide)
  have e1 : mI (stI X p (upd (upd (mI X p) 0 r) 1 c)) (p + 1) = mI X (p + 1) := by rw [mI_stI, va_up_ap, if_neg (by omega)]
  rw [e1] at h169
  have t0 := sh0 f5
  simp [lv_args, sStep, amStep, a_nx, a_ii, a_jj, a_ji, a_ld, a_st, a_if, a_ald, a_c1, a_c2, lkp, lput, lput2, lins, oP_none, oP_next, oP_call, oP_ret, oP_thr, outP_ite, aft_ret, aft_void, aft_thr, fHnd, List.isEmpty_nil, List.filter_cons, List.filter_nil, Value.category, csum, List.map_cons, List.map_nil, List.sum_cons, List.sum_nil, List.cons_append, List.nil_append, Option.toList, vp_nar_int, narrow_b1, narrow_b0, nc115, vc115, fc115, nc111, vc111, fc111, nc100, vc100, fc100, nc109, vc109, fc109, nc120, vc120, fc120, nc119, vc119, fc119, nc116, vc116, fc116, nc45, vc45, fc45, nc32, vc32, fc32, nc102, vc102, fc102, nc106, vc106, fc106, fin3, rf_some, rf_none, upd_ap, va_up_ap, nar_bi, fits_bi, nvp_bi, bi_t, bi_f, fval, fty, ftabs, wrv_0, wrv_1, wrv_2, wrv_3, wrv_5, mT_stI, mI_stI, mL_stI, mD_stI, mR_stI, mN_stI, mS_stI, mT_stL, mI_stL, mL_stL, mD_stL, mR_stL, mN_stL, mS_stL, mT_stD, mI_stD, mL_stD, mD_stD, mR_stD, mN_stD, mS_stD, mT_stR, mI_stR, mL_stR, mD_stR, mR_stR, mN_stR, mS_stR, mT_stN, mI_stN, mL_stN, mD_stN, mR_stN, mN_stN, mS_stN, e28_0, e28_1, e28_4, e28_5, e28_7, e28_9, e28_12, e28_13, e28_15, e28_17, e28_20, e28_21, e28_22, e28_24, e28_27, e28_28, e28_29, e28_31, e28_34, e28_35, e28_36, e28_39, e28_40, e28_41, e28_44, e28_45, e28_48, e28_49, e28_52, rt28, hn28, t0, sh5 f5, stI_stI, cl169, h169]
theorem s28_s {p : Nat} {r c : Int32} {M : AMem} {Q : AR → Prop} (ht : mT M p = (6, 0)) : CaP 28 [.ref p, .int r, .int c] M Q = EvP 28 4 [(0, .ref p), (1, .int r), (2, .int c)] [] M Q := by
  unfold CaP
  simp [lv_args, sStep, amStep, a_nx, a_ii, a_jj, a_ji, a_ld, a_st, a_if, a_ald, a_c1, a_c2, lkp, lput, lput2, lins, oP_none, oP_next, oP_call, oP_ret, oP_thr, outP_ite, aft_ret, aft_void, aft_thr, fHnd, List.isEmpty_nil, List.filter_cons, List.filter_nil, Value.category, csum, List.map_cons, List.map_nil, List.sum_cons, List.sum_nil, List.cons_append, List.nil_append, Option.toList, vp_nar_int, narrow_b1, narrow_b0, nc115, vc115, fc115, nc111, vc111, fc111, nc100, vc100, fc100, nc109, vc109, fc109, nc120, vc120, fc120, nc119, vc119, fc119, nc116, vc116, fc116, nc45, vc45, fc45, nc32, vc32, fc32, nc102, vc102, fc102, nc106, vc106, fc106, fin3, rf_some, rf_none, upd_ap, va_up_ap, nar_bi, fits_bi, nvp_bi, bi_t, bi_f, fval, fty, ftabs, wrv_0, wrv_1, wrv_2, wrv_3, wrv_5, mT_stI, mI_stI, mL_stI, mD_stI, mR_stI, mN_stI, mS_stI, mT_stL, mI_stL, mL_stL, mD_stL, mR_stL, mN_stL, mS_stL, mT_stD, mI_stD, mL_stD, mD_stD, mR_stD, mN_stD, mS_stD, mT_stR, mI_stR, mL_stR, mD_stR, mR_stR, mN_stR, mS_stR, mT_stN, mI_stN, mL_stN, mD_stN, mR_stN, mN_stN, mS_stN, e28_0, e28_1, e28_5, e28_7, e28_9, e28_12, e28_13, e28_15, e28_17, e28_20, e28_21, e28_22, e28_24, e28_27, e28_28, e28_29, e28_31, e28_34, e28_35, e28_36, e28_39, e28_40, e28_41, e28_44, e28_45, e28_48, e28_49, e28_52, rt28, hn28]
theorem sp28 {p : Nat} {r c : Int32} {M : AMem} {Q : AR → Prop} (hN : mN M = p + 1) (ht : mT M p = (6, 0)) : CaP 28 [.ref p, .int r, .int c] M Q = Q (shC M p r c, .inl none) := by
  obtain ⟨f1, f2, f3, f4, f5, f6⟩ := shC4_f hN ht
  have n1 : mN (sg M p 100 54 2) = p + 2 := by rw [sg_N, hN]
  have n2 : mN (sg (sg M p 100 54 2) p 100 54 3) = p + 3 := by rw [sg_N, n1]
  have n3 : mN (sg (sg (sg M p 100 54 2) p 100 54 3) p 100 4 4) = p + 4 := by rw [sg_N, n2]
  have t1 : mT (sg M p 100 54 2) p = (6, 0) := by rw [sg_T, if_neg (by omega), ht]
  have t2 : mT (sg (sg M p 100 54 2) p 100 54 3) p = (6, 0) := by rw [sg_T, if_neg (by omega), t1]
  have t3 : mT (sg (sg (sg M p 100 54 2) p 100 54 3) p 100 4 4) p = (6, 0) := by rw [sg_T, if_neg (by omega), t2]
  refine (s28_s ht).trans ((s28_0 ht (by omega)).trans ((s28_1 t1 (by omega)).trans ((s28_2 t2 (by omega)).trans ((s28_3 t3 (by omega)).trans ?_))))
  exact s28_4 (X := shC4 M p) f5
theorem shC_f {M : AMem} {P : Nat} {r c : Int32} (hP : mN M = P) : (∀ Q, CaP 28 [.ref P, .int r, .int c] (stN M 6 0 6) Q = Q (shC (stN M 6 0 6) P r c, .inl none)) ∧ mN (shC (stN M 6 0 6) P r c) = P + 5 ∧ mS (shC (stN M 6 0 6) P r c) = mS M + 6 + 116 ∧ (∀ a, a < P → mT (shC (stN M 6 0 6) P r c) a = mT M a ∧ mI (shC (stN M 6 0 6) P r c) a = mI M a ∧ mL (shC (stN M 6 0 6) P r c) a = mL M a ∧ mR (shC (stN M 6 0 6) P r c) a = mR M a) ∧ SH (shC (stN M 6 0 6) P r c) P ∧ (mI (shC (stN M 6 0 6) P r c) P 0 = r ∧ mI (shC (stN M 6 0 6) P r c) P 1 = c) ∧ (∀ k, k < 54 → mI (shC (stN M 6 0 6) P r c) (P + 1) k = -1) ∧ mI (shC (stN M 6 0 6) P r c) (P + 2) = (fun _ => 0) ∧ mI (shC (stN M 6 0 6) P r c) (P + 3) = (fun _ => 0) ∧ mI (shC (stN M 6 0 6) P r c) (P + 4) = (fun _ => 0) := by
  have hN : mN (stN M 6 0 6) = P + 1 := by rw [mN_stN, hP]
  have ht : mT (stN M 6 0 6) P = (6, 0) := by rw [mT_stN, va_up_ap, if_pos hP.symm]
  obtain ⟨f1, f2, f3, f4, f5, f6, f7, f8, f9⟩ := shC4_f hN ht
  refine ⟨fun Q => sp28 hN ht, ?_, ?_, fun a ha => ⟨?_, ?_, ?_, ?_⟩, ?_, ⟨?_, ?_⟩, fun k hk => ?_, ?_, ?_, ?_⟩
  all_goals unfold shC
  · rw [mN_stI, mN_stI]; exact f1
  · rw [mS_stI, mS_stI]; exact f2
  · rw [mT_stI, mT_stI, (f3 a (by omega)).1, mT_stN, va_up_ap, if_neg (by omega)]
  · rw [mI_stI, va_up_ap, if_neg (by omega), mI_stI, va_up_ap, if_neg (by omega), (f3 a (by omega)).2.1, mI_stN, va_up_ap, if_neg (by omega)]
  · rw [mL_stI, mL_stI, (f3 a (by omega)).2.2, mL_stN, va_up_ap, if_neg (by omega)]
  · rw [mR_stI, mR_stI, f4 a ha, mR_stN, va_up_ap, if_neg (by omega)]
  · rw [SH_stI, SH_stI]; exact f5
  · rw [mI_stI, va_up_ap, if_neg (by omega), mI_stI, va_up_ap, if_pos rfl, upd_ap, if_neg (by decide), upd_ap, if_pos rfl]
  · rw [mI_stI, va_up_ap, if_neg (by omega), mI_stI, va_up_ap, if_pos rfl, upd_ap, if_pos rfl]
  · rw [mI_stI, va_up_ap, if_pos rfl]
    unfold fillF
    rw [if_pos (by omega)]
  · rw [mI_stI, va_up_ap, if_neg (by omega), mI_stI, va_up_ap, if_neg (by omega)]; exact f7
  · rw [mI_stI, va_up_ap, if_neg (by omega), mI_stI, va_up_ap, if_neg (by omega)]; exact f8
  · rw [mI_stI, va_up_ap, if_neg (by omega), mI_stI, va_up_ap, if_neg (by omega)]; exact f9
theorem cs44 {B n : Nat} {r c : Int32} {M Y : AMem} (h0 : ST B M) (hx1 : inR r 1 6 = true) (hx2 : inR c 1 9 = true) (hn : mI M B 1 = nI n) (hn6 : n < 6) (e28 : ∀ Q, CaP 28 [.ref (mN M), .int r, .int c] (stN M 6 0 6) Q = Q (Y, .inl none)) (hY : ST B Y) (hP : mT Y (mN M) = (6, 0)) : ∀ Q, CaP 44 [.ref B, .int r, .int c] M Q = Q (stI (stR Y (B + 1) (va_up (mR Y (B + 1)) n (some (mN M)))) B (upd (mI Y B) 1 (nI (n + 1))), .inl (some (.int (nI n)))) := by
  intro Q
  unfold CaP
  simp [lv_args, sStep, amStep, a_nx, a_ii, a_jj, a_ji, a_ld, a_st, a_if, a_ald, a_c1, a_c2, lkp, lput, lput2, lins, oP_none, oP_next, oP_call, oP_ret, oP_thr, outP_ite, aft_ret, aft_void, aft_thr, fHnd, List.isEmpty_nil, List.filter_cons, List.filter_nil, Value.category, csum, List.map_cons, List.map_nil, List.sum_cons, List.sum_nil, List.cons_append, List.nil_append, Option.toList, vp_nar_int, narrow_b1, narrow_b0, nc115, vc115, fc115, nc111, vc111, fc111, nc100, vc100, fc100, nc109, vc109, fc109, nc120, vc120, fc120, nc119, vc119, fc119, nc116, vc116, fc116, nc45, vc45, fc45, nc32, vc32, fc32, nc102, vc102, fc102, nc106, vc106, fc106, fin3, rf_some, rf_none, upd_ap, va_up_ap, nar_bi, fits_bi, nvp_bi, bi_t, bi_f, fval, fty, ftabs, wrv_0, wrv_1, wrv_2, wrv_3, wrv_5, mT_stI, mI_stI, mL_stI, mD_stI, mR_stI, mN_stI, mS_stI, mT_stL, mI_stL, mL_stL, mD_stL, mR_stL, mN_stL, mS_stL, mT_stD, mI_stD, mL_stD, mD_stD, mR_stD, mN_stD, mS_stD, mT_stR, mI_stR, mL_stR, mD_stR, mR_stR, mN_stR, mS_stR, mT_stN, mI_stN, mL_stN, mD_stN, mR_stN, mN_stN, mS_stN, e44_0, e44_1, e44_2, e44_4, e44_7, e44_10, e44_11, e44_12, e44_14, e44_17, e44_20, e44_30, e44_31, e44_34, e44_35, e44_36, e44_39, e44_40, e44_41, e44_44, e44_45, e44_48, e44_58, e44_59, e44_62, e44_63, e44_66, e44_67, e44_68, e44_69, e44_72, e44_73, e44_74, e44_75, e44_76, e44_77, e44_80, e44_81, rt44, hn44, h0, tT0, tT1, tT2, tT3, tT4, tT5, tT6, tT7, tT8, tT9, tT10, tT11, tT12, tT13, tR0_0, tR0_6, tR0_7, tR0_8, tR0_9, tR0_11, tR0_12, tR0_14, tR2_0, tR2_1, tR6_0, tR9_0, tR9_1, ST_stI, ST_stL, ST_stD, cl87, sp87, hx1, hx2, bi, hn, nlt0 (show n < 2 ^ 31 by omega), ge6 hn6, nlt6 hn6, cl28, e28, tT0 hY, tT1 hY, hP, elK, inb_nI hn6, nI_clamp (show n < 2 ^ 31 by omega), fNs, nI_1]
theorem stL_stI {M : AMem} {a b : Nat} {f : Nat → Int32} {g : Nat → Int64} : stI (stL M b g) a f = stL (stI M a f) b g := of_eq_true (eq_true rfl)
theorem stI_ov {Z : AMem} {a b : Nat} {C C' G G' : Nat → Int32} (hab : ¬ a = b) : stI (stI (stI (stI Z a C) b G) a C') b G' = stI (stI Z a C') b G' := by
  have h : va_up (va_up (va_up (va_up (mI Z) a C) b G) a C') b G' = va_up (va_up (mI Z) a C') b G' := by
    funext j
    simp only [va_up_ap]
    by_cases h1 : j = b
    · simp only [if_pos h1]
    · by_cases h2 : j = a
      · simp only [if_neg h1, if_pos h2]
      · simp only [if_neg h1, if_neg h2]
  show (mT Z, va_up (va_up (va_up (va_up (mI Z) a C) b G) a C') b G', mL Z, mD Z, mR Z, mN Z, mS Z) = (mT Z, va_up (va_up (mI Z) a C') b G', mL Z, mD Z, mR Z, mN Z, mS Z)
  rw [h]
theorem upd_id {f : Nat → Int32} {k : Nat} {x : Int32} (h : f k = x) : upd f k x = f := by
  funext j
  rw [upd_ap]
  by_cases e : j = k
  · rw [if_pos e, e, h]
  · rw [if_neg e]
theorem sp9L {q : Nat} {K : Int32} {ow th : Int32} {Z : AMem} {Q : AR → Prop} (hs : PK Z q) (hK : kdF K = true) (h4 : mI Z q 4 = 0) : EvP 9 57 [(0, .ref q), (1, .long (ksF K)), (3, .int ow), (4, .int th), (5, .int 0)] [] Z Q = Q (stI (stI Z (q + 1) (coF (mI Z (q + 1)) 0 K 54)) q (upd (mI Z q) 4 (nI (kcF K 54))), .inl none) := by
  have hl := loopE (m := 9) (pc := 57) (Q := Q) 54 (fun k => [(0, .ref q), (1, .long (ksF K)), (3, .int ow), (4, .int th), (5, .int (nI k))]) (fun k => stI (stI Z (q + 1) (coF (mI Z (q + 1)) 0 K k)) q (upd (mI Z q) 4 (nI (kcF K k)))) (by
    intro k hk
    have hz := @kcF_le K k
    have hs' : PK (stI (stI Z (q + 1) (coF (mI Z (q + 1)) 0 K k)) q (upd (mI Z q) 4 (nI (kcF K k)))) q := by rw [PK_stI, PK_stI]; exact hs
    have hw4 : mI (stI (stI Z (q + 1) (coF (mI Z (q + 1)) 0 K k)) q (upd (mI Z q) 4 (nI (kcF K k)))) q 4 = nI (kcF K k) := by rw [mI_stI, va_up_ap, if_pos rfl, upd_ap, if_pos rfl]
    have e10 := fun Q => @sp10 q (kcF K k) (nI k) _ Q hs' hw4 (by omega)
    have w1 : mI (stI (stI Z (q + 1) (coF (mI Z (q + 1)) 0 K k)) q (upd (mI Z q) 4 (nI (kcF K k)))) (q + 1) = coF (mI Z (q + 1)) 0 K k := by rw [mI_stI, va_up_ap, if_neg (by omega), mI_stI, va_up_ap, if_pos rfl]
    have w2 : mI (stI (stI Z (q + 1) (coF (mI Z (q + 1)) 0 K k)) q (upd (mI Z q) 4 (nI (kcF K k)))) q = upd (mI Z q) 4 (nI (kcF K k)) := by rw [mI_stI, va_up_ap, if_pos rfl]
    rw [w1, w2, stI_ov (show ¬ q + 1 = q by omega), upd_upd] at e10
    rw [e9_57]
    cases hk2 : kdOf K (nI k)
    · rw [coF_N hk2, kcF_N hk2]
      simp [lv_args, sStep, amStep, a_nx, a_ii, a_jj, a_ji, a_ld, a_st, a_if, a_ald, a_c1, a_c2, lkp, lput, lput2, lins, oP_none, oP_next, oP_call, oP_ret, oP_thr, outP_ite, aft_ret, aft_void, aft_thr, fHnd, List.isEmpty_nil, List.filter_cons, List.filter_nil, Value.category, csum, List.map_cons, List.map_nil, List.sum_cons, List.sum_nil, List.cons_append, List.nil_append, Option.toList, vp_nar_int, narrow_b1, narrow_b0, nc115, vc115, fc115, nc111, vc111, fc111, nc100, vc100, fc100, nc109, vc109, fc109, nc120, vc120, fc120, nc119, vc119, fc119, nc116, vc116, fc116, nc45, vc45, fc45, nc32, vc32, fc32, nc102, vc102, fc102, nc106, vc106, fc106, fin3, rf_some, rf_none, upd_ap, va_up_ap, nar_bi, fits_bi, nvp_bi, bi_t, bi_f, fval, fty, ftabs, wrv_0, wrv_1, wrv_2, wrv_3, wrv_5, mT_stI, mI_stI, mL_stI, mD_stI, mR_stI, mN_stI, mS_stI, mT_stL, mI_stL, mL_stL, mD_stL, mR_stL, mN_stL, mS_stL, mT_stD, mI_stD, mL_stD, mD_stD, mR_stD, mN_stD, mS_stD, mT_stR, mI_stR, mL_stR, mD_stR, mR_stR, mN_stR, mS_stR, mT_stN, mI_stN, mL_stN, mD_stN, mR_stN, mN_stN, mS_stN, e9_0, e9_1, e9_4, e9_5, e9_7, e9_9, e9_12, e9_13, e9_14, e9_17, e9_18, e9_20, e9_23, e9_24, e9_25, e9_28, e9_29, e9_30, e9_33, e9_34, e9_35, e9_38, e9_39, e9_40, e9_43, e9_44, e9_45, e9_48, e9_49, e9_51, e9_54, e9_55, e9_59, e9_61, e9_64, e9_65, e9_67, e9_70, e9_73, e9_74, e9_76, e9_79, e9_82, e9_85, rt9, hn9, pk0 hs, ge54 hk, cl90, sp90K hK hk, hk2, nI_1]
    · have c1 := @coF_S (mI Z (q + 1)) 0 K k hk2
      rw [Nat.zero_add] at c1
      rw [c1, kcF_S hk2]
      simp [lv_args, sStep, amStep, a_nx, a_ii, a_jj, a_ji, a_ld, a_st, a_if, a_ald, a_c1, a_c2, lkp, lput, lput2, lins, oP_none, oP_next, oP_call, oP_ret, oP_thr, outP_ite, aft_ret, aft_void, aft_thr, fHnd, List.isEmpty_nil, List.filter_cons, List.filter_nil, Value.category, csum, List.map_cons, List.map_nil, List.sum_cons, List.sum_nil, List.cons_append, List.nil_append, Option.toList, vp_nar_int, narrow_b1, narrow_b0, nc115, vc115, fc115, nc111, vc111, fc111, nc100, vc100, fc100, nc109, vc109, fc109, nc120, vc120, fc120, nc119, vc119, fc119, nc116, vc116, fc116, nc45, vc45, fc45, nc32, vc32, fc32, nc102, vc102, fc102, nc106, vc106, fc106, fin3, rf_some, rf_none, upd_ap, va_up_ap, nar_bi, fits_bi, nvp_bi, bi_t, bi_f, fval, fty, ftabs, wrv_0, wrv_1, wrv_2, wrv_3, wrv_5, mT_stI, mI_stI, mL_stI, mD_stI, mR_stI, mN_stI, mS_stI, mT_stL, mI_stL, mL_stL, mD_stL, mR_stL, mN_stL, mS_stL, mT_stD, mI_stD, mL_stD, mD_stD, mR_stD, mN_stD, mS_stD, mT_stR, mI_stR, mL_stR, mD_stR, mR_stR, mN_stR, mS_stR, mT_stN, mI_stN, mL_stN, mD_stN, mR_stN, mN_stN, mS_stN, e9_0, e9_1, e9_4, e9_5, e9_7, e9_9, e9_12, e9_13, e9_14, e9_17, e9_18, e9_20, e9_23, e9_24, e9_25, e9_28, e9_29, e9_30, e9_33, e9_34, e9_35, e9_38, e9_39, e9_40, e9_43, e9_44, e9_45, e9_48, e9_49, e9_51, e9_54, e9_55, e9_59, e9_61, e9_64, e9_65, e9_67, e9_70, e9_73, e9_74, e9_76, e9_79, e9_82, e9_85, rt9, hn9, pk0 hs, ge54 hk, cl90, sp90K hK hk, hk2, cl10, e10, nI_1])
  have e0 : stI (stI Z (q + 1) (coF (mI Z (q + 1)) 0 K 0)) q (upd (mI Z q) 4 (nI (kcF K 0))) = Z := by
    rw [coF_0, kcF_0, upd_id (show mI Z q 4 = nI 0 from h4), stI_self, stI_self]
  simp only [e0, nI_0] at hl
  rw [hl, e9_57]
  simp [lv_args, sStep, amStep, a_nx, a_ii, a_jj, a_ji, a_ld, a_st, a_if, a_ald, a_c1, a_c2, lkp, lput, lput2, lins, oP_none, oP_next, oP_call, oP_ret, oP_thr, outP_ite, aft_ret, aft_void, aft_thr, fHnd, List.isEmpty_nil, List.filter_cons, List.filter_nil, Value.category, csum, List.map_cons, List.map_nil, List.sum_cons, List.sum_nil, List.cons_append, List.nil_append, Option.toList, vp_nar_int, narrow_b1, narrow_b0, nc115, vc115, fc115, nc111, vc111, fc111, nc100, vc100, fc100, nc109, vc109, fc109, nc120, vc120, fc120, nc119, vc119, fc119, nc116, vc116, fc116, nc45, vc45, fc45, nc32, vc32, fc32, nc102, vc102, fc102, nc106, vc106, fc106, fin3, rf_some, rf_none, upd_ap, va_up_ap, nar_bi, fits_bi, nvp_bi, bi_t, bi_f, fval, fty, ftabs, wrv_0, wrv_1, wrv_2, wrv_3, wrv_5, mT_stI, mI_stI, mL_stI, mD_stI, mR_stI, mN_stI, mS_stI, mT_stL, mI_stL, mL_stL, mD_stL, mR_stL, mN_stL, mS_stL, mT_stD, mI_stD, mL_stD, mD_stD, mR_stD, mN_stD, mS_stD, mT_stR, mI_stR, mL_stR, mD_stR, mR_stR, mN_stR, mS_stR, mT_stN, mI_stN, mL_stN, mD_stN, mR_stN, mN_stN, mS_stN, e9_0, e9_1, e9_4, e9_5, e9_7, e9_9, e9_12, e9_13, e9_14, e9_17, e9_18, e9_20, e9_23, e9_24, e9_25, e9_28, e9_29, e9_30, e9_33, e9_34, e9_35, e9_38, e9_39, e9_40, e9_43, e9_44, e9_45, e9_48, e9_49, e9_51, e9_54, e9_55, e9_59, e9_61, e9_64, e9_65, e9_67, e9_70, e9_73, e9_74, e9_76, e9_79, e9_82, e9_85, rt9, hn9, nI54, Int32.le_refl]
def pkC0 (M : AMem) (q : Nat) (k : Int64) (ow th : Int32) : AMem := stL (stI (sg M q 100 60 3) q (upd (upd (upd (upd (upd (upd (upd (mI (sg M q 100 60 3) q) 4 0) 5 115) 6 0) 7 0) 8 (-1)) 1 ow) 2 th)) q (vp_updL (mL (sg M q 100 60 3) q) 0 k)
def pkC (M : AMem) (q : Nat) (K ow th : Int32) : AMem := stI (stI (pkC0 M q (ksF K) ow th) (q + 1) (coF (mI (pkC0 M q (ksF K) ow th) (q + 1)) 0 K 54)) q (upd (mI (pkC0 M q (ksF K) ow th) q) 4 (nI (kcF K 54)))
theorem s9_0 {q : Nat} {k : Int64} {ow th : Bool} {M : AMem} {Q : AR → Prop} (ht : mT M q = (4, 0)) (hN : q < mN M) : EvP 9 4 [(0, .ref q), (1, .long k), (3, .int (bi ow)), (4, .int (bi th))] [] M Q = EvP 9 12 [(0, .ref q), (1, .long k), (3, .int (bi ow)), (4, .int (bi th))] [] (sg M q 100 60 3) Q := by
  unfold sg
  simp [lv_args, sStep, amStep, a_nx, a_ii, a_jj, a_ji, a_ld, a_st, a_if, a_ald, a_c1, a_c2, lkp, lput, lput2, lins, oP_none, oP_next, oP_call, oP_ret, oP_thr, outP_ite, aft_ret, aft_void, aft_thr, fHnd, List.isEmpty_nil, List.filter_cons, List.filter_nil, Value.category, csum, List.map_cons, List.map_nil, List.sum_cons, List.sum_nil, List.cons_append, List.nil_append, Option.toList, vp_nar_int, narrow_b1, narrow_b0, nc115, vc115, fc115, nc111, vc111, fc111, nc100, vc100, fc100, nc109, vc109, fc109, nc120, vc120, fc120, nc119, vc119, fc119, nc116, vc116, fc116, nc45, vc45, fc45, nc32, vc32, fc32, nc102, vc102, fc102, nc106, vc106, fc106, fin3, rf_some, rf_none, upd_ap, va_up_ap, nar_bi, fits_bi, nvp_bi, bi_t, bi_f, fval, fty, ftabs, wrv_0, wrv_1, wrv_2, wrv_3, wrv_5, mT_stI, mI_stI, mL_stI, mD_stI, mR_stI, mN_stI, mS_stI, mT_stL, mI_stL, mL_stL, mD_stL, mR_stL, mN_stL, mS_stL, mT_stD, mI_stD, mL_stD, mD_stD, mR_stD, mN_stD, mS_stD, mT_stR, mI_stR, mL_stR, mD_stR, mR_stR, mN_stR, mS_stR, mT_stN, mI_stN, mL_stN, mD_stN, mR_stN, mN_stN, mS_stN, e9_0, e9_1, e9_4, e9_5, e9_7, e9_9, e9_13, e9_14, e9_17, e9_18, e9_20, e9_23, e9_24, e9_25, e9_28, e9_29, e9_30, e9_33, e9_34, e9_35, e9_38, e9_39, e9_40, e9_43, e9_44, e9_45, e9_48, e9_49, e9_51, e9_54, e9_55, e9_57, e9_59, e9_61, e9_64, e9_65, e9_67, e9_70, e9_73, e9_74, e9_76, e9_79, e9_82, e9_85, rt9, hn9, ht, show ¬ q = mN M by omega, k60, atc, show (60 : Int32).toNatClampNeg = 60 from rfl]
theorem s9_1 {q : Nat} {k : Int64} {ow th : Bool} {X : AMem} {Q : AR → Prop} (ht : mT X q = (4, 0)) : EvP 9 12 [(0, .ref q), (1, .long k), (3, .int (bi ow)), (4, .int (bi th))] [] X Q = EvP 9 57 [(0, .ref q), (1, .long k), (3, .int (bi ow)), (4, .int (bi th)), (5, .int 0)] [] (stL (stI X q (upd (upd (upd (upd (upd (upd (upd (mI X q) 4 0) 5 115) 6 0) 7 0) 8 (-1)) 1 (bi ow)) 2 (bi th))) q (vp_updL (mL X q) 0 k)) Q := by
  simp [lv_args, sStep, amStep, a_nx, a_ii, a_jj, a_ji, a_ld, a_st, a_if, a_ald, a_c1, a_c2, lkp, lput, lput2, lins, oP_none, oP_next, oP_call, oP_ret, oP_thr, outP_ite, aft_ret, aft_void, aft_thr, fHnd, List.isEmpty_nil, List.filter_cons, List.filter_nil, Value.category, csum, List.map_cons, List.map_nil, List.sum_cons, List.sum_nil, List.cons_append, List.nil_append, Option.toList, vp_nar_int, narrow_b1, narrow_b0, nc115, vc115, fc115, nc111, vc111, fc111, nc100, vc100, fc100, nc109, vc109, fc109, nc120, vc120, fc120, nc119, vc119, fc119, nc116, vc116, fc116, nc45, vc45, fc45, nc32, vc32, fc32, nc102, vc102, fc102, nc106, vc106, fc106, fin3, rf_some, rf_none, upd_ap, va_up_ap, nar_bi, fits_bi, nvp_bi, bi_t, bi_f, fval, fty, ftabs, wrv_0, wrv_1, wrv_2, wrv_3, wrv_5, mT_stI, mI_stI, mL_stI, mD_stI, mR_stI, mN_stI, mS_stI, mT_stL, mI_stL, mL_stL, mD_stL, mR_stL, mN_stL, mS_stL, mT_stD, mI_stD, mL_stD, mD_stD, mR_stD, mN_stD, mS_stD, mT_stR, mI_stR, mL_stR, mD_stR, mR_stR, mN_stR, mS_stR, mT_stN, mI_stN, mL_stN, mD_stN, mR_stN, mN_stN, mS_stN, e9_0, e9_1, e9_4, e9_5, e9_7, e9_9, e9_12, e9_13, e9_14, e9_17, e9_18, e9_20, e9_23, e9_24, e9_25, e9_28, e9_29, e9_30, e9_33, e9_34, e9_35, e9_38, e9_39, e9_40, e9_43, e9_44, e9_45, e9_48, e9_49, e9_51, e9_54, e9_55, e9_59, e9_61, e9_64, e9_65, e9_67, e9_70, e9_73, e9_74, e9_76, e9_79, e9_82, e9_85, rt9, hn9, ht, stI_stI, stL_stI, wr115, wrF]
theorem s9_s {q : Nat} {k : Int64} {ow th : Bool} {M : AMem} {Q : AR → Prop} : CaP 9 [.ref q, .long k, .int (bi ow), .int (bi th)] M Q = EvP 9 4 [(0, .ref q), (1, .long k), (3, .int (bi ow)), (4, .int (bi th))] [] M Q := by
  unfold CaP
  simp [lv_args, sStep, amStep, a_nx, a_ii, a_jj, a_ji, a_ld, a_st, a_if, a_ald, a_c1, a_c2, lkp, lput, lput2, lins, oP_none, oP_next, oP_call, oP_ret, oP_thr, outP_ite, aft_ret, aft_void, aft_thr, fHnd, List.isEmpty_nil, List.filter_cons, List.filter_nil, Value.category, csum, List.map_cons, List.map_nil, List.sum_cons, List.sum_nil, List.cons_append, List.nil_append, Option.toList, vp_nar_int, narrow_b1, narrow_b0, nc115, vc115, fc115, nc111, vc111, fc111, nc100, vc100, fc100, nc109, vc109, fc109, nc120, vc120, fc120, nc119, vc119, fc119, nc116, vc116, fc116, nc45, vc45, fc45, nc32, vc32, fc32, nc102, vc102, fc102, nc106, vc106, fc106, fin3, rf_some, rf_none, upd_ap, va_up_ap, nar_bi, fits_bi, nvp_bi, bi_t, bi_f, fval, fty, ftabs, wrv_0, wrv_1, wrv_2, wrv_3, wrv_5, mT_stI, mI_stI, mL_stI, mD_stI, mR_stI, mN_stI, mS_stI, mT_stL, mI_stL, mL_stL, mD_stL, mR_stL, mN_stL, mS_stL, mT_stD, mI_stD, mL_stD, mD_stD, mR_stD, mN_stD, mS_stD, mT_stR, mI_stR, mL_stR, mD_stR, mR_stR, mN_stR, mS_stR, mT_stN, mI_stN, mL_stN, mD_stN, mR_stN, mN_stN, mS_stN, e9_0, e9_1, e9_5, e9_7, e9_9, e9_12, e9_13, e9_14, e9_17, e9_18, e9_20, e9_23, e9_24, e9_25, e9_28, e9_29, e9_30, e9_33, e9_34, e9_35, e9_38, e9_39, e9_40, e9_43, e9_44, e9_45, e9_48, e9_49, e9_51, e9_54, e9_55, e9_57, e9_59, e9_61, e9_64, e9_65, e9_67, e9_70, e9_73, e9_74, e9_76, e9_79, e9_82, e9_85, rt9, hn9]
theorem pkC_f {M : AMem} {P : Nat} {K : Int32} {ow th : Bool} (hP : mN M = P) (hK : kdF K = true) : (∀ Q, CaP 9 [.ref P, .long (ksF K), .int (bi ow), .int (bi th)] (stN M 4 0 9) Q = Q (pkC (stN M 4 0 9) P K (bi ow) (bi th), .inl none)) ∧ mN (pkC (stN M 4 0 9) P K (bi ow) (bi th)) = P + 2 ∧ mS (pkC (stN M 4 0 9) P K (bi ow) (bi th)) = mS M + 9 + 60 ∧ (∀ a, a < P → mT (pkC (stN M 4 0 9) P K (bi ow) (bi th)) a = mT M a ∧ mI (pkC (stN M 4 0 9) P K (bi ow) (bi th)) a = mI M a ∧ mL (pkC (stN M 4 0 9) P K (bi ow) (bi th)) a = mL M a ∧ mR (pkC (stN M 4 0 9) P K (bi ow) (bi th)) a = mR M a) ∧ PK (pkC (stN M 4 0 9) P K (bi ow) (bi th)) P ∧ mI (pkC (stN M 4 0 9) P K (bi ow) (bi th)) P = upd (upd (upd (upd (upd (upd (upd (upd (fun _ => 0) 4 0) 5 115) 6 0) 7 0) 8 (-1)) 1 (bi ow)) 2 (bi th)) 4 (nI (kcF K 54)) ∧ mI (pkC (stN M 4 0 9) P K (bi ow) (bi th)) (P + 1) = coF (fun _ => 0) 0 K 54 ∧ mL (pkC (stN M 4 0 9) P K (bi ow) (bi th)) P 0 = ksF K := by
  have hN : mN (stN M 4 0 9) = P + 1 := by rw [mN_stN, hP]
  have ht : mT (stN M 4 0 9) P = (4, 0) := by rw [mT_stN, va_up_ap, if_pos hP.symm]
  have hI0 : mI (stN M 4 0 9) P = fun _ => 0 := by rw [mI_stN, va_up_ap, if_pos hP.symm]
  have t1 : mT (sg (stN M 4 0 9) P 100 60 3) P = (4, 0) := by rw [sg_T, if_neg (by omega), ht]
  have z0 : mI (pkC0 (stN M 4 0 9) P (ksF K) (bi ow) (bi th)) P = upd (upd (upd (upd (upd (upd (upd (fun _ => 0) 4 0) 5 115) 6 0) 7 0) 8 (-1)) 1 (bi ow)) 2 (bi th) := by
    unfold pkC0
    rw [mI_stL, mI_stI, va_up_ap, if_pos rfl, sg_I, if_neg (by omega), hI0]
  have z1 : mI (pkC0 (stN M 4 0 9) P (ksF K) (bi ow) (bi th)) (P + 1) = fun _ => 0 := by
    unfold pkC0
    rw [mI_stL, mI_stI, va_up_ap, if_neg (by omega), sg_I, if_pos hN.symm]
  have hs : PK (pkC0 (stN M 4 0 9) P (ksF K) (bi ow) (bi th)) P := by
    unfold pkC0 PK
    refine ⟨?_, ?_, ?_⟩
    · rw [mT_stL, mT_stI]; exact t1
    · rw [mT_stL, mT_stI, sg_T, if_pos hN.symm]
    · rw [mR_stL, mR_stI, sg_Rp (by omega), if_pos rfl, hN]
  refine ⟨fun Q => ?_, ?_, ?_, fun a ha => ⟨?_, ?_, ?_, ?_⟩, ?_, ?_, ?_, ?_⟩
  · refine s9_s.trans ((s9_0 ht (by omega)).trans ((s9_1 t1).trans ?_))
    exact sp9L (Z := pkC0 (stN M 4 0 9) P (ksF K) (bi ow) (bi th)) hs hK (by rw [z0]; simp [upd_ap])
  all_goals unfold pkC
  · rw [mN_stI, mN_stI]; unfold pkC0; rw [mN_stL, mN_stI, sg_N, hN]
  · rw [mS_stI, mS_stI]; unfold pkC0; rw [mS_stL, mS_stI, sg_S, mS_stN]
  · rw [mT_stI, mT_stI]; unfold pkC0; rw [mT_stL, mT_stI, sg_T, if_neg (by omega), mT_stN, va_up_ap, if_neg (by omega)]
  · rw [mI_stI, va_up_ap, if_neg (by omega), mI_stI, va_up_ap, if_neg (by omega)]; unfold pkC0; rw [mI_stL, mI_stI, va_up_ap, if_neg (by omega), sg_I, if_neg (by omega), mI_stN, va_up_ap, if_neg (by omega)]
  · rw [mL_stI, mL_stI]; unfold pkC0; rw [mL_stL, va_up_ap, if_neg (by omega), mL_stI, sg_L, if_neg (by omega), mL_stN, va_up_ap, if_neg (by omega)]
  · rw [mR_stI, mR_stI]; unfold pkC0; rw [mR_stL, mR_stI, sg_R (by omega) (by omega), mR_stN, va_up_ap, if_neg (by omega)]
  · rw [PK_stI, PK_stI]; exact hs
  · rw [mI_stI, va_up_ap, if_pos rfl, z0]
  · rw [mI_stI, va_up_ap, if_neg (by omega), mI_stI, va_up_ap, if_pos rfl, z1]
  · rw [mL_stI, mL_stI]; unfold pkC0; rw [mL_stL, va_up_ap, if_pos rfl]; unfold vp_updL; rw [if_pos rfl]
theorem coF_in {F : Nat → Int32} {K : Int32} : ∀ m, m ≤ 54 → ∀ k, k < kcF K m → ∃ d, d < 54 ∧ coF F 0 K m k = nI d := by
  intro m
  induction m with
  | zero => intro _ k hk; rw [kcF_0] at hk; exact absurd hk (Nat.not_lt_zero k)
  | succ m ih =>
    intro hm k hk
    cases hk2 : kdOf K (nI m)
    · rw [kcF_N hk2] at hk
      rw [coF_N hk2]; exact ih (by omega) k hk
    · rw [kcF_S hk2] at hk
      rw [coF_S hk2, upd_ap]
      by_cases e : k = kcF K m
      · exact ⟨m, by omega, by rw [if_pos (by omega)]⟩
      · rw [if_neg (by omega)]
        exact ih (by omega) k (by omega)
theorem csF_ext {P P' : Nat → Int32} : ∀ n, (∀ k, k < n → P k = P' k) → csF P n = csF P' n := by
  intro n
  induction n with
  | zero => intro _; rfl
  | succ n ih => intro h; show csF P n ||| _ = csF P' n ||| _; rw [ih (fun k hk => h k (by omega)), h n (by omega)]
def ksM (K : Int32) : Nat → Int64
  | 0 => 0
  | m + 1 => if kdOf K (nI m) = true then ksM K m ||| (1 <<< ((nI m).toInt64 &&& 63)) else ksM K m
theorem cs_co {F : Nat → Int32} {K : Int32} : ∀ m, csF (coF F 0 K m) (kcF K m) = ksM K m := by
  intro m
  induction m with
  | zero => rfl
  | succ m ih =>
    unfold ksM
    cases hk2 : kdOf K (nI m)
    · rw [coF_N hk2, kcF_N hk2, if_neg (by decide)]; exact ih
    · rw [coF_S hk2, kcF_S hk2, if_pos rfl]
      show csF (upd (coF F 0 K m) (0 + kcF K m) (nI m)) (kcF K m) ||| (1 <<< ((upd (coF F 0 K m) (0 + kcF K m) (nI m) (kcF K m)).toInt64 &&& 63)) = _
      rw [upd_ap, if_pos (by omega), csF_ext (kcF K m) (fun k hk => by rw [upd_ap, if_neg (by omega)]), ih]
theorem ksM_ok {K : Int32} (hK : kdF K = true) : ksM K 54 = ksF K ∧ bcI (ksF K) = nI (kcF K 54) := by
  rcases kdF_cases hK with h | h | h <;> subst h
  · exact ⟨by decide +kernel, by decide +kernel⟩
  · exact ⟨by decide +kernel, by decide +kernel⟩
  · exact ⟨by decide +kernel, by decide +kernel⟩
theorem cs63 {B j : Nat} {K : Int32} {ow th : Bool} {M Y : AMem} (h0 : ST B M) (hK : kdF K = true) (hx : dnF (lakF (mI M (B + 3)) K) 54 = -1) (hj : mI M B 10 = nI j) (hj12 : j < 12) (how : ow = !allB (trnF (mI M (B + 7))) 35) (hth : th = !decide (100 ≤ mI M (B + 5) 2)) (hN : B + 14 ≤ mN M) (e9 : ∀ Q, CaP 9 [.ref (mN M), .long (ksF K), .int (bi ow), .int (bi th)] (stN (stI M (B + 3) (giF (mI M (B + 3)) K 54)) 4 0 9) Q = Q (Y, .inl none)) (hY : ST B Y) (hP : mT Y (mN M) = (4, 0)) : ∀ Q, CaP 63 [.ref B, .int K] M Q = Q (stI (stR Y (B + 8) (va_up (mR Y (B + 8)) j (some (mN M)))) B (upd (mI Y B) 10 (nI (j + 1))), .inl (some (.int (nI j)))) := by
  intro Q
  have hX : ST B (stN (stI M (B + 3) (giF (mI M (B + 3)) K 54)) 4 0 9) := by
    refine ⟨fun k hk => ?_, fun e he => ?_, ?_⟩
    · rw [mT_stN, mT_stI, mN_stI, va_up_ap, if_neg (by omega)]; exact h0.1 k hk
    · have hb : e.1 < 14 := by
        have : ∀ e ∈ stR0, e.1 < 14 := by decide
        exact this e he
      rw [mR_stN, mR_stI, mN_stI, va_up_ap, if_neg (by omega)]; exact h0.2.1 e he
    · rw [mN_stN, mN_stI]; omega
  have q7 : mI (stN (stI M (B + 3) (giF (mI M (B + 3)) K 54)) 4 0 9) (B + 7) = mI M (B + 7) := by
    rw [mI_stN, mI_stI, mN_stI, va_up_ap, if_neg (by omega), va_up_ap, if_neg (by omega)]
  have q5 : mI (stN (stI M (B + 3) (giF (mI M (B + 3)) K 54)) 4 0 9) (B + 5) = mI M (B + 5) := by
    rw [mI_stN, mI_stI, mN_stI, va_up_ap, if_neg (by omega), va_up_ap, if_neg (by omega)]
  have e2 := fun Q => @sp2 B _ Q hX
  have e6 := fun Q => @sp6 B _ Q hX
  rw [q7] at e2
  rw [q5] at e6
  have hn : mT (stN (stI M (B + 3) (giF (mI M (B + 3)) K 54)) 4 0 9) (mN M) = (4, 0) := by rw [mT_stN, mN_stI, va_up_ap, if_pos rfl]
  have t0 := tT0 hX
  have t5 := tT5 hX
  have t6 := tT6 hX
  have r7 := tR0_7 hX
  have r8 := tR0_8 hX
  generalize hXX : stN (stI M (B + 3) (giF (mI M (B + 3)) K 54)) 4 0 9 = X at e2 e6 hn t0 t5 t6 r7 r8 e9
  unfold CaP
  cases hb1 : allB (trnF (mI M (B + 7))) 35 <;> cases hb2 : decide (100 ≤ mI M (B + 5) 2) <;> rw [hb1] at how e2 <;> rw [hb2] at hth e6 <;> subst how <;> subst hth <;> simp [bi] at e9 e2 e6 <;>
  simp [lv_args, sStep, amStep, a_nx, a_ii, a_jj, a_ji, a_ld, a_st, a_if, a_ald, a_c1, a_c2, lkp, lput, lput2, lins, oP_none, oP_next, oP_call, oP_ret, oP_thr, outP_ite, aft_ret, aft_void, aft_thr, fHnd, List.isEmpty_nil, List.filter_cons, List.filter_nil, Value.category, csum, List.map_cons, List.map_nil, List.sum_cons, List.sum_nil, List.cons_append, List.nil_append, Option.toList, vp_nar_int, narrow_b1, narrow_b0, nc115, vc115, fc115, nc111, vc111, fc111, nc100, vc100, fc100, nc109, vc109, fc109, nc120, vc120, fc120, nc119, vc119, fc119, nc116, vc116, fc116, nc45, vc45, fc45, nc32, vc32, fc32, nc102, vc102, fc102, nc106, vc106, fc106, fin3, rf_some, rf_none, upd_ap, va_up_ap, nar_bi, fits_bi, nvp_bi, bi_t, bi_f, fval, fty, ftabs, wrv_0, wrv_1, wrv_2, wrv_3, wrv_5, mT_stI, mI_stI, mL_stI, mD_stI, mR_stI, mN_stI, mS_stI, mT_stL, mI_stL, mL_stL, mD_stL, mR_stL, mN_stL, mS_stL, mT_stD, mI_stD, mL_stD, mD_stD, mR_stD, mN_stD, mS_stD, mT_stR, mI_stR, mL_stR, mD_stR, mR_stR, mN_stR, mS_stR, mT_stN, mI_stN, mL_stN, mD_stN, mR_stN, mN_stN, mS_stN, e63_0, e63_1, e63_4, e63_5, e63_6, e63_9, e63_10, e63_13, e63_14, e63_17, e63_27, e63_28, e63_31, e63_33, e63_35, e63_38, e63_40, e63_41, e63_44, e63_45, e63_48, e63_58, e63_59, e63_62, e63_63, e63_66, e63_67, e63_70, e63_72, e63_75, e63_76, e63_77, e63_78, e63_81, e63_84, e63_87, e63_88, e63_91, e63_92, e63_93, e63_96, e63_99, e63_102, e63_103, e63_106, e63_107, e63_110, e63_111, e63_112, e63_114, e63_115, e63_116, e63_119, e63_121, rt63, hn63, h0, tT0, tT1, tT2, tT3, tT4, tT5, tT6, tT7, tT8, tT9, tT10, tT11, tT12, tT13, tR0_0, tR0_6, tR0_7, tR0_8, tR0_9, tR0_11, tR0_12, tR0_14, tR2_0, tR2_1, tR6_0, tR9_0, tR9_1, ST_stI, ST_stL, ST_stD, cl92, sp92, hK, cl25, sp25 h0 hK, hx, hj, nlt0 (show j < 2 ^ 31 by omega), ge12 hj12, nlt12 hj12, cl27, sp27 h0 hK, hXX, t0, t5, t6, r7, r8, hn, cl2, e2, cl6, e6, cl9, e9, tT0 hY, tT8 hY, hP, elK, inb_nI hj12, nI_clamp (show j < 2 ^ 31 by omega), fNs, nI_1]
theorem sp84 {B : Nat} {M : AMem} {Q : AR → Prop} (h : ST B M) (ha : ¬ sumF (fun c => mI M (B + 3) c + mI M (B + 4) c) 54 = 0) : CaP 84 [.ref B] M Q = Q (M, .inl (some (.float (FP.fdiv (FP.i2f (sumF (mI M (B + 3)) 54)) (FP.i2f (sumF (fun c => mI M (B + 3) c + mI M (B + 4) c) 54)))))) := by
  have hl := loopE (m := 84) (pc := 6) (Q := Q) 54 (fun k => [(0, .ref B), (1, .int (sumF (mI M (B + 3)) k)), (2, .int (sumF (fun c => mI M (B + 3) c + mI M (B + 4) c) k)), (3, .int (nI k))]) (fun _ => M) (by
    intro k hk
    rw [e84_6]
    simp [lv_args, sStep, amStep, a_nx, a_ii, a_jj, a_ji, a_ld, a_st, a_if, a_ald, a_c1, a_c2, lkp, lput, lput2, lins, oP_none, oP_next, oP_call, oP_ret, oP_thr, outP_ite, aft_ret, aft_void, aft_thr, fHnd, List.isEmpty_nil, List.filter_cons, List.filter_nil, Value.category, csum, List.map_cons, List.map_nil, List.sum_cons, List.sum_nil, List.cons_append, List.nil_append, Option.toList, vp_nar_int, narrow_b1, narrow_b0, nc115, vc115, fc115, nc111, vc111, fc111, nc100, vc100, fc100, nc109, vc109, fc109, nc120, vc120, fc120, nc119, vc119, fc119, nc116, vc116, fc116, nc45, vc45, fc45, nc32, vc32, fc32, nc102, vc102, fc102, nc106, vc106, fc106, fin3, rf_some, rf_none, upd_ap, va_up_ap, nar_bi, fits_bi, nvp_bi, bi_t, bi_f, fval, fty, ftabs, wrv_0, wrv_1, wrv_2, wrv_3, wrv_5, mT_stI, mI_stI, mL_stI, mD_stI, mR_stI, mN_stI, mS_stI, mT_stL, mI_stL, mL_stL, mD_stL, mR_stL, mN_stL, mS_stL, mT_stD, mI_stD, mL_stD, mD_stD, mR_stD, mN_stD, mS_stD, mT_stR, mI_stR, mL_stR, mD_stR, mR_stR, mN_stR, mS_stR, mT_stN, mI_stN, mL_stN, mD_stN, mR_stN, mN_stN, mS_stN, e84_0, e84_1, e84_2, e84_3, e84_4, e84_5, e84_7, e84_9, e84_12, e84_13, e84_14, e84_17, e84_18, e84_21, e84_22, e84_23, e84_24, e84_25, e84_28, e84_29, e84_32, e84_33, e84_36, e84_37, e84_40, e84_41, e84_42, e84_43, e84_46, e84_49, e84_50, e84_53, e84_64, e84_65, e84_66, e84_67, e84_68, e84_69, rt84, hn84, h, tT0, tT1, tT2, tT3, tT4, tT5, tT6, tT7, tT8, tT9, tT10, tT11, tT12, tT13, tR0_0, tR0_6, tR0_7, tR0_8, tR0_9, tR0_11, tR0_12, tR0_14, tR2_0, tR2_1, tR6_0, tR9_0, tR9_1, ST_stI, ST_stL, ST_stD, ge54 hk, cl20, cl21, sp20 h hk, sp21 h hk, nI_1, sumF])
  simp only [nI_0, sumF_0] at hl
  unfold CaP
  simp [lv_args, sStep, amStep, a_nx, a_ii, a_jj, a_ji, a_ld, a_st, a_if, a_ald, a_c1, a_c2, lkp, lput, lput2, lins, oP_none, oP_next, oP_call, oP_ret, oP_thr, outP_ite, aft_ret, aft_void, aft_thr, fHnd, List.isEmpty_nil, List.filter_cons, List.filter_nil, Value.category, csum, List.map_cons, List.map_nil, List.sum_cons, List.sum_nil, List.cons_append, List.nil_append, Option.toList, vp_nar_int, narrow_b1, narrow_b0, nc115, vc115, fc115, nc111, vc111, fc111, nc100, vc100, fc100, nc109, vc109, fc109, nc120, vc120, fc120, nc119, vc119, fc119, nc116, vc116, fc116, nc45, vc45, fc45, nc32, vc32, fc32, nc102, vc102, fc102, nc106, vc106, fc106, fin3, rf_some, rf_none, upd_ap, va_up_ap, nar_bi, fits_bi, nvp_bi, bi_t, bi_f, fval, fty, ftabs, wrv_0, wrv_1, wrv_2, wrv_3, wrv_5, mT_stI, mI_stI, mL_stI, mD_stI, mR_stI, mN_stI, mS_stI, mT_stL, mI_stL, mL_stL, mD_stL, mR_stL, mN_stL, mS_stL, mT_stD, mI_stD, mL_stD, mD_stD, mR_stD, mN_stD, mS_stD, mT_stR, mI_stR, mL_stR, mD_stR, mR_stR, mN_stR, mS_stR, mT_stN, mI_stN, mL_stN, mD_stN, mR_stN, mN_stN, mS_stN, e84_0, e84_1, e84_2, e84_3, e84_4, e84_5, e84_7, e84_9, e84_12, e84_13, e84_14, e84_17, e84_18, e84_21, e84_22, e84_23, e84_24, e84_25, e84_28, e84_29, e84_32, e84_33, e84_36, e84_37, e84_40, e84_41, e84_42, e84_43, e84_46, e84_49, e84_50, e84_53, e84_64, e84_65, e84_66, e84_67, e84_68, e84_69, rt84, hn84]
  rw [hl, e84_6]
  simp [lv_args, sStep, amStep, a_nx, a_ii, a_jj, a_ji, a_ld, a_st, a_if, a_ald, a_c1, a_c2, lkp, lput, lput2, lins, oP_none, oP_next, oP_call, oP_ret, oP_thr, outP_ite, aft_ret, aft_void, aft_thr, fHnd, List.isEmpty_nil, List.filter_cons, List.filter_nil, Value.category, csum, List.map_cons, List.map_nil, List.sum_cons, List.sum_nil, List.cons_append, List.nil_append, Option.toList, vp_nar_int, narrow_b1, narrow_b0, nc115, vc115, fc115, nc111, vc111, fc111, nc100, vc100, fc100, nc109, vc109, fc109, nc120, vc120, fc120, nc119, vc119, fc119, nc116, vc116, fc116, nc45, vc45, fc45, nc32, vc32, fc32, nc102, vc102, fc102, nc106, vc106, fc106, fin3, rf_some, rf_none, upd_ap, va_up_ap, nar_bi, fits_bi, nvp_bi, bi_t, bi_f, fval, fty, ftabs, wrv_0, wrv_1, wrv_2, wrv_3, wrv_5, mT_stI, mI_stI, mL_stI, mD_stI, mR_stI, mN_stI, mS_stI, mT_stL, mI_stL, mL_stL, mD_stL, mR_stL, mN_stL, mS_stL, mT_stD, mI_stD, mL_stD, mD_stD, mR_stD, mN_stD, mS_stD, mT_stR, mI_stR, mL_stR, mD_stR, mR_stR, mN_stR, mS_stR, mT_stN, mI_stN, mL_stN, mD_stN, mR_stN, mN_stN, mS_stN, e84_0, e84_1, e84_2, e84_3, e84_4, e84_5, e84_7, e84_9, e84_12, e84_13, e84_14, e84_17, e84_18, e84_21, e84_22, e84_23, e84_24, e84_25, e84_28, e84_29, e84_32, e84_33, e84_36, e84_37, e84_40, e84_41, e84_42, e84_43, e84_46, e84_49, e84_50, e84_53, e84_64, e84_65, e84_66, e84_67, e84_68, e84_69, rt84, hn84, nI54, Int32.le_refl, ha, le32 (q32 ha)]
theorem sp84x {B : Nat} {M : AMem} {Q : AR → Prop} (h : ST B M) (ha : sumF (fun c => mI M (B + 3) c + mI M (B + 4) c) 54 = 0) : CaP 84 [.ref B] M Q = Q (stN M 0 0 6, .inr 4) := by
  have hl := loopE (m := 84) (pc := 6) (Q := Q) 54 (fun k => [(0, .ref B), (1, .int (sumF (mI M (B + 3)) k)), (2, .int (sumF (fun c => mI M (B + 3) c + mI M (B + 4) c) k)), (3, .int (nI k))]) (fun _ => M) (by
    intro k hk
    rw [e84_6]
    simp [lv_args, sStep, amStep, a_nx, a_ii, a_jj, a_ji, a_ld, a_st, a_if, a_ald, a_c1, a_c2, lkp, lput, lput2, lins, oP_none, oP_next, oP_call, oP_ret, oP_thr, outP_ite, aft_ret, aft_void, aft_thr, fHnd, List.isEmpty_nil, List.filter_cons, List.filter_nil, Value.category, csum, List.map_cons, List.map_nil, List.sum_cons, List.sum_nil, List.cons_append, List.nil_append, Option.toList, vp_nar_int, narrow_b1, narrow_b0, nc115, vc115, fc115, nc111, vc111, fc111, nc100, vc100, fc100, nc109, vc109, fc109, nc120, vc120, fc120, nc119, vc119, fc119, nc116, vc116, fc116, nc45, vc45, fc45, nc32, vc32, fc32, nc102, vc102, fc102, nc106, vc106, fc106, fin3, rf_some, rf_none, upd_ap, va_up_ap, nar_bi, fits_bi, nvp_bi, bi_t, bi_f, fval, fty, ftabs, wrv_0, wrv_1, wrv_2, wrv_3, wrv_5, mT_stI, mI_stI, mL_stI, mD_stI, mR_stI, mN_stI, mS_stI, mT_stL, mI_stL, mL_stL, mD_stL, mR_stL, mN_stL, mS_stL, mT_stD, mI_stD, mL_stD, mD_stD, mR_stD, mN_stD, mS_stD, mT_stR, mI_stR, mL_stR, mD_stR, mR_stR, mN_stR, mS_stR, mT_stN, mI_stN, mL_stN, mD_stN, mR_stN, mN_stN, mS_stN, e84_0, e84_1, e84_2, e84_3, e84_4, e84_5, e84_7, e84_9, e84_12, e84_13, e84_14, e84_17, e84_18, e84_21, e84_22, e84_23, e84_24, e84_25, e84_28, e84_29, e84_32, e84_33, e84_36, e84_37, e84_40, e84_41, e84_42, e84_43, e84_46, e84_49, e84_50, e84_53, e84_64, e84_65, e84_66, e84_67, e84_68, e84_69, rt84, hn84, h, tT0, tT1, tT2, tT3, tT4, tT5, tT6, tT7, tT8, tT9, tT10, tT11, tT12, tT13, tR0_0, tR0_6, tR0_7, tR0_8, tR0_9, tR0_11, tR0_12, tR0_14, tR2_0, tR2_1, tR6_0, tR9_0, tR9_1, ST_stI, ST_stL, ST_stD, ge54 hk, cl20, cl21, sp20 h hk, sp21 h hk, nI_1, sumF])
  simp only [nI_0, sumF_0] at hl
  unfold CaP
  simp [lv_args, sStep, amStep, a_nx, a_ii, a_jj, a_ji, a_ld, a_st, a_if, a_ald, a_c1, a_c2, lkp, lput, lput2, lins, oP_none, oP_next, oP_call, oP_ret, oP_thr, outP_ite, aft_ret, aft_void, aft_thr, fHnd, List.isEmpty_nil, List.filter_cons, List.filter_nil, Value.category, csum, List.map_cons, List.map_nil, List.sum_cons, List.sum_nil, List.cons_append, List.nil_append, Option.toList, vp_nar_int, narrow_b1, narrow_b0, nc115, vc115, fc115, nc111, vc111, fc111, nc100, vc100, fc100, nc109, vc109, fc109, nc120, vc120, fc120, nc119, vc119, fc119, nc116, vc116, fc116, nc45, vc45, fc45, nc32, vc32, fc32, nc102, vc102, fc102, nc106, vc106, fc106, fin3, rf_some, rf_none, upd_ap, va_up_ap, nar_bi, fits_bi, nvp_bi, bi_t, bi_f, fval, fty, ftabs, wrv_0, wrv_1, wrv_2, wrv_3, wrv_5, mT_stI, mI_stI, mL_stI, mD_stI, mR_stI, mN_stI, mS_stI, mT_stL, mI_stL, mL_stL, mD_stL, mR_stL, mN_stL, mS_stL, mT_stD, mI_stD, mL_stD, mD_stD, mR_stD, mN_stD, mS_stD, mT_stR, mI_stR, mL_stR, mD_stR, mR_stR, mN_stR, mS_stR, mT_stN, mI_stN, mL_stN, mD_stN, mR_stN, mN_stN, mS_stN, e84_0, e84_1, e84_2, e84_3, e84_4, e84_5, e84_7, e84_9, e84_12, e84_13, e84_14, e84_17, e84_18, e84_21, e84_22, e84_23, e84_24, e84_25, e84_28, e84_29, e84_32, e84_33, e84_36, e84_37, e84_40, e84_41, e84_42, e84_43, e84_46, e84_49, e84_50, e84_53, e84_64, e84_65, e84_66, e84_67, e84_68, e84_69, rt84, hn84]
  rw [hl, e84_6]
  simp [lv_args, sStep, amStep, a_nx, a_ii, a_jj, a_ji, a_ld, a_st, a_if, a_ald, a_c1, a_c2, lkp, lput, lput2, lins, oP_none, oP_next, oP_call, oP_ret, oP_thr, outP_ite, aft_ret, aft_void, aft_thr, fHnd, List.isEmpty_nil, List.filter_cons, List.filter_nil, Value.category, csum, List.map_cons, List.map_nil, List.sum_cons, List.sum_nil, List.cons_append, List.nil_append, Option.toList, vp_nar_int, narrow_b1, narrow_b0, nc115, vc115, fc115, nc111, vc111, fc111, nc100, vc100, fc100, nc109, vc109, fc109, nc120, vc120, fc120, nc119, vc119, fc119, nc116, vc116, fc116, nc45, vc45, fc45, nc32, vc32, fc32, nc102, vc102, fc102, nc106, vc106, fc106, fin3, rf_some, rf_none, upd_ap, va_up_ap, nar_bi, fits_bi, nvp_bi, bi_t, bi_f, fval, fty, ftabs, wrv_0, wrv_1, wrv_2, wrv_3, wrv_5, mT_stI, mI_stI, mL_stI, mD_stI, mR_stI, mN_stI, mS_stI, mT_stL, mI_stL, mL_stL, mD_stL, mR_stL, mN_stL, mS_stL, mT_stD, mI_stD, mL_stD, mD_stD, mR_stD, mN_stD, mS_stD, mT_stR, mI_stR, mL_stR, mD_stR, mR_stR, mN_stR, mS_stR, mT_stN, mI_stN, mL_stN, mD_stN, mR_stN, mN_stN, mS_stN, e84_0, e84_1, e84_2, e84_3, e84_4, e84_5, e84_7, e84_9, e84_12, e84_13, e84_14, e84_17, e84_18, e84_21, e84_22, e84_23, e84_24, e84_25, e84_28, e84_29, e84_32, e84_33, e84_36, e84_37, e84_40, e84_41, e84_42, e84_43, e84_46, e84_49, e84_50, e84_53, e84_64, e84_65, e84_66, e84_67, e84_68, e84_69, rt84, hn84, nI54, Int32.le_refl, ha]
