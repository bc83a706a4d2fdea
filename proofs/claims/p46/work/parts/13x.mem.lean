/-! ===== by program: the world that the constructors build ===== -/
def mxL (B : Nat) (rs : List (Nat × Nat × Nat)) (k f : Nat) : Option Nat := match rs.find? (fun e => e.1 == k && e.2.1 == f) with
  | some e => some (B + e.2.2)
  | none => none
def mxI (B : Nat) (t u : Int32) (a : Nat) : Nat → Int32 := if a = B then upd (fun _ => 0) 2 t else if a = B + 14 then upd (fun _ => 0) 32 u else fun _ => 0
def MX (B : Nat) (M : AMem) (n : Nat) (rs : List (Nat × Nat × Nat)) (t u : Int32) (ms : Nat) : AMem :=
  (fun a => if B ≤ a ∧ a < B + n then stT.getD (a - B) (0, 0) else mT M a, fun a => if B ≤ a ∧ a < B + n then mxI B t u a else mI M a, fun a => if B ≤ a ∧ a < B + n then fun _ => 0 else mL M a, fun a => if B ≤ a ∧ a < B + n then fun _ => 0 else mD M a,
   fun a => if B ≤ a ∧ a < B + n then mxL B rs (a - B) else mR M a, B + n, ms)
theorem upd0 {k : Nat} : upd (fun _ => (0 : Int32)) k 0 = fun _ => 0 := by
  funext j
  rw [upd_ap]
  split <;> rfl
theorem mx_0 {B : Nat} {M : AMem} (hN : mN M = B) (hS : mS M = 0) : M = MX B M 0 [] 0 0 0 := by
  have e : ∀ a, ¬ (B ≤ a ∧ a < B + 0) := fun a => by omega
  have hM : M = (mT M, mI M, mL M, mD M, mR M, mN M, mS M) := rfl
  unfold MX
  simp only [if_neg (e _)]
  rw [Nat.add_zero]
  rw [hN, hS] at hM
  exact hM
theorem mx_N {B n : Nat} {M : AMem} {rs : List (Nat × Nat × Nat)} {t u : Int32} {ms K N sl : Nat} (h : stT.getD n (0, 0) = (K, N)) (hr : rs.all (fun e => decide (e.1 < n)) = true) (ht : n = 0 → t = 0) (hu : n = 14 → u = 0) : stN (MX B M n rs t u ms) K N sl = MX B M (n + 1) rs t u (ms + sl) := by
  have hl : ∀ f, mxL B rs n f = none := by
    intro f
    unfold mxL
    rw [List.find?_eq_none.mpr]
    intro e he
    have := List.all_eq_true.mp hr e he
    simp only [decide_eq_true_eq] at this
    simp
    intro h
    omega
  have hT : va_up (mT (MX B M n rs t u ms)) (mN (MX B M n rs t u ms)) (K, N) = mT (MX B M (n + 1) rs t u (ms + sl)) := by
    funext a
    show (if a = B + n then (K, N) else if B ≤ a ∧ a < B + n then stT.getD (a - B) (0, 0) else mT M a) = if B ≤ a ∧ a < B + (n + 1) then stT.getD (a - B) (0, 0) else mT M a
    by_cases e : a = B + n
    · rw [if_pos e, if_pos (by omega), e, Nat.add_sub_cancel_left, h]
    · rw [if_neg e]
      by_cases e2 : B ≤ a ∧ a < B + n
      · rw [if_pos e2, if_pos (by omega)]
      · rw [if_neg e2, if_neg (by omega)]
  have hI : va_up (mI (MX B M n rs t u ms)) (mN (MX B M n rs t u ms)) (fun _ => 0) = mI (MX B M (n + 1) rs t u (ms + sl)) := by
    funext a
    show (if a = B + n then (fun _ => 0) else if B ≤ a ∧ a < B + n then mxI B t u a else mI M a) = if B ≤ a ∧ a < B + (n + 1) then mxI B t u a else mI M a
    by_cases e : a = B + n
    · rw [if_pos e, if_pos (by omega), e]
      unfold mxI
      by_cases e0 : n = 0
      · rw [if_pos (by omega), ht e0, upd0]
      · rw [if_neg (by omega)]
        by_cases e1 : n = 14
        · rw [if_pos (by omega), hu e1, upd0]
        · rw [if_neg (by omega)]
    · rw [if_neg e]
      by_cases e2 : B ≤ a ∧ a < B + n
      · rw [if_pos e2, if_pos (by omega)]
      · rw [if_neg e2, if_neg (by omega)]
  have hL : va_up (mL (MX B M n rs t u ms)) (mN (MX B M n rs t u ms)) (fun _ => 0) = mL (MX B M (n + 1) rs t u (ms + sl)) := by
    funext a
    show (if a = B + n then (fun _ => 0) else if B ≤ a ∧ a < B + n then (fun _ => 0) else mL M a) = if B ≤ a ∧ a < B + (n + 1) then (fun _ => 0) else mL M a
    by_cases e : a = B + n
    · rw [if_pos e, if_pos (by omega)]
    · rw [if_neg e]
      by_cases e2 : B ≤ a ∧ a < B + n
      · rw [if_pos e2, if_pos (by omega)]
      · rw [if_neg e2, if_neg (by omega)]
  have hD : va_up (mD (MX B M n rs t u ms)) (mN (MX B M n rs t u ms)) (fun _ => 0) = mD (MX B M (n + 1) rs t u (ms + sl)) := by
    funext a
    show (if a = B + n then (fun _ => 0) else if B ≤ a ∧ a < B + n then (fun _ => 0) else mD M a) = if B ≤ a ∧ a < B + (n + 1) then (fun _ => 0) else mD M a
    by_cases e : a = B + n
    · rw [if_pos e, if_pos (by omega)]
    · rw [if_neg e]
      by_cases e2 : B ≤ a ∧ a < B + n
      · rw [if_pos e2, if_pos (by omega)]
      · rw [if_neg e2, if_neg (by omega)]
  have hR : va_up (mR (MX B M n rs t u ms)) (mN (MX B M n rs t u ms)) (fun _ => none) = mR (MX B M (n + 1) rs t u (ms + sl)) := by
    funext a
    show (if a = B + n then (fun _ => none) else if B ≤ a ∧ a < B + n then mxL B rs (a - B) else mR M a) = if B ≤ a ∧ a < B + (n + 1) then mxL B rs (a - B) else mR M a
    by_cases e : a = B + n
    · rw [if_pos e, if_pos (by omega), e, Nat.add_sub_cancel_left]
      exact funext fun f => (hl f).symm
    · rw [if_neg e]
      by_cases e2 : B ≤ a ∧ a < B + n
      · rw [if_pos e2, if_pos (by omega)]
      · rw [if_neg e2, if_neg (by omega)]
  show (va_up (mT (MX B M n rs t u ms)) (mN (MX B M n rs t u ms)) (K, N), va_up (mI (MX B M n rs t u ms)) (mN (MX B M n rs t u ms)) (fun _ => 0), va_up (mL (MX B M n rs t u ms)) (mN (MX B M n rs t u ms)) (fun _ => 0), va_up (mD (MX B M n rs t u ms)) (mN (MX B M n rs t u ms)) (fun _ => 0), va_up (mR (MX B M n rs t u ms)) (mN (MX B M n rs t u ms)) (fun _ => none), _, _) = _
  rw [hT, hI, hL, hD, hR]
  rfl
theorem mx_R {B n i f j : Nat} {M : AMem} {rs : List (Nat × Nat × Nat)} {t u : Int32} {ms : Nat} (hi : i < n) : stR (MX B M n rs t u ms) (B + i) (va_up (mR (MX B M n rs t u ms) (B + i)) f (some (B + j))) = MX B M n ((i, f, j) :: rs) t u ms := by
  have hR : va_up (mR (MX B M n rs t u ms)) (B + i) (va_up (mR (MX B M n rs t u ms) (B + i)) f (some (B + j))) = mR (MX B M n ((i, f, j) :: rs) t u ms) := by
    funext a
    show (if a = B + i then va_up (if B ≤ B + i ∧ B + i < B + n then mxL B rs (B + i - B) else mR M (B + i)) f (some (B + j)) else if B ≤ a ∧ a < B + n then mxL B rs (a - B) else mR M a) = if B ≤ a ∧ a < B + n then mxL B ((i, f, j) :: rs) (a - B) else mR M a
    by_cases e : a = B + i
    · rw [if_pos e, if_pos (show B ≤ B + i ∧ B + i < B + n by omega), if_pos (by omega), e, Nat.add_sub_cancel_left]
      funext g
      rw [va_up_ap]
      unfold mxL
      by_cases eg : g = f
      · simp [List.find?_cons, eg]
      · have e3 : (f == g) = false := beq_eq_false_iff_ne.mpr (fun h => eg h.symm)
        simp [List.find?_cons, eg, e3]
    · rw [if_neg e]
      by_cases e2 : B ≤ a ∧ a < B + n
      · rw [if_pos e2, if_pos e2]
        funext g
        unfold mxL
        simp [List.find?_cons, show ¬ i = a - B by omega]
      · rw [if_neg e2, if_neg e2]
  show (mT (MX B M n rs t u ms), mI (MX B M n rs t u ms), mL (MX B M n rs t u ms), mD (MX B M n rs t u ms), va_up (mR (MX B M n rs t u ms)) (B + i) (va_up (mR (MX B M n rs t u ms) (B + i)) f (some (B + j))), _, _) = _
  rw [hR]
  rfl
theorem mx_R0 {B n f j : Nat} {M : AMem} {rs : List (Nat × Nat × Nat)} {t u : Int32} {ms : Nat} (hi : 0 < n) : stR (MX B M n rs t u ms) B (va_up (mR (MX B M n rs t u ms) B) f (some (B + j))) = MX B M n ((0, f, j) :: rs) t u ms := mx_R (i := 0) hi
theorem mx_T {B n k : Nat} {M : AMem} {rs : List (Nat × Nat × Nat)} {t u : Int32} {ms : Nat} (hk : k < n) : mT (MX B M n rs t u ms) (B + k) = stT.getD k (0, 0) := by
  show (if B ≤ B + k ∧ B + k < B + n then stT.getD (B + k - B) (0, 0) else mT M (B + k)) = _
  rw [if_pos (by omega), Nat.add_sub_cancel_left]
theorem mx_Iv {B n k : Nat} {M : AMem} {rs : List (Nat × Nat × Nat)} {t u : Int32} {ms : Nat} (hk : k < n) : mI (MX B M n rs t u ms) (B + k) = mxI B t u (B + k) := by
  show (if B ≤ B + k ∧ B + k < B + n then mxI B t u (B + k) else mI M (B + k)) = _
  rw [if_pos (by omega)]
theorem mx_I {B n k : Nat} {M : AMem} {rs : List (Nat × Nat × Nat)} {t u t' u' : Int32} {ms : Nat} {F : Nat → Int32} (hk : k < n) (h1 : mxI B t' u' (B + k) = F) (h2 : (k = 0 ∧ u' = u) ∨ (k = 14 ∧ t' = t) ∨ (t' = t ∧ u' = u)) : stI (MX B M n rs t u ms) (B + k) F = MX B M n rs t' u' ms := by
  have hI : va_up (mI (MX B M n rs t u ms)) (B + k) F = mI (MX B M n rs t' u' ms) := by
    funext a
    show (if a = B + k then F else if B ≤ a ∧ a < B + n then mxI B t u a else mI M a) = if B ≤ a ∧ a < B + n then mxI B t' u' a else mI M a
    by_cases e : a = B + k
    · rw [if_pos e, if_pos (by omega), e, h1]
    · rw [if_neg e]
      by_cases e2 : B ≤ a ∧ a < B + n
      · rw [if_pos e2, if_pos e2]
        unfold mxI
        rcases h2 with ⟨h2, h3⟩ | ⟨h2, h3⟩ | ⟨h2, h3⟩
        · subst h2
          have e9 : ¬ a = B := fun h => e (by rw [h, Nat.add_zero])
          rw [if_neg e9, if_neg e9, h3]
        · subst h2
          rw [h3]
          by_cases e0 : a = B
          · rw [if_pos e0, if_pos e0]
          · rw [if_neg e0, if_neg e0, if_neg e, if_neg e]
        · rw [h2, h3]
      · rw [if_neg e2, if_neg e2]
  show (mT (MX B M n rs t u ms), va_up (mI (MX B M n rs t u ms)) (B + k) F, mL (MX B M n rs t u ms), mD (MX B M n rs t u ms), mR (MX B M n rs t u ms), _, _) = _
  rw [hI]
  rfl
theorem mx_I00 {B n j : Nat} {M : AMem} {rs : List (Nat × Nat × Nat)} {t u : Int32} {ms : Nat} (hn : 0 < n) (hj : ¬ j = 2) : stI (MX B M n rs t u ms) B (upd (mI (MX B M n rs t u ms) B) j 0) = MX B M n rs t u ms := by
  refine mx_I (k := 0) hn ?_ (Or.inl ⟨rfl, rfl⟩)
  rw [show mI (MX B M n rs t u ms) B = mxI B t u B from mx_Iv (k := 0) hn]
  unfold mxI
  rw [Nat.add_zero, if_pos rfl]
  funext g
  simp only [upd_ap]
  by_cases e : g = j
  · rw [if_pos e, if_neg (by omega)]
  · rw [if_neg e]
theorem mx_I02 {B n : Nat} {M : AMem} {rs : List (Nat × Nat × Nat)} {t u x : Int32} {ms : Nat} (hn : 0 < n) : stI (MX B M n rs t u ms) B (upd (mI (MX B M n rs t u ms) B) 2 x) = MX B M n rs x u ms := by
  refine mx_I (k := 0) hn ?_ (Or.inl ⟨rfl, rfl⟩)
  rw [show mI (MX B M n rs t u ms) B = mxI B t u B from mx_Iv (k := 0) hn]
  unfold mxI
  rw [Nat.add_zero, if_pos rfl, if_pos rfl, upd_upd]
theorem mx_I14 {B n : Nat} {M : AMem} {rs : List (Nat × Nat × Nat)} {t u x : Int32} {ms : Nat} (hn : 14 < n) : stI (MX B M n rs t u ms) (B + 14) (upd (mI (MX B M n rs t u ms) (B + 14)) 32 x) = MX B M n rs t x ms := by
  refine mx_I hn ?_ (Or.inr (Or.inl ⟨rfl, rfl⟩))
  rw [mx_Iv hn]
  unfold mxI
  rw [if_neg (by omega), if_pos rfl, if_neg (by omega), if_pos rfl, upd_upd]
theorem mx_I5 {B n j : Nat} {M : AMem} {rs : List (Nat × Nat × Nat)} {t u : Int32} {ms : Nat} (hn : 5 < n) : stI (MX B M n rs t u ms) (B + 5) (upd (mI (MX B M n rs t u ms) (B + 5)) j 0) = MX B M n rs t u ms := by
  refine mx_I hn ?_ (Or.inr (Or.inr ⟨rfl, rfl⟩))
  rw [mx_Iv hn]
  unfold mxI
  rw [if_neg (by omega), if_neg (by omega), upd0]
theorem xT0 {B n : Nat} {M : AMem} {rs : List (Nat × Nat × Nat)} {t u : Int32} {ms : Nat} (hk : 0 < n) : mT (MX B M n rs t u ms) B = (8, 0) := mx_T (k := 0) hk
theorem xN0 {B : Nat} {M : AMem} {rs : List (Nat × Nat × Nat)} {u : Int32} {ms sl : Nat} (hr : rs.all (fun e => decide (e.1 < 0)) = true) : stN (MX B M 0 rs 0 u ms) 8 0 sl = MX B M 1 rs 0 u (ms + sl) := mx_N rfl hr (fun _ => rfl) (fun h => absurd h (by decide))
theorem xT1 {B n : Nat} {M : AMem} {rs : List (Nat × Nat × Nat)} {t u : Int32} {ms : Nat} (hk : 1 < n) : mT (MX B M n rs t u ms) (B + 1) = (105, 6) := mx_T (k := 1) hk
theorem xN1 {B : Nat} {M : AMem} {rs : List (Nat × Nat × Nat)} {t : Int32} {u : Int32} {ms sl : Nat} (hr : rs.all (fun e => decide (e.1 < 1)) = true) : stN (MX B M 1 rs t u ms) 105 6 sl = MX B M 2 rs t u (ms + sl) := mx_N rfl hr (fun h => absurd h (by decide)) (fun h => absurd h (by decide))
theorem xT2 {B n : Nat} {M : AMem} {rs : List (Nat × Nat × Nat)} {t u : Int32} {ms : Nat} (hk : 2 < n) : mT (MX B M n rs t u ms) (B + 2) = (5, 0) := mx_T (k := 2) hk
theorem xN2 {B : Nat} {M : AMem} {rs : List (Nat × Nat × Nat)} {t : Int32} {u : Int32} {ms sl : Nat} (hr : rs.all (fun e => decide (e.1 < 2)) = true) : stN (MX B M 2 rs t u ms) 5 0 sl = MX B M 3 rs t u (ms + sl) := mx_N rfl hr (fun h => absurd h (by decide)) (fun h => absurd h (by decide))
theorem xT3 {B n : Nat} {M : AMem} {rs : List (Nat × Nat × Nat)} {t u : Int32} {ms : Nat} (hk : 3 < n) : mT (MX B M n rs t u ms) (B + 3) = (100, 54) := mx_T (k := 3) hk
theorem xN3 {B : Nat} {M : AMem} {rs : List (Nat × Nat × Nat)} {t : Int32} {u : Int32} {ms sl : Nat} (hr : rs.all (fun e => decide (e.1 < 3)) = true) : stN (MX B M 3 rs t u ms) 100 54 sl = MX B M 4 rs t u (ms + sl) := mx_N rfl hr (fun h => absurd h (by decide)) (fun h => absurd h (by decide))
theorem xT4 {B n : Nat} {M : AMem} {rs : List (Nat × Nat × Nat)} {t u : Int32} {ms : Nat} (hk : 4 < n) : mT (MX B M n rs t u ms) (B + 4) = (100, 54) := mx_T (k := 4) hk
theorem xN4 {B : Nat} {M : AMem} {rs : List (Nat × Nat × Nat)} {t : Int32} {u : Int32} {ms sl : Nat} (hr : rs.all (fun e => decide (e.1 < 4)) = true) : stN (MX B M 4 rs t u ms) 100 54 sl = MX B M 5 rs t u (ms + sl) := mx_N rfl hr (fun h => absurd h (by decide)) (fun h => absurd h (by decide))
theorem xT5 {B n : Nat} {M : AMem} {rs : List (Nat × Nat × Nat)} {t u : Int32} {ms : Nat} (hk : 5 < n) : mT (MX B M n rs t u ms) (B + 5) = (2, 0) := mx_T (k := 5) hk
theorem xN5 {B : Nat} {M : AMem} {rs : List (Nat × Nat × Nat)} {t : Int32} {u : Int32} {ms sl : Nat} (hr : rs.all (fun e => decide (e.1 < 5)) = true) : stN (MX B M 5 rs t u ms) 2 0 sl = MX B M 6 rs t u (ms + sl) := mx_N rfl hr (fun h => absurd h (by decide)) (fun h => absurd h (by decide))
theorem xT6 {B n : Nat} {M : AMem} {rs : List (Nat × Nat × Nat)} {t u : Int32} {ms : Nat} (hk : 6 < n) : mT (MX B M n rs t u ms) (B + 6) = (1, 0) := mx_T (k := 6) hk
theorem xN6 {B : Nat} {M : AMem} {rs : List (Nat × Nat × Nat)} {t : Int32} {u : Int32} {ms sl : Nat} (hr : rs.all (fun e => decide (e.1 < 6)) = true) : stN (MX B M 6 rs t u ms) 1 0 sl = MX B M 7 rs t u (ms + sl) := mx_N rfl hr (fun h => absurd h (by decide)) (fun h => absurd h (by decide))
theorem xT7 {B n : Nat} {M : AMem} {rs : List (Nat × Nat × Nat)} {t u : Int32} {ms : Nat} (hk : 7 < n) : mT (MX B M n rs t u ms) (B + 7) = (100, 35) := mx_T (k := 7) hk
theorem xN7 {B : Nat} {M : AMem} {rs : List (Nat × Nat × Nat)} {t : Int32} {u : Int32} {ms sl : Nat} (hr : rs.all (fun e => decide (e.1 < 7)) = true) : stN (MX B M 7 rs t u ms) 100 35 sl = MX B M 8 rs t u (ms + sl) := mx_N rfl hr (fun h => absurd h (by decide)) (fun h => absurd h (by decide))
theorem xT8 {B n : Nat} {M : AMem} {rs : List (Nat × Nat × Nat)} {t u : Int32} {ms : Nat} (hk : 8 < n) : mT (MX B M n rs t u ms) (B + 8) = (106, 12) := mx_T (k := 8) hk
theorem xN8 {B : Nat} {M : AMem} {rs : List (Nat × Nat × Nat)} {t : Int32} {u : Int32} {ms sl : Nat} (hr : rs.all (fun e => decide (e.1 < 8)) = true) : stN (MX B M 8 rs t u ms) 106 12 sl = MX B M 9 rs t u (ms + sl) := mx_N rfl hr (fun h => absurd h (by decide)) (fun h => absurd h (by decide))
theorem xT9 {B n : Nat} {M : AMem} {rs : List (Nat × Nat × Nat)} {t u : Int32} {ms : Nat} (hk : 9 < n) : mT (MX B M n rs t u ms) (B + 9) = (7, 0) := mx_T (k := 9) hk
theorem xN9 {B : Nat} {M : AMem} {rs : List (Nat × Nat × Nat)} {t : Int32} {u : Int32} {ms sl : Nat} (hr : rs.all (fun e => decide (e.1 < 9)) = true) : stN (MX B M 9 rs t u ms) 7 0 sl = MX B M 10 rs t u (ms + sl) := mx_N rfl hr (fun h => absurd h (by decide)) (fun h => absurd h (by decide))
theorem xT10 {B n : Nat} {M : AMem} {rs : List (Nat × Nat × Nat)} {t u : Int32} {ms : Nat} (hk : 10 < n) : mT (MX B M n rs t u ms) (B + 10) = (100, 60) := mx_T (k := 10) hk
theorem xN10 {B : Nat} {M : AMem} {rs : List (Nat × Nat × Nat)} {t : Int32} {u : Int32} {ms sl : Nat} (hr : rs.all (fun e => decide (e.1 < 10)) = true) : stN (MX B M 10 rs t u ms) 100 60 sl = MX B M 11 rs t u (ms + sl) := mx_N rfl hr (fun h => absurd h (by decide)) (fun h => absurd h (by decide))
theorem xT11 {B n : Nat} {M : AMem} {rs : List (Nat × Nat × Nat)} {t u : Int32} {ms : Nat} (hk : 11 < n) : mT (MX B M n rs t u ms) (B + 11) = (100, 60) := mx_T (k := 11) hk
theorem xN11 {B : Nat} {M : AMem} {rs : List (Nat × Nat × Nat)} {t : Int32} {u : Int32} {ms sl : Nat} (hr : rs.all (fun e => decide (e.1 < 11)) = true) : stN (MX B M 11 rs t u ms) 100 60 sl = MX B M 12 rs t u (ms + sl) := mx_N rfl hr (fun h => absurd h (by decide)) (fun h => absurd h (by decide))
theorem xT12 {B n : Nat} {M : AMem} {rs : List (Nat × Nat × Nat)} {t u : Int32} {ms : Nat} (hk : 12 < n) : mT (MX B M n rs t u ms) (B + 12) = (107, 12) := mx_T (k := 12) hk
theorem xN12 {B : Nat} {M : AMem} {rs : List (Nat × Nat × Nat)} {t : Int32} {u : Int32} {ms sl : Nat} (hr : rs.all (fun e => decide (e.1 < 12)) = true) : stN (MX B M 12 rs t u ms) 107 12 sl = MX B M 13 rs t u (ms + sl) := mx_N rfl hr (fun h => absurd h (by decide)) (fun h => absurd h (by decide))
theorem xT13 {B n : Nat} {M : AMem} {rs : List (Nat × Nat × Nat)} {t u : Int32} {ms : Nat} (hk : 13 < n) : mT (MX B M n rs t u ms) (B + 13) = (100, 4) := mx_T (k := 13) hk
theorem xN13 {B : Nat} {M : AMem} {rs : List (Nat × Nat × Nat)} {t : Int32} {u : Int32} {ms sl : Nat} (hr : rs.all (fun e => decide (e.1 < 13)) = true) : stN (MX B M 13 rs t u ms) 100 4 sl = MX B M 14 rs t u (ms + sl) := mx_N rfl hr (fun h => absurd h (by decide)) (fun h => absurd h (by decide))
theorem mx_nN {B n : Nat} {M : AMem} {rs : List (Nat × Nat × Nat)} {t u : Int32} {ms : Nat} : mN (MX B M n rs t u ms) = B + n := rfl
