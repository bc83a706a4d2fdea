theorem cnt_m1 {P : Nat → Int32} {c n m : Nat} (hc : c < 54) (hnm : n ≤ m) (h : ∀ k, n ≤ k → k < m → P k = -1) : cnt P c m = cnt P c n := by
  induction m with
  | zero => rw [Nat.le_zero.mp hnm]
  | succ m ih =>
    by_cases e : n = m + 1
    · rw [e]
    · show cnt P c m + _ = _
      rw [ih (by omega) (fun k h1 h2 => h k h1 (by omega)), h m (by omega) (by omega), if_neg (fun e => nI_nm1 hc e.symm)]
      rfl
theorem offI_ext {r u r' u' : Nat → Int32} (h1 : ∀ k, k < 4 → r k = r' k) (h2 : ∀ k, k < 4 → u k = u' k) {a : Nat} (ha : a < 4) (g : Int32) : ∀ n, n ≤ 4 → offI r u a g n = offI r' u' a g n := by
  intro n
  induction n with
  | zero => intro _; rfl
  | succ n ih =>
    intro hn
    have e : apF r u a n = apF r' u' a n := by unfold apF; rw [h1 a ha, h2 a ha, h1 n (by omega), h2 n (by omega)]
    show (if apF r u a n ≤ offI r u a g n then offI r u a g n else apF r u a n) = if apF r' u' a n ≤ offI r' u' a g n then offI r' u' a g n else apF r' u' a n
    rw [ih (by omega), e]
theorem offO_ext {r u r' u' : Nat → Int32} (h1 : ∀ k, k < 4 → r k = r' k) (h2 : ∀ k, k < 4 → u k = u' k) : offO r u 4 = offO r' u' 4 := by
  have : ∀ n, n ≤ 4 → offO r u n = offO r' u' n := by
    intro n
    induction n with
    | zero => intro _; rfl
    | succ n ih =>
      intro hn
      show offI r u n (offO r u n) 4 = offI r' u' n (offO r' u' n) 4
      rw [ih (by omega), offI_ext h1 h2 (by omega) _ 4 (Nat.le_refl 4)]
  exact this 4 (Nat.le_refl 4)
theorem layF_in {F T : Nat → Int32} {c : Nat} (hc : c < 54) (h : ∀ k, k < 54 → isCN (F k)) (hT : ∀ d, d < 54 → T d = nI (cnt F d 54)) : ∀ n, n ≤ 54 → (∀ k, k < 54 → isCN ((layF F 0 (nI c) n).1 k)) ∧ ∀ d, d < 54 → tlF F T (nI c) n d = nI (cnt (layF F 0 (nI c) n).1 d 54) := by
  intro n
  induction n with
  | zero => intro _; exact ⟨h, hT⟩
  | succ n ih =>
    intro hn
    obtain ⟨i1, i2⟩ := ih (by omega)
    have hle := @lay_le F 0 (nI c) n
    have hx : rem54 (nI c + nI (layF F 0 (nI c) n).2) = nI ((c + (layF F 0 (nI c) n).2) % 54) := rem54_nI hc (by omega)
    have hxc : isCN (rem54 (nI c + nI (layF F 0 (nI c) n).2)) := Or.inr ⟨_, Nat.mod_lt _ (by decide), hx⟩
    have hhi := @layF_hi0 F (nI c) n n (Nat.le_refl n)
    unfold layF tlF
    rw [Nat.zero_add]
    by_cases e : F n = -1
    · rw [if_pos e, if_pos e]
      refine ⟨fun k hk => ?_, fun d hd => ?_⟩
      · show isCN (upd _ n _ k)
        rw [upd_ap]
        by_cases ek : k = n
        · rw [if_pos ek]; exact hxc
        · rw [if_neg ek]; exact i1 k hk
      · have := @tm_cnt (layF F 0 (nI c) n).1 (tlF F T (nI c) n) (rem54 (nI c + nI (layF F 0 (nI c) n).2)) n d (by omega) i2 (by rw [hhi, e]; exact Or.inl rfl) hxc hd
        rw [hhi, e] at this
        exact this
    · rw [if_neg e, if_neg e]
      exact ⟨i1, i2⟩
theorem evF_ext {T T' : Nat → Int32} : ∀ n, (∀ k, k < n → T k = T' k) → evF T n = evF T' n := by
  intro n
  induction n with
  | zero => intro _; rfl
  | succ n ih =>
    intro h
    unfold evF
    rw [ih (fun k hk => h k (by omega)), h n (by omega)]
theorem sumF_ext {f g : Nat → Int32} : ∀ n, (∀ k, k < n → f k = g k) → sumF f n = sumF g n := by
  intro n
  induction n with
  | zero => intro _; rfl
  | succ n ih => intro h; show sumF f n + f n = sumF g n + g n; rw [ih (fun k hk => h k (by omega)), h n (by omega)]
theorem sumF_z {n : Nat} : sumF (fun _ => 0) n = 0 := by
  induction n with
  | zero => rfl
  | succ n ih => show sumF (fun _ => 0) n + 0 = 0; rw [ih]; rfl
