/-! ===== still to come ===== -/
theorem ca35 {B s L i : Nat} {T : ALs} {M : AMem} (hI : Inv B s L M) (hi : i + 5 ≤ L) (hL : L ≤ 2560) (hT : tl T) : CA B s L i 2354 T M := by
  sorry
