/-! ===== fill: tools ===== -/
theorem det_ex {m : Nat} {as : List Value} {M : AMem} {P : AR → Prop} (h : ∀ Q, ∃ R, P R ∧ CaP m as M Q = Q R) : ∃ R, P R ∧ ∀ Q, CaP m as M Q = Q R := by
  obtain ⟨R0, -, e0⟩ := h (fun _ => True)
  have h1 : CaP m as M (fun _ => True) := by rw [e0]; trivial
  obtain ⟨n, r, h2, -⟩ := h1
  have hr : CaP m as M (fun x => x = r) := ⟨n, r, h2, rfl⟩
  have hr2 := hr
  obtain ⟨R, hp, e⟩ := h (fun x => x = r)
  rw [e] at hr2
  have e2 : R = r := hr2
  subst e2
  exact ⟨R, hp, fun Q => CaP_det hr Q⟩
/-- all ints of the memory -/
def stW (M : AMem) (I : Nat → Nat → Int32) : AMem := (mT M, I, mL M, mD M, mR M, mN M, mS M)
theorem mI_stW {M : AMem} {I : Nat → Nat → Int32} : mI (stW M I) = I := of_eq_true (eq_true rfl)
theorem mT_stW {M : AMem} {I : Nat → Nat → Int32} : mT (stW M I) = mT M := of_eq_true (eq_true rfl)
theorem mR_stW {M : AMem} {I : Nat → Nat → Int32} : mR (stW M I) = mR M := of_eq_true (eq_true rfl)
theorem mL_stW {M : AMem} {I : Nat → Nat → Int32} : mL (stW M I) = mL M := of_eq_true (eq_true rfl)
theorem stI_stW {M : AMem} {I : Nat → Nat → Int32} {a : Nat} {f : Nat → Int32} : stI (stW M I) a f = stW M (va_up I a f) := of_eq_true (eq_true rfl)
theorem stW_id {M : AMem} : stW M (mI M) = M := of_eq_true (eq_true rfl)
theorem mN_stW {M : AMem} {I : Nat → Nat → Int32} : mN (stW M I) = mN M := of_eq_true (eq_true rfl)
theorem ST_stW {B : Nat} {M : AMem} {I : Nat → Nat → Int32} : ST B (stW M I) = ST B M := of_eq_true (eq_true rfl)
theorem PK_stW {q : Nat} {M : AMem} {I : Nat → Nat → Int32} : PK (stW M I) q = PK M q := of_eq_true (eq_true rfl)
/-- where packs and orders lie, apart -/
def FD (B np no : Nat) (q o : Nat → Nat) : Prop := (∀ i, i < np → B + 45 ≤ q i) ∧ (∀ k, k < no → B + 45 ≤ o k) ∧ (∀ i j, i < np → j < np → q i = q j → i = j) ∧ (∀ i j, i < no → j < no → o i = o j → i = j) ∧ (∀ i k, i < np → k < no → ¬ q i = o k) ∧ (∀ i k, i < np → k < no → ¬ q i + 1 = o k) ∧ (∀ i j, i < np → j < np → ¬ q i + 1 = q j)
theorem fd_of {B s L : Nat} {M : AMem} {ns np no nl : Nat} {p q o : Nat → Nat} (h : INV B s L M ns np no nl p q o) : FD B np no q o := by
  have hA := h.1
  have hq := hA.2.2.2.2.1
  have ho := hA.2.2.2.2.2
  refine ⟨fun i hi => (hA.2.2.1.2.1 i hi).1, fun k hk => (hA.2.2.1.2.2 k hk).1, fun i j hi hj e => ?_, fun i j hi hj e => ?_, fun i k hi hk e => ?_, fun i k hi hk e => ?_, fun i j hi hj e => ?_⟩
  · rcases Nat.lt_trichotomy i j with h1 | h1 | h1
    · have := hq i j h1 hj
      omega
    · exact h1
    · have := hq j i h1 hi
      omega
  · rcases Nat.lt_trichotomy i j with h1 | h1 | h1
    · have := ho i j h1 hj
      omega
    · exact h1
    · have := ho j i h1 hi
      omega
  · have h1 := (ad_q hA hi).1.2
    rw [e, (ad_o hA hk).2] at h1
    exact absurd h1 (by decide)
  · have h1 := (ad_q hA hi).2.2
    rw [e, (ad_o hA hk).2] at h1
    exact absurd h1 (by decide)
  · rcases Nat.lt_trichotomy i j with h1 | h1 | h1
    · have := hq i j h1 hj
      omega
    · rw [h1] at e
      omega
    · have := hq j i h1 hi
      omega
/-- the class's cells while it fills -/
def FC (B np no : Nat) (q o : Nat → Nat) (J I : Nat → Nat → Int32) (s : FS) : Prop := (∀ i, i < np → I (q i) = upd (J (q i)) 8 (s.1 i)) ∧ (∀ k, k < no → I (o k) = upd (J (o k)) 4 (s.2.1 k)) ∧ I (B + 13) = s.2.2.1 ∧ ∀ a, (∀ i, i < np → ¬ a = q i) → (∀ k, k < no → ¬ a = o k) → ¬ a = B + 13 → I a = J a
theorem FC_q {B np no i : Nat} {q o : Nat → Nat} {J I : Nat → Nat → Int32} {H F P : Nat → Int32} {n : Nat} {x : Int32} (d : FD B np no q o) (h : FC B np no q o J I (H, F, P, n)) (hi : i < np) : FC B np no q o J (va_up I (q i) (upd (I (q i)) 8 x)) (upd H i x, F, P, n) := by
  obtain ⟨h1, h2, h3, h4⟩ := h
  refine ⟨fun j hj => ?_, fun k hk => ?_, ?_, fun a a1 a2 a3 => ?_⟩
  · rw [va_up_ap]
    by_cases e : q j = q i
    · have e2 := d.2.2.1 j i hj hi e
      subst e2
      rw [if_pos rfl, h1 j hj, upd_upd]
      show _ = upd (J (q j)) 8 (upd H j x j)
      rw [upd_ap, if_pos rfl]
    · rw [if_neg e, h1 j hj]
      show upd (J (q j)) 8 (H j) = upd (J (q j)) 8 (upd H i x j)
      rw [upd_ap, if_neg (fun e2 => e (by rw [e2]))]
  · rw [va_up_ap, if_neg (fun e => d.2.2.2.2.1 i k hi hk e.symm)]
    exact h2 k hk
  · have := d.1 i hi
    rw [va_up_ap, if_neg (by omega)]
    exact h3
  · rw [va_up_ap, if_neg (a1 i hi)]
    exact h4 a a1 a2 a3
theorem FC_o {B np no k : Nat} {q o : Nat → Nat} {J I : Nat → Nat → Int32} {H F P : Nat → Int32} {n : Nat} {x : Int32} (d : FD B np no q o) (h : FC B np no q o J I (H, F, P, n)) (hk : k < no) : FC B np no q o J (va_up I (o k) (upd (I (o k)) 4 x)) (H, upd F k x, P, n) := by
  obtain ⟨h1, h2, h3, h4⟩ := h
  refine ⟨fun j hj => ?_, fun j hj => ?_, ?_, fun a a1 a2 a3 => ?_⟩
  · rw [va_up_ap, if_neg (d.2.2.2.2.1 j k hj hk)]
    exact h1 j hj
  · rw [va_up_ap]
    by_cases e : o j = o k
    · have e2 := d.2.2.2.1 j k hj hk e
      subst e2
      rw [if_pos rfl, h2 j hj, upd_upd]
      show _ = upd (J (o j)) 4 (upd F j x j)
      rw [upd_ap, if_pos rfl]
    · rw [if_neg e, h2 j hj]
      show upd (J (o j)) 4 (F j) = upd (J (o j)) 4 (upd F k x j)
      rw [upd_ap, if_neg (fun e2 => e (by rw [e2]))]
  · have := d.2.1 k hk
    rw [va_up_ap, if_neg (by omega)]
    exact h3
  · rw [va_up_ap, if_neg (a2 k hk)]
    exact h4 a a1 a2 a3
theorem FC_P {B np no : Nat} {q o : Nat → Nat} {J I : Nat → Nat → Int32} {H F P P' : Nat → Int32} {n : Nat} (d : FD B np no q o) (h : FC B np no q o J I (H, F, P, n)) : FC B np no q o J (va_up I (B + 13) P') (H, F, P', n) := by
  obtain ⟨h1, h2, h3, h4⟩ := h
  refine ⟨fun j hj => ?_, fun j hj => ?_, ?_, fun a a1 a2 a3 => ?_⟩
  · have := d.1 j hj
    rw [va_up_ap, if_neg (by omega)]
    exact h1 j hj
  · have := d.2.1 j hj
    rw [va_up_ap, if_neg (by omega)]
    exact h2 j hj
  · rw [va_up_ap, if_pos rfl]
  · rw [va_up_ap, if_neg a3]
    exact h4 a a1 a2 a3
theorem FC_n {B np no : Nat} {q o : Nat → Nat} {J I : Nat → Nat → Int32} {H F P : Nat → Int32} {n n' : Nat} (h : FC B np no q o J I (H, F, P, n)) : FC B np no q o J I (H, F, P, n') := h
theorem FC_k {B np no k : Nat} {q o : Nat → Nat} {J I : Nat → Nat → Int32} {s : FS} (d : FD B np no q o) (h : FC B np no q o J I s) (hk : k < 45) (h13 : ¬ k = 13) : I (B + k) = J (B + k) :=
  h.2.2.2 _ (fun i hi => by have := d.1 i hi; omega) (fun i hi => by have := d.2.1 i hi; omega) (by omega)
theorem FC_low {B np no a : Nat} {q o : Nat → Nat} {J I : Nat → Nat → Int32} {s : FS} (d : FD B np no q o) (h : FC B np no q o J I s) (ha : a < B) : I a = J a :=
  h.2.2.2 _ (fun i hi => by have := d.1 i hi; omega) (fun i hi => by have := d.2.1 i hi; omega) (by omega)
theorem FC_q1 {B np no i : Nat} {q o : Nat → Nat} {J I : Nat → Nat → Int32} {s : FS} (d : FD B np no q o) (h : FC B np no q o J I s) (hi : i < np) : I (q i + 1) = J (q i + 1) :=
  h.2.2.2 _ (fun j hj => d.2.2.2.2.2.2 i j hi hj) (fun k hk => d.2.2.2.2.2.1 i k hi hk) (by have := d.1 i hi; omega)
theorem FC_0 {B s L : Nat} {M : AMem} {ns np no nl : Nat} {p q o : Nat → Nat} (h : INV B s L M ns np no nl p q o) : FC B np no q o (mI M) (mI M) (mI M (B + 33), mI M (B + 41), mI M (B + 42), 0) := by
  refine ⟨fun i hi => ?_, fun k hk => ?_, (iv_8 h).1, fun a _ _ _ => rfl⟩
  · obtain ⟨n, Kd, c1, c2, c3, c4, c5, ⟨c6, c6'⟩, c7⟩ := iv_PD h hi
    exact (upd_id c6).symm
  · obtain ⟨w, m, z, Kd, b, -, -, -, -, -, o4, o4'⟩ := iv_OD h hk
    exact (upd_id (o4.trans o4'.symm)).symm
/-- what a pack is to an order -/
theorem f16 {B s L : Nat} {M : AMem} {ns np no nl : Nat} {p q o : Nat → Nat} (h : INV B s L M ns np no nl p q o) {I : Nat → Nat → Int32} {S : FS} (hf : FC B np no q o (mI M) I S) {i k : Nat} (hi : i < np) (hk : k < no) : ∀ Q, CaP 16 [.ref (q i), .ref (o k)] (stW M I) Q = Q (stW M I, .inl (some (.int (bi (isF (bsF B M k) S.1 i))))) := by
  intro Q
  have d := fd_of h
  obtain ⟨h6, hr, hs⟩ := iv_rp h hi
  obtain ⟨n, Kd, ⟨hn60, hK⟩, ⟨e4, e4'⟩, ⟨e27, eK⟩, ⟨e1, e2⟩, ⟨e5, -⟩, ⟨e8, -⟩, -, ⟨e28, ec⟩, -⟩ := iv_PD h hi
  obtain ⟨w, m, z, Kd', b, ⟨-, -, -, -, -, hK'⟩, -, ⟨o1, o1'⟩, -, -, -⟩ := iv_OD h hk
  have qi : mI (stW M I) (q i) = upd (mI M (q i)) 8 (S.1 i) := by rw [mI_stW, hf.1 i hi]
  have q1 : mI (stW M I) (q i + 1) = mI M (q i + 1) := by rw [mI_stW, FC_q1 d hf hi]
  have hsz : szN B M i = n := by
    unfold szN
    rw [e4', nI_clamp (show n < 2 ^ 31 by omega)]
  have ew : pkW B M i n = wrS (mI M (q i + 1)) n Kd (mI M (q i) 1) (mI M (q i) 2) := by
    unfold pkW
    rw [e27, e1, e2]
    exact wrS_ext (fun k hk => (e28 k (by omega)).symm)
  have := @sp16 (q i) n (o k) Kd Kd' (stW M I) Q (by rw [PK_stW]; exact hs) (by rw [mT_stW]; exact (iv_ro h hk).2.2) (by rw [qi, upd_ap, if_neg (by decide)]; exact e4) hn60 hK hK' (by rw [mL_stW]; exact eK) (by rw [mL_stW]; exact o1) (by rw [q1]; exact ec)
  rw [this, qi, q1]
  simp only [upd_ap]
  unfold isF bsF
  rw [hsz, ew, e27, o1', ← e5]
  simp
