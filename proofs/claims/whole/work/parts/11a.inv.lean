/-! ===== what class and reference hold in common ===== -/
/-- the group of a cell -/
def gk (t : Nat × Nat) : Nat := if t = (6, 0) ∨ t = (100, 54) ∨ t = (100, 4) then 2 else if t = (4, 0) ∨ t = (100, 60) then 6 else if t = (3, 0) then 7 else 9
def gtab : List Nat := [1, 9, 9, 3, 3, 4, 9, 5, 9, 9, 9, 9, 9, 8, 1, 2, 2, 2, 2, 2, 3, 3, 4, 4, 4, 5, 6, 6, 6, 9, 9, 9, 6, 6, 6, 6, 6, 7, 7, 7, 7, 7, 8, 9, 9]
def gr (B : Nat) (T : Nat → Nat × Nat) (a : Nat) : Nat := if a < B then 9 else if a < B + 45 then gtab.getD (a - B) 9 else gk (T a)
theorem gr_k {B k : Nat} {T : Nat → Nat × Nat} (hk : k < 45) : gr B T (B + k) = gtab.getD k 9 := by
  unfold gr
  rw [if_neg (by omega), if_pos (by omega), Nat.add_sub_cancel_left]
theorem grB {B : Nat} {T : Nat → Nat × Nat} : gr B T B = 1 := gr_k (k := 0) (by decide)
theorem gr_d {B a : Nat} {T : Nat → Nat × Nat} (ha : B + 45 ≤ a) : gr B T a = gk (T a) := by
  unfold gr
  rw [if_neg (by omega), if_neg (by omega)]
theorem gr_s {B a : Nat} {T : Nat → Nat × Nat} (ha : a < B) : gr B T a = 9 := by
  unfold gr
  rw [if_pos ha]
/-- a write elsewhere -/
theorem va_ne {α : Type} {B a x j : Nat} {T : Nat → Nat × Nat} {I : Nat → α} {f : α} (hx : gr B T x = j) (ha : ¬ gr B T a = j) : va_up I x f a = I a := by
  rw [va_up_ap, if_neg]
  intro e
  rw [e] at ha
  exact ha hx
def AD (B s L : Nat) (M : AMem) (ns np no : Nat) (p q o : Nat → Nat) : Prop :=
  (ST B M ∧ s < B ∧ mT M s = (200, L) ∧ ns ≤ 6 ∧ np ≤ 12 ∧ no ≤ 12) ∧
  ((∀ i, i < 6 → mR M (B + 1) i = if i < ns then some (p i) else none) ∧ (∀ i, i < 12 → mR M (B + 8) i = if i < np then some (q i) else none) ∧ (∀ i, i < 12 → mR M (B + 12) i = if i < no then some (o i) else none)) ∧
  ((∀ i, i < ns → B + 45 ≤ p i ∧ p i + 5 ≤ mN M ∧ SH M (p i)) ∧ (∀ i, i < np → B + 45 ≤ q i ∧ q i + 2 ≤ mN M ∧ PK M (q i)) ∧ (∀ i, i < no → B + 45 ≤ o i ∧ o i + 1 ≤ mN M ∧ mT M (o i) = (3, 0))) ∧
  ((∀ i j, i < j → j < ns → p i + 5 ≤ p j) ∧ (∀ i j, i < j → j < np → q i + 2 ≤ q j) ∧ (∀ i j, i < j → j < no → o i + 1 ≤ o j))
def D1 (B : Nat) (I : Nat → Nat → Int32) (ns np no nl : Nat) : Prop :=
  (I B 1 = nI ns ∧ I (B + 14) 28 = nI ns) ∧ (I B 10 = nI np ∧ I (B + 14) 30 = nI np) ∧ (I B 13 = nI no ∧ I (B + 14) 31 = nI no) ∧ (I (B + 14) 29 = nI nl ∧ nl ≤ 5) ∧
  I B 2 = I (B + 14) 32 ∧ I B 3 = I (B + 14) 33 ∧ I B 4 = I (B + 14) 34 ∧ I B 5 = I (B + 14) 35 ∧ inR (I B 3) (-20) 20 = true ∧ inR (I B 4) (-20) 20 = true
def SD (B : Nat) (I : Nat → Nat → Int32) (p i : Nat) : Prop := ∃ R C, (1 ≤ R ∧ R ≤ 6 ∧ 1 ≤ C ∧ C ≤ 9) ∧ (I p 0 = nI R ∧ I p 1 = nI C ∧ I (B + 15) i = nI R ∧ I (B + 16) i = nI C) ∧
  (∀ k, k < 54 → I (p + 1) k = I (B + 17) (54 * i + k) ∧ isCN (I (p + 1) k) ∧ (R * C ≤ k → I (p + 1) k = -1)) ∧ (∀ c, c < 54 → I (p + 2) c = nI (cnt (I (p + 1)) c 54)) ∧
  (∀ k, k < 4 → I (p + 3) k = I (B + 18) (4 * i + k) ∧ I (p + 4) k = I (B + 19) (4 * i + k) ∧ inR (I (p + 3) k) (-40) 40 = true ∧ inR (I (p + 4) k) (-40) 40 = true)
def D2 (B : Nat) (I : Nat → Nat → Int32) (ns : Nat) (p : Nat → Nat) : Prop := (∀ i, i < ns → SD B I (p i) i) ∧ ∀ i, ns ≤ i → i < 6 → ∀ k, k < 4 → I (B + 18) (4 * i + k) = 0 ∧ I (B + 19) (4 * i + k) = 0
def D3 (B : Nat) (I : Nat → Nat → Int32) : Prop := I (B + 3) = I (B + 20) ∧ I (B + 4) = I (B + 21) ∧ ∀ c, c < 54 → ∃ a b, a + b ≤ 9999 ∧ I (B + 20) c = nI a ∧ I (B + 21) c = nI b
def D4 (B : Nat) (I : Nat → Nat → Int32) (nl : Nat) : Prop := I (B + 5) 0 = nI nl ∧ I (B + 5) 1 = sumF (I (B + 22)) nl ∧ I (B + 5) 2 = sumF (I (B + 23)) nl ∧ I (B + 5) 3 = snF (I (B + 24)) (nl - 1) ∧ (0 < nl → I (B + 5) 4 = I (B + 24) (nl - 1))
def D5 (B : Nat) (I : Nat → Nat → Int32) : Prop := I (B + 7) = I (B + 25)
def PD (B : Nat) (I : Nat → Nat → Int32) (K : Nat → Nat → Int64) (q i : Nat) : Prop := ∃ n Kd, (n ≤ 60 ∧ kdF Kd = true) ∧ (I q 4 = nI n ∧ I (B + 32) i = nI n) ∧ (I (B + 27) i = Kd ∧ K q 0 = ksF Kd) ∧ (I q 1 = I (B + 34) i ∧ I q 2 = I (B + 35) i) ∧ (I q 5 = I (B + 26) i ∧ (I (B + 26) i = 115 ∨ I (B + 26) i = 111 ∨ I (B + 26) i = 100)) ∧
  (I q 8 = I (B + 33) i ∧ (I (B + 33) i = -1 ∨ ∃ h, h < 4 ∧ I (B + 33) i = nI h)) ∧ I q 7 = I (B + 36) i ∧ ((∀ k, k < 60 → I (q + 1) k = I (B + 28) (60 * i + k)) ∧ ∀ k, k < n → ∃ d, d < 54 ∧ I (q + 1) k = nI d) ∧
  (¬ I q 8 = -1 → I q 5 = 115 → wrS (I (q + 1)) n Kd (I q 1) (I q 2) = 45) ∧ (I q 6 = 0 → csF (I (q + 1)) n = ksF Kd ∧ bcI (ksF Kd) = nI n) ∧ (I q 5 = 111 → ¬ I q 6 = 0)
def D6 (B : Nat) (I : Nat → Nat → Int32) (K : Nat → Nat → Int64) (np : Nat) (q : Nat → Nat) : Prop := (∀ i, i < np → PD B I K (q i) i) ∧ ∀ i, np ≤ i → i < 12 → I (B + 32) i = 0 ∧ I (B + 36) i = 0 ∧ ∀ k, k < 60 → I (B + 28) (60 * i + k) = 0
def OD (B : Nat) (I : Nat → Nat → Int32) (K : Nat → Nat → Int64) (o k : Nat) : Prop := ∃ h m z Kd b, (h < 4 ∧ 1 ≤ m ∧ m ≤ 9 ∧ 1 ≤ z ∧ z ≤ 99 ∧ kdF Kd = true) ∧ (I o 0 = nI h ∧ I (B + 37) k = nI h) ∧ (K o 1 = ksF Kd ∧ I (B + 40) k = Kd) ∧ (I o 2 = nI m ∧ I (B + 38) k = nI m) ∧ (I o 3 = nI z ∧ I (B + 39) k = nI z) ∧ (I o 4 = bi b ∧ I (B + 41) k = bi b)
def D7 (B : Nat) (I : Nat → Nat → Int32) (K : Nat → Nat → Int64) (no : Nat) (o : Nat → Nat) : Prop := (∀ k, k < no → OD B I K (o k) k) ∧ ∀ k, no ≤ k → k < 12 → I (B + 41) k = 0
def owF (B : Nat) (I : Nat → Nat → Int32) (h : Nat) (k : Nat) : Int32 := if I (B + 41) k = 0 ∨ ¬ I (B + 37) k = nI h then 0 else I (B + 38) k * I (B + 39) k
def D8 (B : Nat) (I : Nat → Nat → Int32) (no : Nat) : Prop := I (B + 13) = I (B + 42) ∧ ∀ h, h < 4 → I (B + 42) h = sumF (owF B I h) no
def INV (B s L : Nat) (M : AMem) (ns np no nl : Nat) (p q o : Nat → Nat) : Prop := AD B s L M ns np no p q o ∧ D1 B (mI M) ns np no nl ∧ D2 B (mI M) ns p ∧ D3 B (mI M) ∧ D4 B (mI M) nl ∧ D5 B (mI M) ∧ D6 B (mI M) (mL M) np q ∧ D7 B (mI M) (mL M) no o ∧ D8 B (mI M) no
def Inv (B s L : Nat) (M : AMem) : Prop := ∃ ns np no nl p q o, INV B s L M ns np no nl p q o
theorem ad_p {B s L : Nat} {M : AMem} {ns np no : Nat} {p q o : Nat → Nat} (h : AD B s L M ns np no p q o) {i j : Nat} (hi : i < ns) (hj : j < 5) : p i + j < mN M ∧ gr B (mT M) (p i + j) = 2 := by
  obtain ⟨h1, h2, h3⟩ := h.2.2.1.1 i hi
  refine ⟨by omega, ?_⟩
  rw [gr_d (by omega)]
  rcases (show j = 0 ∨ j = 1 ∨ j = 2 ∨ j = 3 ∨ j = 4 by omega) with e | e | e | e | e <;> subst e
  · rw [Nat.add_zero, sh0 h3]; rfl
  · rw [sh1 h3]; rfl
  · rw [sh2 h3]; rfl
  · rw [sh3 h3]; rfl
  · rw [sh4 h3]; rfl
theorem ad_q {B s L : Nat} {M : AMem} {ns np no : Nat} {p q o : Nat → Nat} (h : AD B s L M ns np no p q o) {i : Nat} (hi : i < np) : (q i < mN M ∧ gr B (mT M) (q i) = 6) ∧ q i + 1 < mN M ∧ gr B (mT M) (q i + 1) = 6 := by
  obtain ⟨h1, h2, h3⟩ := h.2.2.1.2.1 i hi
  refine ⟨⟨by omega, ?_⟩, by omega, ?_⟩
  · rw [gr_d (by omega), pk0 h3]; rfl
  · rw [gr_d (by omega), pk1 h3]; rfl
theorem ad_o {B s L : Nat} {M : AMem} {ns np no : Nat} {p q o : Nat → Nat} (h : AD B s L M ns np no p q o) {i : Nat} (hi : i < no) : o i < mN M ∧ gr B (mT M) (o i) = 7 := by
  obtain ⟨h1, h2, h3⟩ := h.2.2.1.2.2 i hi
  refine ⟨by omega, ?_⟩
  rw [gr_d (by omega), h3]; rfl
theorem ad_N {B s L : Nat} {M : AMem} {ns np no : Nat} {p q o : Nat → Nat} (h : AD B s L M ns np no p q o) : B + 45 ≤ mN M := h.1.1.2.2
/-- frames, a group at a time -/
def FR (B : Nat) (M : AMem) (j : Nat) (I I' : Nat → Nat → Int32) : Prop := ∀ a, a < mN M → gr B (mT M) a = j → I' a = I a
def FK (B : Nat) (M : AMem) (j : Nat) (I I' : Nat → Nat → Int64) : Prop := ∀ a, a < mN M → gr B (mT M) a = j → I' a = I a
theorem fr_k {B j : Nat} {M : AMem} {I I' : Nat → Nat → Int32} (h : FR B M j I I') (hN : B + 45 ≤ mN M) {k : Nat} (hk : k < 45) (hg : gtab.getD k 9 = j) : I' (B + k) = I (B + k) := h _ (by omega) (by rw [gr_k hk, hg])
theorem D1_fr {B : Nat} {M : AMem} {I I' : Nat → Nat → Int32} {ns np no nl : Nat} (hN : B + 45 ≤ mN M) (h : FR B M 1 I I') (d : D1 B I ns np no nl) : D1 B I' ns np no nl := by
  have e0 : I' B = I B := fr_k h hN (k := 0) (by decide) rfl
  have e1 : I' (B + 14) = I (B + 14) := fr_k h hN (by decide) rfl
  unfold D1
  rw [e0, e1]
  exact d
theorem SD_fr {B p i : Nat} {I I' : Nat → Nat → Int32} (d : SD B I p i) (e0 : I' p = I p) (e1 : I' (p + 1) = I (p + 1)) (e2 : I' (p + 2) = I (p + 2)) (e3 : I' (p + 3) = I (p + 3)) (e4 : I' (p + 4) = I (p + 4)) (f0 : I' (B + 15) i = I (B + 15) i) (f1 : I' (B + 16) i = I (B + 16) i) (f2 : ∀ k, k < 54 → I' (B + 17) (54 * i + k) = I (B + 17) (54 * i + k)) (f3 : ∀ k, k < 4 → I' (B + 18) (4 * i + k) = I (B + 18) (4 * i + k)) (f4 : ∀ k, k < 4 → I' (B + 19) (4 * i + k) = I (B + 19) (4 * i + k)) : SD B I' p i := by
  obtain ⟨R, C, h1, h2, h3, h4, h5⟩ := d
  refine ⟨R, C, h1, ?_, fun k hk => ?_, fun c hc => ?_, fun k hk => ?_⟩
  · rw [e0, f0, f1]; exact h2
  · rw [e1, f2 k hk]; exact h3 k hk
  · rw [e1, e2]; exact h4 c hc
  · rw [e3, e4, f3 k hk, f4 k hk]; exact h5 k hk
theorem D2_fr {B s L : Nat} {M : AMem} {ns np no : Nat} {p q o : Nat → Nat} (hA : AD B s L M ns np no p q o) {I I' : Nat → Nat → Int32} (h : FR B M 2 I I') (d : D2 B I ns p) : D2 B I' ns p := by
  have hN := ad_N hA
  have e15 : I' (B + 15) = I (B + 15) := fr_k h hN (by decide) rfl
  have e16 : I' (B + 16) = I (B + 16) := fr_k h hN (by decide) rfl
  have e17 : I' (B + 17) = I (B + 17) := fr_k h hN (by decide) rfl
  have e18 : I' (B + 18) = I (B + 18) := fr_k h hN (by decide) rfl
  have e19 : I' (B + 19) = I (B + 19) := fr_k h hN (by decide) rfl
  refine ⟨fun i hi => ?_, by rw [e18, e19]; exact d.2⟩
  have g : ∀ j, j < 5 → I' (p i + j) = I (p i + j) := fun j hj => h _ (ad_p hA hi hj).1 (ad_p hA hi hj).2
  exact SD_fr (d.1 i hi) (g 0 (by decide)) (g 1 (by decide)) (g 2 (by decide)) (g 3 (by decide)) (g 4 (by decide)) (by rw [e15]) (by rw [e16]) (fun _ _ => by rw [e17]) (fun _ _ => by rw [e18]) (fun _ _ => by rw [e19])
theorem D3_fr {B : Nat} {M : AMem} {I I' : Nat → Nat → Int32} (hN : B + 45 ≤ mN M) (h : FR B M 3 I I') (d : D3 B I) : D3 B I' := by
  have e0 : I' (B + 3) = I (B + 3) := fr_k h hN (by decide) rfl
  have e1 : I' (B + 4) = I (B + 4) := fr_k h hN (by decide) rfl
  have e2 : I' (B + 20) = I (B + 20) := fr_k h hN (by decide) rfl
  have e3 : I' (B + 21) = I (B + 21) := fr_k h hN (by decide) rfl
  unfold D3
  rw [e0, e1, e2, e3]
  exact d
theorem D4_fr {B : Nat} {M : AMem} {I I' : Nat → Nat → Int32} {nl : Nat} (hN : B + 45 ≤ mN M) (h : FR B M 4 I I') (d : D4 B I nl) : D4 B I' nl := by
  have e0 : I' (B + 5) = I (B + 5) := fr_k h hN (by decide) rfl
  have e1 : I' (B + 22) = I (B + 22) := fr_k h hN (by decide) rfl
  have e2 : I' (B + 23) = I (B + 23) := fr_k h hN (by decide) rfl
  have e3 : I' (B + 24) = I (B + 24) := fr_k h hN (by decide) rfl
  unfold D4
  rw [e0, e1, e2, e3]
  exact d
theorem D5_fr {B : Nat} {M : AMem} {I I' : Nat → Nat → Int32} (hN : B + 45 ≤ mN M) (h : FR B M 5 I I') (d : D5 B I) : D5 B I' := by
  have e0 : I' (B + 7) = I (B + 7) := fr_k h hN (by decide) rfl
  have e1 : I' (B + 25) = I (B + 25) := fr_k h hN (by decide) rfl
  unfold D5
  rw [e0, e1]
  exact d
theorem PD_fr {B q i : Nat} {I I' : Nat → Nat → Int32} {K K' : Nat → Nat → Int64} (d : PD B I K q i) (e0 : I' q = I q) (e1 : I' (q + 1) = I (q + 1)) (e2 : K' q = K q) (f0 : I' (B + 26) i = I (B + 26) i) (f1 : I' (B + 27) i = I (B + 27) i) (f2 : ∀ k, k < 60 → I' (B + 28) (60 * i + k) = I (B + 28) (60 * i + k)) (f3 : I' (B + 32) i = I (B + 32) i) (f4 : I' (B + 33) i = I (B + 33) i) (f5 : I' (B + 34) i = I (B + 34) i) (f6 : I' (B + 35) i = I (B + 35) i) (f7 : I' (B + 36) i = I (B + 36) i) : PD B I' K' q i := by
  obtain ⟨n, Kd, h1, h2, h3, h4, h5, h6, h7, h8, h9⟩ := d
  refine ⟨n, Kd, h1, ?_, ?_, ?_, ?_, ?_, ?_, ⟨fun k hk => ?_, ?_⟩, ?_⟩
  · rw [e0, f3]; exact h2
  · rw [e2, f1]; exact h3
  · rw [e0, f5, f6]; exact h4
  · rw [e0, f0]; exact h5
  · rw [e0, f4]; exact h6
  · rw [e0, f7]; exact h7
  · rw [e1, f2 k hk]; exact h8.1 k hk
  · rw [e1]; exact h8.2
  · rw [e0, e1]; exact h9
theorem D6_fr {B s L : Nat} {M : AMem} {ns np no : Nat} {p q o : Nat → Nat} (hA : AD B s L M ns np no p q o) {I I' : Nat → Nat → Int32} {K K' : Nat → Nat → Int64} (h : FR B M 6 I I') (hk : FK B M 6 K K') (d : D6 B I K np q) : D6 B I' K' np q := by
  have hN := ad_N hA
  have e26 : I' (B + 26) = I (B + 26) := fr_k h hN (by decide) rfl
  have e27 : I' (B + 27) = I (B + 27) := fr_k h hN (by decide) rfl
  have e28 : I' (B + 28) = I (B + 28) := fr_k h hN (by decide) rfl
  have e32 : I' (B + 32) = I (B + 32) := fr_k h hN (by decide) rfl
  have e33 : I' (B + 33) = I (B + 33) := fr_k h hN (by decide) rfl
  have e34 : I' (B + 34) = I (B + 34) := fr_k h hN (by decide) rfl
  have e35 : I' (B + 35) = I (B + 35) := fr_k h hN (by decide) rfl
  have e36 : I' (B + 36) = I (B + 36) := fr_k h hN (by decide) rfl
  refine ⟨fun i hi => ?_, by rw [e32, e36, e28]; exact d.2⟩
  obtain ⟨⟨g1, g2⟩, g3, g4⟩ := ad_q hA hi
  exact PD_fr (d.1 i hi) (h _ g1 g2) (h _ g3 g4) (hk _ g1 g2) (by rw [e26]) (by rw [e27]) (fun _ _ => by rw [e28]) (by rw [e32]) (by rw [e33]) (by rw [e34]) (by rw [e35]) (by rw [e36])
theorem OD_fr {B o k : Nat} {I I' : Nat → Nat → Int32} {K K' : Nat → Nat → Int64} (d : OD B I K o k) (e0 : I' o = I o) (e2 : K' o = K o) (f0 : I' (B + 37) k = I (B + 37) k) (f1 : I' (B + 38) k = I (B + 38) k) (f2 : I' (B + 39) k = I (B + 39) k) (f3 : I' (B + 40) k = I (B + 40) k) (f4 : I' (B + 41) k = I (B + 41) k) : OD B I' K' o k := by
  obtain ⟨h, m, z, Kd, b, h1, h2, h3, h4, h5, h6⟩ := d
  refine ⟨h, m, z, Kd, b, h1, ?_, ?_, ?_, ?_, ?_⟩
  · rw [e0, f0]; exact h2
  · rw [e2, f3]; exact h3
  · rw [e0, f1]; exact h4
  · rw [e0, f2]; exact h5
  · rw [e0, f4]; exact h6
theorem D7_fr {B s L : Nat} {M : AMem} {ns np no : Nat} {p q o : Nat → Nat} (hA : AD B s L M ns np no p q o) {I I' : Nat → Nat → Int32} {K K' : Nat → Nat → Int64} (h : FR B M 7 I I') (hk : FK B M 7 K K') (d : D7 B I K no o) : D7 B I' K' no o := by
  have hN := ad_N hA
  have e37 : I' (B + 37) = I (B + 37) := fr_k h hN (by decide) rfl
  have e38 : I' (B + 38) = I (B + 38) := fr_k h hN (by decide) rfl
  have e39 : I' (B + 39) = I (B + 39) := fr_k h hN (by decide) rfl
  have e40 : I' (B + 40) = I (B + 40) := fr_k h hN (by decide) rfl
  have e41 : I' (B + 41) = I (B + 41) := fr_k h hN (by decide) rfl
  refine ⟨fun k hk2 => ?_, by rw [e41]; exact d.2⟩
  obtain ⟨g1, g2⟩ := ad_o hA hk2
  exact OD_fr (d.1 k hk2) (h _ g1 g2) (hk _ g1 g2) (by rw [e37]) (by rw [e38]) (by rw [e39]) (by rw [e40]) (by rw [e41])
theorem D8_fr {B : Nat} {M : AMem} {I I' : Nat → Nat → Int32} {no : Nat} (hN : B + 45 ≤ mN M) (h : FR B M 8 I I') (h7 : FR B M 7 I I') (d : D8 B I no) : D8 B I' no := by
  have e0 : I' (B + 13) = I (B + 13) := fr_k h hN (by decide) rfl
  have e1 : I' (B + 42) = I (B + 42) := fr_k h hN (by decide) rfl
  have e37 : I' (B + 37) = I (B + 37) := fr_k h7 hN (by decide) rfl
  have e38 : I' (B + 38) = I (B + 38) := fr_k h7 hN (by decide) rfl
  have e39 : I' (B + 39) = I (B + 39) := fr_k h7 hN (by decide) rfl
  have e41 : I' (B + 41) = I (B + 41) := fr_k h7 hN (by decide) rfl
  unfold D8 owF
  rw [e0, e1, e37, e38, e39, e41]
  exact d
theorem AD_fr {B s L : Nat} {M M' : AMem} {ns np no : Nat} {p q o : Nat → Nat} (h : AD B s L M ns np no p q o) (hT : ∀ a, a < mN M → mT M' a = mT M a) (hR : ∀ a, a < mN M → mR M' a = mR M a) (hN : mN M ≤ mN M') : AD B s L M' ns np no p q o := by
  have h0 := ad_N h
  obtain ⟨⟨h1, h2, h3, h4⟩, ⟨r1, r2, r3⟩, ⟨a1, a2, a3⟩, hd⟩ := h
  refine ⟨⟨⟨fun k hk => ?_, fun e he => ?_, by omega⟩, h2, by rw [hT _ (by omega)]; exact h3, h4⟩, ⟨?_, ?_, ?_⟩, ⟨fun i hi => ?_, fun i hi => ?_, fun i hi => ?_⟩, hd⟩
  · rw [hT _ (by omega)]; exact h1.1 k hk
  · have hb : e.1 < 45 := by
      have : ∀ e ∈ stR0, e.1 < 45 := by decide
      exact this e he
    rw [hR _ (by omega)]; exact h1.2.1 e he
  · rw [hR _ (by omega)]; exact r1
  · rw [hR _ (by omega)]; exact r2
  · rw [hR _ (by omega)]; exact r3
  · obtain ⟨b1, b2, b3⟩ := a1 i hi
    refine ⟨b1, by omega, ?_⟩
    unfold SH
    rw [hT _ (by omega), hT _ (by omega), hT _ (by omega), hT _ (by omega), hT _ (by omega), hR _ (by omega)]
    exact b3
  · obtain ⟨b1, b2, b3⟩ := a2 i hi
    refine ⟨b1, by omega, ?_⟩
    unfold PK
    rw [hT _ (by omega), hT _ (by omega), hR _ (by omega)]
    exact b3
  · obtain ⟨b1, b2, b3⟩ := a3 i hi
    exact ⟨b1, by omega, by rw [hT _ (by omega)]; exact b3⟩
/-- a change in some groups -/
theorem INV_set {B s L : Nat} {M M' : AMem} {ns np no nl nl' : Nat} {p q o : Nat → Nat} (J : List Nat) (h : INV B s L M ns np no nl p q o) (hT : ∀ a, a < mN M → mT M' a = mT M a) (hR : ∀ a, a < mN M → mR M' a = mR M a) (hN : mN M ≤ mN M')
    (hI : ∀ a, a < mN M → J.contains (gr B (mT M) a) = false → ¬ gr B (mT M) a = 9 → mI M' a = mI M a) (hL : ∀ a, a < mN M → ¬ gr B (mT M) a = 9 → mL M' a = mL M a) (hnl : nl' = nl ∨ (J.contains 1 = true ∧ J.contains 4 = true))
    (c1 : J.contains 1 = true → D1 B (mI M') ns np no nl') (c2 : J.contains 2 = true → D2 B (mI M') ns p) (c3 : J.contains 3 = true → D3 B (mI M')) (c4 : J.contains 4 = true → D4 B (mI M') nl') (c5 : J.contains 5 = true → D5 B (mI M')) (c6 : J.contains 6 = true → D6 B (mI M') (mL M') np q) (c7 : J.contains 7 = true → D7 B (mI M') (mL M') no o) (c8 : (J.contains 7 || J.contains 8) = true → D8 B (mI M') no) : INV B s L M' ns np no nl' p q o := by
  obtain ⟨hA, d1, d2, d3, d4, d5, d6, d7, d8⟩ := h
  have hN0 := ad_N hA
  have fr : ∀ k, J.contains k = false → k < 9 → FR B M k (mI M) (mI M') := fun k hk hk9 a ha e => hI a ha (by rw [e]; exact hk) (by rw [e]; omega)
  have fk : ∀ k, k < 9 → FK B M k (mL M) (mL M') := fun k hk9 a ha e => hL a ha (by rw [e]; omega)
  have nt : ∀ {b : Bool}, ¬ b = true → b = false := fun {b} h => by cases b; rfl; exact absurd rfl h
  refine ⟨AD_fr hA hT hR hN, ?_, ?_, ?_, ?_, ?_, ?_, ?_, ?_⟩
  · by_cases e : J.contains 1 = true
    · exact c1 e
    · rcases hnl with rfl | hnl
      · exact D1_fr hN0 (fr 1 (nt e) (by decide)) d1
      · exact absurd hnl.1 e
  · by_cases e : J.contains 2 = true
    · exact c2 e
    · exact D2_fr hA (fr 2 (nt e) (by decide)) d2
  · by_cases e : J.contains 3 = true
    · exact c3 e
    · exact D3_fr hN0 (fr 3 (nt e) (by decide)) d3
  · by_cases e : J.contains 4 = true
    · exact c4 e
    · rcases hnl with rfl | hnl
      · exact D4_fr hN0 (fr 4 (nt e) (by decide)) d4
      · exact absurd hnl.2 e
  · by_cases e : J.contains 5 = true
    · exact c5 e
    · exact D5_fr hN0 (fr 5 (nt e) (by decide)) d5
  · by_cases e : J.contains 6 = true
    · exact c6 e
    · exact D6_fr hA (fr 6 (nt e) (by decide)) (fk 6 (by decide)) d6
  · by_cases e : J.contains 7 = true
    · exact c7 e
    · exact D7_fr hA (fr 7 (nt e) (by decide)) (fk 7 (by decide)) d7
  · by_cases e : (J.contains 7 || J.contains 8) = true
    · exact c8 e
    · have e2 := nt e
      rw [Bool.or_eq_false_iff] at e2
      exact D8_fr hN0 (fr 8 e2.2 (by decide)) (fr 7 e2.1 (by decide)) d8
theorem D1_thr {B : Nat} {M : AMem} {ns np no nl : Nat} {w : Int32} (d : D1 B (mI M) ns np no nl) : D1 B (mI (thr B M w)) ns np no nl := by
  unfold D1 thr at *
  simp [mI_stI, va_up_ap, upd_ap]
  simpa using d
/-- nothing but what was thrown -/
theorem INV_thr {B s L : Nat} {M : AMem} {ns np no nl : Nat} {p q o : Nat → Nat} {w : Int32} (h : INV B s L M ns np no nl p q o) : INV B s L (thr B M w) ns np no nl p q o :=
  INV_set [1] h (fun _ _ => rfl) (fun _ _ => rfl) (Nat.le_refl _) (fun a _ ha _ => va_ne (gr_k (B := B) (k := 14) (T := mT M) (by decide)) (fun e => by rw [e] at ha; exact absurd ha (by decide))) (fun _ _ _ => rfl) (Or.inl rfl) (fun _ => D1_thr h.2.1) (fun e => absurd e (by decide)) (fun e => absurd e (by decide)) (fun e => absurd e (by decide)) (fun e => absurd e (by decide)) (fun e => absurd e (by decide)) (fun e => absurd e (by decide)) (fun e => absurd e (by decide))
/-- scratch -/
theorem INV_sc {B s L x : Nat} {M : AMem} {ns np no nl : Nat} {p q o : Nat → Nat} {f : Nat → Int32} (h : INV B s L M ns np no nl p q o) (hx : gr B (mT M) x = 9) : INV B s L (stI M x f) ns np no nl p q o :=
  INV_set [] h (fun _ _ => rfl) (fun _ _ => rfl) (Nat.le_refl _) (fun a _ _ ha => va_ne hx ha) (fun _ _ _ => rfl) (Or.inl rfl) (fun e => absurd e (by decide)) (fun e => absurd e (by decide)) (fun e => absurd e (by decide)) (fun e => absurd e (by decide)) (fun e => absurd e (by decide)) (fun e => absurd e (by decide)) (fun e => absurd e (by decide)) (fun e => absurd e (by decide))
theorem INV_oM {B s L : Nat} {M : AMem} {ns np no nl : Nat} {p q o : Nat → Nat} {f : Nat → Int64} (h : INV B s L M ns np no nl p q o) : INV B s L (stL M (B + 43) f) ns np no nl p q o :=
  INV_set [] h (fun _ _ => rfl) (fun _ _ => rfl) (Nat.le_refl _) (fun a _ _ _ => rfl) (fun a _ ha => va_ne (gr_k (B := B) (k := 43) (T := mT M) (by decide)) ha) (Or.inl rfl) (fun e => absurd e (by decide)) (fun e => absurd e (by decide)) (fun e => absurd e (by decide)) (fun e => absurd e (by decide)) (fun e => absurd e (by decide)) (fun e => absurd e (by decide)) (fun e => absurd e (by decide)) (fun e => absurd e (by decide))
theorem INV_stD {B s L a : Nat} {M : AMem} {ns np no nl : Nat} {p q o : Nat → Nat} {f : Nat → UInt64} (h : INV B s L M ns np no nl p q o) : INV B s L (stD M a f) ns np no nl p q o := h
/-- a cell more -/
theorem INV_stN {B s L k n sl : Nat} {M : AMem} {ns np no nl : Nat} {p q o : Nat → Nat} (h : INV B s L M ns np no nl p q o) : INV B s L (stN M k n sl) ns np no nl p q o :=
  INV_set [] h (fun a ha => by rw [mT_stN, va_up_ap, if_neg (by omega)]) (fun a ha => by rw [mR_stN, va_up_ap, if_neg (by omega)]) (Nat.le_succ _) (fun a ha _ _ => by rw [mI_stN, va_up_ap, if_neg (by omega)]) (fun a ha _ => by rw [mL_stN, va_up_ap, if_neg (by omega)]) (Or.inl rfl) (fun e => absurd e (by decide)) (fun e => absurd e (by decide)) (fun e => absurd e (by decide)) (fun e => absurd e (by decide)) (fun e => absurd e (by decide)) (fun e => absurd e (by decide)) (fun e => absurd e (by decide)) (fun e => absurd e (by decide))
theorem INV_ST {B s L : Nat} {M : AMem} {ns np no nl : Nat} {p q o : Nat → Nat} (h : INV B s L M ns np no nl p q o) : ST B M := h.1.1.1
