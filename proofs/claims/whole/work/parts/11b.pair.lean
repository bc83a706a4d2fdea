/-! ===== a call of the class beside one of the reference ===== -/
def oM (B : Nat) (M : AMem) (r : Int32) : AMem := stL M (B + 43) (vp_updL (mL M (B + 43)) 0 r.toInt64)
theorem ST_oM {B : Nat} {M : AMem} {r : Int32} : ST B (oM B M r) = ST B M := rfl
theorem mT_oM {B : Nat} {M : AMem} {r : Int32} : mT (oM B M r) = mT M := rfl
theorem mI_oM {B : Nat} {M : AMem} {r : Int32} : mI (oM B M r) = mI M := rfl
def toC (x : Int32) : Int32 := (x.toUInt32 % 65536).toInt32
def LL (B s i : Nat) (T : ALs) : ALs := [(0, .ref s), (1, .ref B), (2, .ref (B + 14)), (3, .ref (B + 43)), (4, .ref (B + 44)), (5, .int (nI i))] ++ T
def tl (T : ALs) : Prop := T = [] ∨ ∃ v w, T = [(6, v), (7, w)]
def SK (B s : Nat) (M M' : AMem) : Prop := ST B M' ∧ mT M' s = mT M s ∧ mI M' s = mI M s
/-- class and reference both answer the same -/
def Pok (B s c m : Nat) (as : List Value) (M M2 : AMem) : Prop := ∃ M1 r, (∀ Q, CaP c (.ref B :: as) M Q = Q (M1, .inl (some (.int r)))) ∧ SK B s M M1 ∧ (∀ Q, CaP m (.ref (B + 14) :: as) (oM B M1 r) Q = Q (M2, .inl (some (.int r)))) ∧ SK B s M M2 ∧ mI M2 (B + 14) 36 = 0 ∧ mL M2 (B + 43) 0 = r.toInt64
/-- the same, of booleans -/
def Pob (B s c m : Nat) (as : List Value) (M M2 : AMem) : Prop := ∃ M1 b, (∀ Q, CaP c (.ref B :: as) M Q = Q (M1, .inl (some (.int (bi b))))) ∧ SK B s M M1 ∧ (∀ Q, CaP m (.ref (B + 14) :: as) (oM B M1 (bi b)) Q = Q (M2, .inl (some (.int (bi b))))) ∧ SK B s M M2 ∧ mI M2 (B + 14) 36 = 0 ∧ mL M2 (B + 43) 0 = (bi b).toInt64
/-- the class throws E, the reference says w -/
def Pth (B s c m : Nat) (as : List Value) (M M2 : AMem) (E : Nat) (w : Int32) : Prop := ∃ M1 v, (∀ Q, CaP c (.ref B :: as) M Q = Q (M1, .inr E)) ∧ SK B s M M1 ∧ (∀ Q, CaP m (.ref (B + 14) :: as) M1 Q = Q (M2, .inl (some (.int v)))) ∧ SK B s M M2 ∧ mI M2 (B + 14) 36 = w
/-- behind a call all holds as before, and little room is taken -/
def CS (B s L : Nat) (M M2 : AMem) : Prop := Inv B s L M2 ∧ mN M2 ≤ mN M + 8 ∧ mS M2 ≤ mS M + 400
def GO (B s L c m : Nat) (as : List Value) (th : List (Nat × Int32)) (M : AMem) : Prop := ∃ M2, CS B s L M M2 ∧ (Pok B s c m as M M2 ∨ ∃ e ∈ th, Pth B s c m as M M2 e.1 e.2)
def GB (B s L c m : Nat) (as : List Value) (th : List (Nat × Int32)) (M : AMem) : Prop := ∃ M2, CS B s L M M2 ∧ (Pob B s c m as M M2 ∨ ∃ e ∈ th, Pth B s c m as M M2 e.1 e.2)
theorem SK_stI {B s a : Nat} {M M' : AMem} {f : Nat → Int32} (h : SK B s M M') (ha : ¬ s = a) : SK B s M (stI M' a f) := ⟨h.1, h.2.1, by rw [mI_stI, va_up_ap, if_neg ha]; exact h.2.2⟩
theorem SK_rf {B s : Nat} {M : AMem} (h : ST B M) : SK B s M M := ⟨h, rfl, rfl⟩
theorem SK_oM {B s : Nat} {M M' : AMem} {r : Int32} (h : SK B s M M') : SK B s M (oM B M' r) := h
theorem SK_thr {B s : Nat} {M M' : AMem} {w : Int32} (h : SK B s M M') (hs : s < B) : SK B s M (thr B M' w) := SK_stI h (by omega)
theorem SK_stN {B s L k n sl : Nat} {M : AMem} {ns np no nl : Nat} {p q o : Nat → Nat} (h : INV B s L M ns np no nl p q o) : SK B s M (stN M k n sl) := by
  have h2 := @INV_stN B s L k n sl M ns np no nl p q o h
  have hN := ad_N h.1
  have hs := h.1.1.2.1
  exact ⟨INV_ST h2, by rw [mT_stN, va_up_ap, if_neg (by omega)], by rw [mI_stN, va_up_ap, if_neg (by omega)]⟩
theorem thr_36 {B : Nat} {M : AMem} {w : Int32} : mI (thr B M w) (B + 14) 36 = w := by simp [thr, mI_stI, va_up_ap, upd_ap]
theorem oM_out {B : Nat} {M : AMem} {r : Int32} : mL (oM B M r) (B + 43) 0 = r.toInt64 := by simp [oM, mL_stL, va_up_ap, vp_updL]
theorem GO_th {B s L c m : Nat} {as : List Value} {th : List (Nat × Int32)} {M : AMem} {ns np no nl : Nat} {p q o : Nat → Nat} (h : INV B s L M ns np no nl p q o) (E : Nat) (w v : Int32) (he : (E, w) ∈ th) (h1 : ∀ Q, CaP c (.ref B :: as) M Q = Q (stN M 0 0 6, .inr E)) (h2 : INV B s L (stN M 0 0 6) ns np no nl p q o → ∀ Q, CaP m (.ref (B + 14) :: as) (stN M 0 0 6) Q = Q (thr B (stN M 0 0 6) w, .inl (some (.int v)))) : ∃ M2, CS B s L M M2 ∧ ∃ e ∈ th, Pth B s c m as M M2 e.1 e.2 := by
  have i2 := @INV_stN B s L 0 0 6 M ns np no nl p q o h
  have hs := h.1.1.2.1
  have k1 : SK B s M (stN M 0 0 6) := SK_stN h
  exact ⟨_, ⟨⟨ns, np, no, nl, p, q, o, INV_thr i2⟩, Nat.le_trans (Nat.le_of_eq (show _ = mN M + 1 from rfl)) (by omega), Nat.le_trans (Nat.le_of_eq (show _ = mS M + 6 from rfl)) (by omega)⟩, (E, w), he, _, v, h1, k1, h2 i2, SK_thr k1 hs, thr_36⟩
theorem go_th {B s L c m : Nat} {as : List Value} {th : List (Nat × Int32)} {M : AMem} (h : ∃ M2, CS B s L M M2 ∧ ∃ e ∈ th, Pth B s c m as M M2 e.1 e.2) : GO B s L c m as th M := by
  obtain ⟨M2, h1, h2⟩ := h
  exact ⟨M2, h1, Or.inr h2⟩
theorem gb_th {B s L c m : Nat} {as : List Value} {th : List (Nat × Int32)} {M : AMem} (h : ∃ M2, CS B s L M M2 ∧ ∃ e ∈ th, Pth B s c m as M M2 e.1 e.2) : GB B s L c m as th M := by
  obtain ⟨M2, h1, h2⟩ := h
  exact ⟨M2, h1, Or.inr h2⟩
/-- a call that only reads -/
theorem go_rd {B s L c m : Nat} {as : List Value} {th : List (Nat × Int32)} {M : AMem} {ns np no nl : Nat} {p q o : Nat → Nat} (h : INV B s L M ns np no nl p q o) (r : Int32) (h1 : ∀ Q, CaP c (.ref B :: as) M Q = Q (M, .inl (some (.int r)))) (h2 : ∀ Q, CaP m (.ref (B + 14) :: as) (oM B M r) Q = Q (thr B (oM B M r) 0, .inl (some (.int r)))) : GO B s L c m as th M :=
  ⟨_, ⟨⟨ns, np, no, nl, p, q, o, INV_thr (INV_oM h)⟩, Nat.le_trans (Nat.le_of_eq (show _ = mN M from rfl)) (by omega), Nat.le_trans (Nat.le_of_eq (show _ = mS M from rfl)) (by omega)⟩, Or.inl ⟨M, r, h1, SK_rf (INV_ST h), h2, SK_thr (SK_oM (SK_rf (INV_ST h))) h.1.1.2.1, thr_36, oM_out⟩⟩
theorem gb_rd {B s L c m : Nat} {as : List Value} {th : List (Nat × Int32)} {M : AMem} {ns np no nl : Nat} {p q o : Nat → Nat} (h : INV B s L M ns np no nl p q o) (b : Bool) (h1 : ∀ Q, CaP c (.ref B :: as) M Q = Q (M, .inl (some (.int (bi b))))) (h2 : ∀ Q, CaP m (.ref (B + 14) :: as) (oM B M (bi b)) Q = Q (thr B (oM B M (bi b)) 0, .inl (some (.int (bi b))))) : GB B s L c m as th M :=
  ⟨_, ⟨⟨ns, np, no, nl, p, q, o, INV_thr (INV_oM h)⟩, Nat.le_trans (Nat.le_of_eq (show _ = mN M from rfl)) (by omega), Nat.le_trans (Nat.le_of_eq (show _ = mS M from rfl)) (by omega)⟩, Or.inl ⟨M, b, h1, SK_rf (INV_ST h), h2, SK_thr (SK_oM (SK_rf (INV_ST h))) h.1.1.2.1, thr_36, oM_out⟩⟩
/-- one that also leaves counts -/
theorem go_rc {B s L c m x : Nat} {as : List Value} {th : List (Nat × Int32)} {M : AMem} {ns np no nl : Nat} {p q o : Nat → Nat} {z : Nat → Int32} (h : INV B s L M ns np no nl p q o) (hx : gr B (mT M) (B + x) = 9) (hx2 : ¬ B + 14 = B + x) (r : Int32) (h1 : ∀ Q, CaP c (.ref B :: as) M Q = Q (M, .inl (some (.int r)))) (h2 : ∀ Q, CaP m (.ref (B + 14) :: as) (oM B M r) Q = Q (stI (thr B (oM B M r) 0) (B + x) z, .inl (some (.int r)))) : GO B s L c m as th M := by
  have hs := h.1.1.2.1
  exact ⟨_, ⟨⟨ns, np, no, nl, p, q, o, INV_sc (INV_thr (INV_oM h)) hx⟩, Nat.le_trans (Nat.le_of_eq (show _ = mN M from rfl)) (by omega), Nat.le_trans (Nat.le_of_eq (show _ = mS M from rfl)) (by omega)⟩, Or.inl ⟨M, r, h1, SK_rf (INV_ST h), h2, SK_stI (SK_thr (SK_oM (SK_rf (INV_ST h))) hs) (by omega), by rw [mI_stI, va_up_ap, if_neg hx2]; exact thr_36, oM_out⟩⟩
theorem gb_rc {B s L c m x : Nat} {as : List Value} {th : List (Nat × Int32)} {M : AMem} {ns np no nl : Nat} {p q o : Nat → Nat} {z : Nat → Int32} (h : INV B s L M ns np no nl p q o) (hx : gr B (mT M) (B + x) = 9) (hx2 : ¬ B + 14 = B + x) (b : Bool) (h1 : ∀ Q, CaP c (.ref B :: as) M Q = Q (M, .inl (some (.int (bi b))))) (h2 : ∀ Q, CaP m (.ref (B + 14) :: as) (oM B M (bi b)) Q = Q (stI (thr B (oM B M (bi b)) 0) (B + x) z, .inl (some (.int (bi b))))) : GB B s L c m as th M := by
  have hs := h.1.1.2.1
  exact ⟨_, ⟨⟨ns, np, no, nl, p, q, o, INV_sc (INV_thr (INV_oM h)) hx⟩, Nat.le_trans (Nat.le_of_eq (show _ = mN M from rfl)) (by omega), Nat.le_trans (Nat.le_of_eq (show _ = mS M from rfl)) (by omega)⟩, Or.inl ⟨M, b, h1, SK_rf (INV_ST h), h2, SK_stI (SK_thr (SK_oM (SK_rf (INV_ST h))) hs) (by omega), by rw [mI_stI, va_up_ap, if_neg hx2]; exact thr_36, oM_out⟩⟩
/-- one that writes in a group -/
theorem go_wr {B s L c m : Nat} {as : List Value} {th : List (Nat × Int32)} {M M1 M2 : AMem} {r : Int32} (hs : s < B) (h1 : ∀ Q, CaP c (.ref B :: as) M Q = Q (M1, .inl (some (.int r)))) (k1 : SK B s M M1) (h2 : ∀ Q, CaP m (.ref (B + 14) :: as) (oM B M1 r) Q = Q (M2, .inl (some (.int r)))) (k2 : SK B s M M2) (ht : mI M2 (B + 14) 36 = 0) (hl : mL M2 (B + 43) 0 = r.toInt64) (hc : CS B s L M M2) : GO B s L c m as th M := ⟨M2, hc, Or.inl ⟨M1, r, h1, k1, h2, k2, ht, hl⟩⟩
/-- what INV says, at hand -/
theorem iv_ns {B s L : Nat} {M : AMem} {ns np no nl : Nat} {p q o : Nat → Nat} (h : INV B s L M ns np no nl p q o) : mI M (B + 14) 28 = nI ns ∧ ns ≤ 6 := ⟨h.2.1.1.2, h.1.1.2.2.2.1⟩
theorem iv_np {B s L : Nat} {M : AMem} {ns np no nl : Nat} {p q o : Nat → Nat} (h : INV B s L M ns np no nl p q o) : mI M (B + 14) 30 = nI np ∧ np ≤ 12 := ⟨h.2.1.2.1.2, h.1.1.2.2.2.2.1⟩
theorem iv_no {B s L : Nat} {M : AMem} {ns np no nl : Nat} {p q o : Nat → Nat} (h : INV B s L M ns np no nl p q o) : mI M (B + 14) 31 = nI no ∧ no ≤ 12 := ⟨h.2.1.2.2.1.2, h.1.1.2.2.2.2.2⟩
theorem iv_nl {B s L : Nat} {M : AMem} {ns np no nl : Nat} {p q o : Nat → Nat} (h : INV B s L M ns np no nl p q o) : mI M (B + 14) 29 = nI nl ∧ nl ≤ 5 := h.2.1.2.2.2.1
theorem iv_rs {B s L : Nat} {M : AMem} {ns np no nl : Nat} {p q o : Nat → Nat} (h : INV B s L M ns np no nl p q o) {i : Nat} (hi : i < ns) : i < 6 ∧ mR M (B + 1) i = some (p i) ∧ SH M (p i) := by
  have := (iv_ns h).2
  exact ⟨by omega, by rw [h.1.2.1.1 i (by omega), if_pos hi], (h.1.2.2.1.1 i hi).2.2⟩
theorem iv_rsx {B s L : Nat} {M : AMem} {ns np no nl : Nat} {p q o : Nat → Nat} (h : INV B s L M ns np no nl p q o) : ∀ i, ns ≤ i → i < 6 → mR M (B + 1) i = none := fun i h1 h2 => by rw [h.1.2.1.1 i h2, if_neg (by omega)]
theorem iv_rp {B s L : Nat} {M : AMem} {ns np no nl : Nat} {p q o : Nat → Nat} (h : INV B s L M ns np no nl p q o) {i : Nat} (hi : i < np) : i < 12 ∧ mR M (B + 8) i = some (q i) ∧ PK M (q i) := by
  have := (iv_np h).2
  exact ⟨by omega, by rw [h.1.2.1.2.1 i (by omega), if_pos hi], (h.1.2.2.1.2.1 i hi).2.2⟩
theorem iv_rpx {B s L : Nat} {M : AMem} {ns np no nl : Nat} {p q o : Nat → Nat} (h : INV B s L M ns np no nl p q o) : ∀ i, np ≤ i → i < 12 → mR M (B + 8) i = none := fun i h1 h2 => by rw [h.1.2.1.2.1 i h2, if_neg (by omega)]
theorem iv_ix {x : Int32} {n : Nat} {y : Int32} (hy : y = nI n) (h : inR x 0 (nI n - 1) = true) : inR x 0 (y - 1) = true := by rw [hy]; exact h
theorem s97x {B s L : Nat} {M : AMem} {ns np no nl : Nat} {p q o : Nat → Nat} (h : INV B s L M ns np no nl p q o) {x : Int32} (hx : inR x 0 (nI ns - 1) = false) : ∀ Q, CaP 97 [.ref B, .int x] M Q = Q (stN M 0 0 6, .inr 2) := fun Q => sp97x (INV_ST h) (iv_ns h).2 (iv_rsx h) hx
theorem s98x {B s L : Nat} {M : AMem} {ns np no nl : Nat} {p q o : Nat → Nat} (h : INV B s L M ns np no nl p q o) {x : Int32} (hx : inR x 0 (nI np - 1) = false) : ∀ Q, CaP 98 [.ref B, .int x] M Q = Q (stN M 0 0 6, .inr 2) := fun Q => sp98x (INV_ST h) (iv_np h).2 (iv_rpx h) hx
