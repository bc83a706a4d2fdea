def bi (b : Bool) : Int32 := if b = true then 1 else 0
theorem bi_t : bi true = 1 := rfl
theorem bi_f : bi false = 0 := rfl
theorem nar_bi {b : Bool} : narrow .boolean (.int (bi b)) = .int (bi b) := by cases b <;> rfl
theorem nvp_bi {b : Bool} : vp_nar .boolean (bi b) = bi b := by cases b <;> rfl
theorem fits_bi {b : Bool} : fits .boolean (.int (bi b)) = true := by cases b <;> rfl
theorem bi_ne {b : Bool} : (bi b = 0) = (b = false) := by cases b <;> simp [bi]
def inR (n lo hi : Int32) : Bool := decide (lo ≤ n) && decide (n ≤ hi)
theorem inR_f1 {n lo hi : Int32} (h : n < lo) : inR n lo hi = false := by simp [inR, Int32.not_le.mpr h]
theorem inR_f2 {n lo hi : Int32} (h : hi < n) : inR n lo hi = false := by simp [inR, Int32.not_le.mpr h]
theorem inR_t {n lo hi : Int32} (h1 : ¬ n < lo) (h2 : ¬ hi < n) : inR n lo hi = true := by simp [inR, Int32.not_lt.mp h1, Int32.not_lt.mp h2]
theorem fin3 : ((3 : Fin 4) : Nat) = 3 := rfl
theorem nc115 : narrow .char (.int 115) = .int 115 := rfl
theorem vc115 : vp_nar .char 115 = 115 := rfl
theorem fc115 : fits .char (.int 115) = true := rfl
theorem nc111 : narrow .char (.int 111) = .int 111 := rfl
theorem vc111 : vp_nar .char 111 = 111 := rfl
theorem fc111 : fits .char (.int 111) = true := rfl
theorem nc100 : narrow .char (.int 100) = .int 100 := rfl
theorem vc100 : vp_nar .char 100 = 100 := rfl
theorem fc100 : fits .char (.int 100) = true := rfl
theorem nc109 : narrow .char (.int 109) = .int 109 := rfl
theorem vc109 : vp_nar .char 109 = 109 := rfl
theorem fc109 : fits .char (.int 109) = true := rfl
theorem nc120 : narrow .char (.int 120) = .int 120 := rfl
theorem vc120 : vp_nar .char 120 = 120 := rfl
theorem fc120 : fits .char (.int 120) = true := rfl
theorem nc119 : narrow .char (.int 119) = .int 119 := rfl
theorem vc119 : vp_nar .char 119 = 119 := rfl
theorem fc119 : fits .char (.int 119) = true := rfl
theorem nc116 : narrow .char (.int 116) = .int 116 := rfl
theorem vc116 : vp_nar .char 116 = 116 := rfl
theorem fc116 : fits .char (.int 116) = true := rfl
theorem nc45 : narrow .char (.int 45) = .int 45 := rfl
theorem vc45 : vp_nar .char 45 = 45 := rfl
theorem fc45 : fits .char (.int 45) = true := rfl
theorem nc32 : narrow .char (.int 32) = .int 32 := rfl
theorem vc32 : vp_nar .char 32 = 32 := rfl
theorem fc32 : fits .char (.int 32) = true := rfl
theorem nc102 : narrow .char (.int 102) = .int 102 := rfl
theorem vc102 : vp_nar .char 102 = 102 := rfl
theorem fc102 : fits .char (.int 102) = true := rfl
theorem nc106 : narrow .char (.int 106) = .int 106 := rfl
theorem vc106 : vp_nar .char 106 = 106 := rfl
theorem fc106 : fits .char (.int 106) = true := rfl
theorem rf_some {a : Nat} : va_rf (some a) = .ref a := rfl
theorem rf_none : va_rf none = .null := rfl
theorem upd_ap {f : Nat → Int32} {k j : Nat} {x : Int32} : upd f k x j = if j = k then x else f j := rfl
theorem va_up_ap {α : Type} {f : Nat → α} {k j : Nat} {x : α} : va_up f k x j = if j = k then x else f j := rfl
theorem oP_none {m pc : Nat} {ls : ALs} {M : AMem} {Q : AR → Prop} : outP m pc ls M Q none = False := rfl
theorem oP_next {m pc pc' : Nat} {ls ls' : ALs} {st' : List Value} {M M' : AMem} {Q : AR → Prop} : outP m pc ls M Q (some (.inl (pc', ls', st', M'))) = EvP m pc' ls' st' M' Q := rfl
theorem oP_call {m pc mj : Nat} {ls : ALs} {as rs : List Value} {M : AMem} {Q : AR → Prop} : outP m pc ls M Q (some (.inr (.inl (mj, as, rs)))) = CaP mj as M (aftP m pc ls rs Q) := rfl
theorem oP_ret {m pc : Nat} {ls : ALs} {v : Option Value} {M : AMem} {Q : AR → Prop} : outP m pc ls M Q (some (.inr (.inr (.inl v)))) = Q (M, .inl v) := rfl
theorem oP_thr {m pc E : Nat} {ls : ALs} {M : AMem} {Q : AR → Prop} : outP m pc ls M Q (some (.inr (.inr (.inr E)))) = Q (stN M 0 0 6, .inr E) := rfl
theorem wrv_0 {M : AMem} {a k : Nat} {x : Int32} : wrv M a k 0 (.int x) = some (stI M a (upd (mI M a) k x)) := if_pos ⟨Nat.zero_le _, rfl, rfl⟩
theorem wrv_1 {M : AMem} {a k : Nat} {x : Int32} (h : narrow .boolean (.int x) = .int x) (h2 : fits .boolean (.int x) = true) : wrv M a k 1 (.int x) = some (stI M a (upd (mI M a) k x)) := if_pos ⟨by decide, h, h2⟩
theorem wrv_2 {M : AMem} {a k : Nat} {x : Int32} (h : narrow .char (.int x) = .int x) (h2 : fits .char (.int x) = true) : wrv M a k 2 (.int x) = some (stI M a (upd (mI M a) k x)) := if_pos ⟨by decide, h, h2⟩
theorem wrv_3 {M : AMem} {a k : Nat} {x : Int64} : wrv M a k 3 (.long x) = some (stL M a (vp_updL (mL M a) k x)) := by simp [wrv]
theorem wrv_5 {M : AMem} {a k x : Nat} : wrv M a k 5 (.ref x) = some (stR M a (va_up (mR M a) k (some x))) := by simp [wrv]
/-- a letter of a kind -/
def kdF (k : Int32) : Bool := decide (k = 102) || decide (k = 106) || decide (k = 115)
/-- whether a kind has a card, as the reference says it -/
def kdOf (k n : Int32) : Bool := decide (k = 106) || (decide (n < 52) && (decide (k = 102) || decide (5 ≤ n - n / 13 * 13)))
theorem sp87 {n lo hi : Int32} {M : AMem} {Q : AR → Prop} : CaP 87 [.int n, .int lo, .int hi] M Q = Q (M, .inl (some (.int (bi (inR n lo hi))))) := by
  unfold CaP
  simp [lv_args, sStep, amStep, a_nx, a_ii, a_jj, a_ji, a_ld, a_st, a_if, a_ald, a_c1, a_c2, lkp, lput, lput2, lins, oP_none, oP_next, oP_call, oP_ret, oP_thr, outP_ite, aft_ret, aft_void, aft_thr, fHnd, List.isEmpty_nil, List.filter_cons, List.filter_nil, Value.category, csum, List.map_cons, List.map_nil, List.sum_cons, List.sum_nil, List.cons_append, List.nil_append, Option.toList, vp_nar_int, narrow_b1, narrow_b0, nc115, vc115, fc115, nc111, vc111, fc111, nc100, vc100, fc100, nc109, vc109, fc109, nc120, vc120, fc120, nc119, vc119, fc119, nc116, vc116, fc116, nc45, vc45, fc45, nc32, vc32, fc32, nc102, vc102, fc102, nc106, vc106, fc106, fin3, rf_some, rf_none, upd_ap, va_up_ap, nar_bi, fits_bi, nvp_bi, bi_t, bi_f, fval, fty, ftabs, wrv_0, wrv_1, wrv_2, wrv_3, wrv_5, mT_stI, mI_stI, mL_stI, mD_stI, mR_stI, mN_stI, mS_stI, mT_stL, mI_stL, mL_stL, mD_stL, mR_stL, mN_stL, mS_stL, mT_stD, mI_stD, mL_stD, mD_stD, mR_stD, mN_stD, mS_stD, mT_stR, mI_stR, mL_stR, mD_stR, mR_stR, mN_stR, mS_stR, mT_stN, mI_stN, mL_stN, mD_stN, mR_stN, mN_stN, mS_stN, e87_0, e87_1, e87_2, e87_5, e87_6, e87_7, e87_10, e87_11, e87_14, e87_15, rt87, hn87]
  by_cases h1 : n < lo
  · simp [h1, inR_f1 h1, bi]
  · by_cases h2 : hi < n
    · simp [h1, h2, inR_f2 h2, bi]
    · simp [h1, h2, inR_t h1 h2, bi]
theorem sp88 {r u n : Int32} {M : AMem} {Q : AR → Prop} : CaP 88 [.int r, .int u, .int n] M Q = Q (M, .inl (some (.int (bi (inR r (-n) n && inR u (-n) n))))) := by
  unfold CaP
  simp [lv_args, sStep, amStep, a_nx, a_ii, a_jj, a_ji, a_ld, a_st, a_if, a_ald, a_c1, a_c2, lkp, lput, lput2, lins, oP_none, oP_next, oP_call, oP_ret, oP_thr, outP_ite, aft_ret, aft_void, aft_thr, fHnd, List.isEmpty_nil, List.filter_cons, List.filter_nil, Value.category, csum, List.map_cons, List.map_nil, List.sum_cons, List.sum_nil, List.cons_append, List.nil_append, Option.toList, vp_nar_int, narrow_b1, narrow_b0, nc115, vc115, fc115, nc111, vc111, fc111, nc100, vc100, fc100, nc109, vc109, fc109, nc120, vc120, fc120, nc119, vc119, fc119, nc116, vc116, fc116, nc45, vc45, fc45, nc32, vc32, fc32, nc102, vc102, fc102, nc106, vc106, fc106, fin3, rf_some, rf_none, upd_ap, va_up_ap, nar_bi, fits_bi, nvp_bi, bi_t, bi_f, fval, fty, ftabs, wrv_0, wrv_1, wrv_2, wrv_3, wrv_5, mT_stI, mI_stI, mL_stI, mD_stI, mR_stI, mN_stI, mS_stI, mT_stL, mI_stL, mL_stL, mD_stL, mR_stL, mN_stL, mS_stL, mT_stD, mI_stD, mL_stD, mD_stD, mR_stD, mN_stD, mS_stD, mT_stR, mI_stR, mL_stR, mD_stR, mR_stR, mN_stR, mS_stR, mT_stN, mI_stN, mL_stN, mD_stN, mR_stN, mN_stN, mS_stN, e88_0, e88_1, e88_2, e88_3, e88_4, e88_7, e88_10, e88_11, e88_12, e88_13, e88_14, e88_17, e88_20, e88_21, e88_24, e88_25, rt88, hn88, cl87, sp87, bi_ne]
  cases inR r (-n) n <;> cases inR u (-n) n <;> simp [bi]
theorem sp89 {n : Int32} {M : AMem} {Q : AR → Prop} : CaP 89 [.int n] M Q = Q (M, .inl (some (.int (bi (inR n 0 53))))) := by
  unfold CaP
  simp [lv_args, sStep, amStep, a_nx, a_ii, a_jj, a_ji, a_ld, a_st, a_if, a_ald, a_c1, a_c2, lkp, lput, lput2, lins, oP_none, oP_next, oP_call, oP_ret, oP_thr, outP_ite, aft_ret, aft_void, aft_thr, fHnd, List.isEmpty_nil, List.filter_cons, List.filter_nil, Value.category, csum, List.map_cons, List.map_nil, List.sum_cons, List.sum_nil, List.cons_append, List.nil_append, Option.toList, vp_nar_int, narrow_b1, narrow_b0, nc115, vc115, fc115, nc111, vc111, fc111, nc100, vc100, fc100, nc109, vc109, fc109, nc120, vc120, fc120, nc119, vc119, fc119, nc116, vc116, fc116, nc45, vc45, fc45, nc32, vc32, fc32, nc102, vc102, fc102, nc106, vc106, fc106, fin3, rf_some, rf_none, upd_ap, va_up_ap, nar_bi, fits_bi, nvp_bi, bi_t, bi_f, fval, fty, ftabs, wrv_0, wrv_1, wrv_2, wrv_3, wrv_5, mT_stI, mI_stI, mL_stI, mD_stI, mR_stI, mN_stI, mS_stI, mT_stL, mI_stL, mL_stL, mD_stL, mR_stL, mN_stL, mS_stL, mT_stD, mI_stD, mL_stD, mD_stD, mR_stD, mN_stD, mS_stD, mT_stR, mI_stR, mL_stR, mD_stR, mR_stR, mN_stR, mS_stR, mT_stN, mI_stN, mL_stN, mD_stN, mR_stN, mN_stN, mS_stN, e89_0, e89_1, e89_2, e89_4, e89_7, rt89, hn89, cl87, sp87]
theorem sp93 {n : Int32} {M : AMem} {Q : AR → Prop} : CaP 93 [.int n] M Q = if inR n 0 53 = true then Q (M, .inl none) else Q (stN M 0 0 6, .inr 0) := by
  unfold CaP
  simp [lv_args, sStep, amStep, a_nx, a_ii, a_jj, a_ji, a_ld, a_st, a_if, a_ald, a_c1, a_c2, lkp, lput, lput2, lins, oP_none, oP_next, oP_call, oP_ret, oP_thr, outP_ite, aft_ret, aft_void, aft_thr, fHnd, List.isEmpty_nil, List.filter_cons, List.filter_nil, Value.category, csum, List.map_cons, List.map_nil, List.sum_cons, List.sum_nil, List.cons_append, List.nil_append, Option.toList, vp_nar_int, narrow_b1, narrow_b0, nc115, vc115, fc115, nc111, vc111, fc111, nc100, vc100, fc100, nc109, vc109, fc109, nc120, vc120, fc120, nc119, vc119, fc119, nc116, vc116, fc116, nc45, vc45, fc45, nc32, vc32, fc32, nc102, vc102, fc102, nc106, vc106, fc106, fin3, rf_some, rf_none, upd_ap, va_up_ap, nar_bi, fits_bi, nvp_bi, bi_t, bi_f, fval, fty, ftabs, wrv_0, wrv_1, wrv_2, wrv_3, wrv_5, mT_stI, mI_stI, mL_stI, mD_stI, mR_stI, mN_stI, mS_stI, mT_stL, mI_stL, mL_stL, mD_stL, mR_stL, mN_stL, mS_stL, mT_stD, mI_stD, mL_stD, mD_stD, mR_stD, mN_stD, mS_stD, mT_stR, mI_stR, mL_stR, mD_stR, mR_stR, mN_stR, mS_stR, mT_stN, mI_stN, mL_stN, mD_stN, mR_stN, mN_stN, mS_stN, e93_0, e93_1, e93_4, e93_7, e93_17, rt93, hn93, cl89, sp89, bi_ne]
theorem inb_nI {k n : Nat} (h : k < n) (hn : n < 2 ^ 31) : inb (nI k) n = true := by
  have h1 := vp_in_iff.mp (vp_in_nI h hn)
  simp [inb, h1.1, h1.2]
theorem stI_stI {M : AMem} {a : Nat} {f g : Nat → Int32} : stI (stI M a f) a g = stI M a g := by
  have h : va_up (va_up (mI M) a f) a g = va_up (mI M) a g := by
    funext j
    simp only [va_up_ap]
    split <;> rfl
  show (_, va_up (va_up (mI M) a f) a g, _, _, _, _, _) = (_, va_up (mI M) a g, _, _, _, _, _)
  rw [h]
  rfl
theorem inR_nI {k n : Nat} (h : k ≤ n) (hn : n < 2 ^ 31) : inR (nI k) 0 (nI n) = true := by
  have h1 : (0 : Int32) ≤ nI k := nI_pos' (by omega)
  have h2 : nI k ≤ nI n := nI_le h hn
  simp [inR, h1, h2]
theorem inR53 {k : Nat} (h : k < 54) : inR (nI k) 0 53 = true := inR_nI (n := 53) (by omega) (by decide)
theorem loopE {m pc : Nat} {Q : AR → Prop} (n : Nat) (L : Nat → ALs) (F : Nat → AMem) (h : ∀ k, k < n → EvP m pc (L k) [] (F k) Q = EvP m pc (L (k + 1)) [] (F (k + 1)) Q) : EvP m pc (L 0) [] (F 0) Q = EvP m pc (L n) [] (F n) Q := by
  induction n with
  | zero => rfl
  | succ n ih => exact (ih (fun k hk => h k (by omega))).trans (h n (by omega))
theorem loopX {m pc : Nat} {Q : AR → Prop} (ok : Nat → Bool) (n : Nat) (L : Nat → ALs) (F : Nat → AMem) (h : ∀ k, k < n → ok k = true → EvP m pc (L k) [] (F k) Q = EvP m pc (L (k + 1)) [] (F (k + 1)) Q) : ∃ j, j ≤ n ∧ (∀ k, k < j → ok k = true) ∧ (j < n → ok j = false) ∧ EvP m pc (L 0) [] (F 0) Q = EvP m pc (L j) [] (F j) Q := by
  induction n with
  | zero => exact ⟨0, Nat.le_refl 0, fun k hk => absurd hk (Nat.not_lt_zero k), fun hj => absurd hj (Nat.lt_irrefl 0), rfl⟩
  | succ n ih =>
    obtain ⟨j, h1, h2, h3, h4⟩ := ih (fun k hk => h k (by omega))
    by_cases hj : j < n
    · exact ⟨j, by omega, h2, fun _ => h3 hj, h4⟩
    · have e : j = n := by omega
      subst e
      cases ho : ok j
      · exact ⟨j, by omega, h2, fun _ => ho, h4⟩
      · refine ⟨j + 1, by omega, fun k hk => ?_, fun hl => absurd hl (Nat.lt_irrefl _), h4.trans (h j (by omega) ho)⟩
        rcases Nat.lt_succ_iff_lt_or_eq.mp hk with h5 | h5
        · exact h2 k h5
        · rw [h5]
          exact ho
theorem va_up_id {α : Type} {f : Nat → α} {a : Nat} : va_up f a (f a) = f := by
  funext j
  simp only [va_up_ap]
  split
  · rename_i h
    rw [h]
  · rfl
theorem stI_self {M : AMem} {a : Nat} : stI M a (mI M a) = M := by
  show (_, va_up (mI M) a (mI M a), _, _, _, _, _) = M
  rw [va_up_id]
  rfl
theorem stI_eq {M : AMem} {a : Nat} {f : Nat → Int32} (h : f = mI M a) : stI M a f = M := by
  rw [h]
  exact stI_self
theorem ge54 {k : Nat} (h : k < 54) : ¬ (54 : Int32) ≤ nI k := nI_ge (b := 54) h (by decide)
theorem nI54 : nI 54 = 54 := rfl
theorem lt31 {k n : Nat} (h : k < n) (hn : n < 2 ^ 31) : k < 2 ^ 31 := Nat.lt_trans h hn
def isCN (x : Int32) : Prop := x = -1 ∨ ∃ c, c < 54 ∧ x = nI c
theorem nI_nm1 {c : Nat} (h : c < 54) : ¬ nI c = (-1 : Int32) := by
  intro he
  have h1 := congrArg Int32.toInt he
  rw [nI_toInt (by omega)] at h1
  have h2 : (-1 : Int32).toInt = -1 := by decide
  omega
/-- sums -/
def sumF (f : Nat → Int32) : Nat → Int32
  | 0 => 0
  | k + 1 => sumF f k + f k
/-- whether all are so -/
def allB (ok : Nat → Bool) : Nat → Bool
  | 0 => true
  | k + 1 => allB ok k && ok k
theorem sumF_0 {f : Nat → Int32} : sumF f 0 = 0 := rfl
theorem ix_34 {k : Nat} (hk : k < 35) : (34 : Int32) - nI k = nI (34 - k) := by
  have e : (34 : Int32) = nI (34 - k + k) := by
    rw [show 34 - k + k = 34 by omega]
    rfl
  rw [e, ← nI_add]
  rw [Int32.add_sub_cancel]
theorem ge35 {k : Nat} (h : k < 35) : ¬ (35 : Int32) ≤ nI k := nI_ge (b := 35) h (by decide)
theorem nI35 : nI 35 = 35 := rfl
def trnF (f : Nat → Int32) (k : Nat) : Bool := decide (f k = f (34 - k))
theorem ge4 {k : Nat} (h : k < 4) : ¬ (4 : Int32) ≤ nI k := nI_ge (b := 4) h (by decide)
theorem nI4 : nI 4 = 4 := rfl
theorem loopT {m pc : Nat} {Q : AR → Prop} (Tp : ALs → Prop) (n : Nat) (L : Nat → ALs → ALs) (F : Nat → AMem) (h : ∀ k, k < n → ∀ T, Tp T → ∃ T', Tp T' ∧ EvP m pc (L k T) [] (F k) Q = EvP m pc (L (k + 1) T') [] (F (k + 1)) Q) : ∀ T, Tp T → ∃ T', Tp T' ∧ EvP m pc (L 0 T) [] (F 0) Q = EvP m pc (L n T') [] (F n) Q := by
  induction n with
  | zero => exact fun T hT => ⟨T, hT, rfl⟩
  | succ n ih =>
    intro T hT
    obtain ⟨T1, h1, e1⟩ := ih (fun k hk => h k (by omega)) T hT
    obtain ⟨T2, h2, e2⟩ := h n (by omega) T1 h1
    exact ⟨T2, h2, e1.trans e2⟩
def tl1 (j : Nat) (T : ALs) : Prop := T = [] ∨ ∃ x, T = [(j, .int x)]
def tl2 (i j : Nat) (T : ALs) : Prop := T = [] ∨ (∃ x, T = [(i, .int x)]) ∨ ∃ x y, T = [(i, .int x), (j, .int y)]
def rem54 (x : Int32) : Int32 := x - x / 54 * 54
/-- empty places laid, from a card on -/
def layF (f : Nat → Int32) (o : Nat) (c : Int32) : Nat → (Nat → Int32) × Nat
  | 0 => (f, 0)
  | k + 1 => if f (o + k) = -1 then (upd (layF f o c k).1 (o + k) (rem54 (c + nI (layF f o c k).2)), (layF f o c k).2 + 1) else layF f o c k
theorem layF_0 {f : Nat → Int32} {o : Nat} {c : Int32} : layF f o c 0 = (f, 0) := rfl
theorem layF_hi {f : Nat → Int32} {o : Nat} {c : Int32} {k j : Nat} (h : k ≤ j) : (layF f o c k).1 (o + j) = f (o + j) := by
  induction k with
  | zero => rfl
  | succ k ih =>
    unfold layF
    split
    · simp only [upd_ap]
      rw [if_neg (by omega)]
      exact ih (by omega)
    · exact ih (by omega)
/-- whether counts are alike -/
def evF (T : Nat → Int32) : Nat → Bool × Int32
  | 0 => (true, 0)
  | k + 1 => ((evF T k).1 && (decide (T k = 0) || decide ((evF T k).2 = 0) || decide (T k = (evF T k).2)), if 0 < T k then T k else (evF T k).2)
/-- the first that is so, from above; -1 if none is -/
def dnF (ok : Nat → Bool) : Nat → Int32
  | 0 => -1
  | k + 1 => if ok (53 - k) = true then nI (53 - k) else dnF ok k
def lakF (f : Nat → Int32) (K : Int32) (c : Nat) : Bool := kdOf K (nI c) && decide (f c = 0)
theorem nlt0 {k : Nat} (h : k < 2 ^ 31) : ¬ nI k < 0 := nI_pos h
/-- the least of a kind -/
def poF (f : Nat → Int32) (K : Int32) : Nat → Int32
  | 0 => 9999
  | k + 1 => if kdOf K (nI k) = true then (if f k < poF f K k then f k else poF f K k) else poF f K k
theorem poF_0 {f : Nat → Int32} {K : Int32} : poF f K 0 = 9999 := rfl
theorem lt0 {n : Nat} (h : n < 2 ^ 31) : ((0 : Int32) < nI n) = (0 < n) := by
  have e : (0 : Int32) = nI 0 := rfl
  rw [e, nI_ltI (by omega) h]
theorem eq0 {n : Nat} (h : n < 2 ^ 31) : (nI n = (0 : Int32)) = (n = 0) := by
  have e : (0 : Int32) = nI 0 := rfl
  rw [e, nI_eq h (by omega)]
theorem stI_cm {M : AMem} {B i j : Nat} {f g : Nat → Int32} (h : i < j) : stI (stI M (B + j) f) (B + i) g = stI (stI M (B + i) g) (B + j) f := by
  have e : va_up (va_up (mI M) (B + j) f) (B + i) g = va_up (va_up (mI M) (B + i) g) (B + j) f := by
    funext a
    simp only [va_up_ap]
    by_cases h1 : a = B + i
    · rw [if_pos h1, if_neg (by omega), if_pos h1]
    · rw [if_neg h1, if_neg h1]
  show (_, va_up (va_up (mI M) (B + j) f) (B + i) g, _, _, _, _, _) = (_, va_up (va_up (mI M) (B + i) g) (B + j) f, _, _, _, _, _)
  rw [e]
  rfl
def addF (f g : Nat → Int32) (k : Nat) : Nat → Int32 := fun j => if j < k then f j + g j else f j
theorem addF_0 {f g : Nat → Int32} : addF f g 0 = f := by
  funext j
  exact if_neg (Nat.not_lt_zero j)
theorem addF_at {f g : Nat → Int32} {k : Nat} : addF f g k k = f k := if_neg (Nat.lt_irrefl k)
theorem addF_S {f g : Nat → Int32} {k : Nat} : upd (addF f g k) k (f k + g k) = addF f g (k + 1) := by
  funext j
  show (if j = k then f k + g k else if j < k then f j + g j else f j) = (if j < k + 1 then f j + g j else f j)
  by_cases h : j = k
  · subst h
    rw [if_pos rfl, if_pos (by omega)]
  · rw [if_neg h]
    by_cases h2 : j < k
    · rw [if_pos h2, if_pos (by omega)]
    · rw [if_neg h2, if_neg (by omega)]
def giF (f : Nat → Int32) (K : Int32) (k : Nat) : Nat → Int32 := fun j => if j < k ∧ kdOf K (nI j) = true then f j - 1 else f j
theorem giF_0 {f : Nat → Int32} {K : Int32} : giF f K 0 = f := by
  funext j
  exact if_neg (fun h => Nat.not_lt_zero j h.1)
theorem giF_at {f : Nat → Int32} {K : Int32} {k : Nat} : giF f K k k = f k := if_neg (fun h => Nat.lt_irrefl k h.1)
theorem giF_S {f : Nat → Int32} {K : Int32} {k : Nat} (hk : kdOf K (nI k) = true) : upd (giF f K k) k (f k - 1) = giF f K (k + 1) := by
  funext j
  show (if j = k then f k - 1 else if j < k ∧ kdOf K (nI j) = true then f j - 1 else f j) = (if j < k + 1 ∧ kdOf K (nI j) = true then f j - 1 else f j)
  by_cases h : j = k
  · subst h
    rw [if_pos rfl, if_pos ⟨by omega, hk⟩]
  · rw [if_neg h]
    by_cases h2 : j < k ∧ kdOf K (nI j) = true
    · rw [if_pos h2, if_pos ⟨by omega, h2.2⟩]
    · rw [if_neg h2, if_neg (fun h3 => h2 ⟨by omega, h3.2⟩)]
theorem giF_N {f : Nat → Int32} {K : Int32} {k : Nat} (hk : kdOf K (nI k) = false) : giF f K (k + 1) = giF f K k := by
  funext j
  show (if j < k + 1 ∧ kdOf K (nI j) = true then f j - 1 else f j) = (if j < k ∧ kdOf K (nI j) = true then f j - 1 else f j)
  by_cases h2 : j < k ∧ kdOf K (nI j) = true
  · rw [if_pos h2, if_pos ⟨by omega, h2.2⟩]
  · rw [if_neg h2, if_neg]
    intro h3
    by_cases h4 : j = k
    · subst h4
      rw [hk] at h3
      cases h3.2
    · exact h2 ⟨by omega, h3.2⟩
theorem loopG {m pc : Nat} {Q : AR → Prop} (S : Nat → ALs → AMem → Prop) (n : Nat) (h : ∀ k, k < n → ∀ ls M, S k ls M → ∃ ls' M', S (k + 1) ls' M' ∧ EvP m pc ls [] M Q = EvP m pc ls' [] M' Q) : ∀ ls M, S 0 ls M → ∃ ls' M', S n ls' M' ∧ EvP m pc ls [] M Q = EvP m pc ls' [] M' Q := by
  induction n with
  | zero => exact fun ls M hs => ⟨ls, M, hs, rfl⟩
  | succ n ih =>
    intro ls M hs
    obtain ⟨l1, M1, h1, e1⟩ := ih (fun k hk => h k (by omega)) ls M hs
    obtain ⟨l2, M2, h2, e2⟩ := h n (by omega) l1 M1 h1
    exact ⟨l2, M2, h2, e1.trans e2⟩
theorem lcon3 : lcon 3 = 4486555116511200 := rfl
theorem lcon4 : lcon 4 = 4503599627370495 := rfl
theorem lcon5 : lcon 5 = 18014398509481983 := rfl
theorem sp2 {B : Nat} {M : AMem} {Q : AR → Prop} (h : ST B M) : CaP 2 [.ref (B + 6)] M Q = Q (M, .inl (some (.int (bi (allB (trnF (mI M (B + 7))) 35))))) := by
  obtain ⟨j, h1, h2, h3, e⟩ := loopX (m := 2) (pc := 2) (Q := Q) (trnF (mI M (B + 7))) 35 (fun k => [(0, .ref (B + 6)), (1, .int (nI k))]) (fun _ => M) (by
    intro k hk ho
    simp only [trnF, decide_eq_true_eq] at ho
    rw [e2_2]
    simp [lv_args, sStep, amStep, a_nx, a_ii, a_jj, a_ji, a_ld, a_st, a_if, a_ald, a_c1, a_c2, lkp, lput, lput2, lins, oP_none, oP_next, oP_call, oP_ret, oP_thr, outP_ite, aft_ret, aft_void, aft_thr, fHnd, List.isEmpty_nil, List.filter_cons, List.filter_nil, Value.category, csum, List.map_cons, List.map_nil, List.sum_cons, List.sum_nil, List.cons_append, List.nil_append, Option.toList, vp_nar_int, narrow_b1, narrow_b0, nc115, vc115, fc115, nc111, vc111, fc111, nc100, vc100, fc100, nc109, vc109, fc109, nc120, vc120, fc120, nc119, vc119, fc119, nc116, vc116, fc116, nc45, vc45, fc45, nc32, vc32, fc32, nc102, vc102, fc102, nc106, vc106, fc106, fin3, rf_some, rf_none, upd_ap, va_up_ap, nar_bi, fits_bi, nvp_bi, bi_t, bi_f, fval, fty, ftabs, wrv_0, wrv_1, wrv_2, wrv_3, wrv_5, mT_stI, mI_stI, mL_stI, mD_stI, mR_stI, mN_stI, mS_stI, mT_stL, mI_stL, mL_stL, mD_stL, mR_stL, mN_stL, mS_stL, mT_stD, mI_stD, mL_stD, mD_stD, mR_stD, mN_stD, mS_stD, mT_stR, mI_stR, mL_stR, mD_stR, mR_stR, mN_stR, mS_stR, mT_stN, mI_stN, mL_stN, mD_stN, mR_stN, mN_stN, mS_stN, e2_0, e2_1, e2_3, e2_4, e2_7, e2_8, e2_11, e2_12, e2_15, e2_16, e2_17, e2_18, e2_21, e2_22, e2_25, e2_26, e2_27, e2_28, e2_29, e2_30, e2_31, e2_34, e2_35, e2_36, e2_39, e2_42, e2_43, rt2, hn2, h, tT0, tT1, tT2, tT3, tT4, tT5, tT6, tT7, tT8, tT9, tT10, tT11, tT12, tT13, tR0_0, tR0_6, tR0_7, tR0_8, tR0_9, tR0_11, tR0_12, tR0_14, tR2_0, tR2_1, tR6_0, tR9_0, tR9_1, ST_stI, ST_stL, ST_stD, ge35 hk, ix_34 hk, inb_nI hk, inb_nI (show 34 - k < 35 by omega), nI_clamp (lt31 hk (by decide)), nI_clamp (show 34 - k < 2 ^ 31 by omega), nI_1, ho])
  have hb : allB (trnF (mI M (B + 7))) 35 = decide (j = 35) := by
    by_cases hj : j = 35
    · subst hj
      have : ∀ n, n ≤ 35 → allB (trnF (mI M (B + 7))) n = true := by
        intro n
        induction n with
        | zero => exact fun _ => rfl
        | succ n ih => intro hn; show (allB _ n && _) = true; rw [ih (by omega), h2 n (by omega)]; rfl
      rw [this 35 (Nat.le_refl _)]
      rfl
    · have hlt : j < 35 := by omega
      have hf := h3 hlt
      have : ∀ n, j < n → allB (trnF (mI M (B + 7))) n = false := by
        intro n
        induction n with
        | zero => exact fun hn => absurd hn (Nat.not_lt_zero _)
        | succ n ih =>
          intro hn
          show (allB _ n && _) = false
          by_cases he : j = n
          · subst he; rw [hf, Bool.and_false]
          · rw [ih (by omega), Bool.false_and]
      rw [this 35 hlt]
      simp [hj]
  simp only [nI_0] at e
  unfold CaP
  simp [lv_args, sStep, amStep, a_nx, a_ii, a_jj, a_ji, a_ld, a_st, a_if, a_ald, a_c1, a_c2, lkp, lput, lput2, lins, oP_none, oP_next, oP_call, oP_ret, oP_thr, outP_ite, aft_ret, aft_void, aft_thr, fHnd, List.isEmpty_nil, List.filter_cons, List.filter_nil, Value.category, csum, List.map_cons, List.map_nil, List.sum_cons, List.sum_nil, List.cons_append, List.nil_append, Option.toList, vp_nar_int, narrow_b1, narrow_b0, nc115, vc115, fc115, nc111, vc111, fc111, nc100, vc100, fc100, nc109, vc109, fc109, nc120, vc120, fc120, nc119, vc119, fc119, nc116, vc116, fc116, nc45, vc45, fc45, nc32, vc32, fc32, nc102, vc102, fc102, nc106, vc106, fc106, fin3, rf_some, rf_none, upd_ap, va_up_ap, nar_bi, fits_bi, nvp_bi, bi_t, bi_f, fval, fty, ftabs, wrv_0, wrv_1, wrv_2, wrv_3, wrv_5, mT_stI, mI_stI, mL_stI, mD_stI, mR_stI, mN_stI, mS_stI, mT_stL, mI_stL, mL_stL, mD_stL, mR_stL, mN_stL, mS_stL, mT_stD, mI_stD, mL_stD, mD_stD, mR_stD, mN_stD, mS_stD, mT_stR, mI_stR, mL_stR, mD_stR, mR_stR, mN_stR, mS_stR, mT_stN, mI_stN, mL_stN, mD_stN, mR_stN, mN_stN, mS_stN, e2_0, e2_1, e2_3, e2_4, e2_7, e2_8, e2_11, e2_12, e2_15, e2_16, e2_17, e2_18, e2_21, e2_22, e2_25, e2_26, e2_27, e2_28, e2_29, e2_30, e2_31, e2_34, e2_35, e2_36, e2_39, e2_42, e2_43, rt2, hn2, h, tT0, tT1, tT2, tT3, tT4, tT5, tT6, tT7, tT8, tT9, tT10, tT11, tT12, tT13, tR0_0, tR0_6, tR0_7, tR0_8, tR0_9, tR0_11, tR0_12, tR0_14, tR2_0, tR2_1, tR6_0, tR9_0, tR9_1, ST_stI, ST_stL, ST_stD]
  rw [e, e2_2, hb]
  by_cases hj : j = 35
  · subst hj
    simp [lv_args, sStep, amStep, a_nx, a_ii, a_jj, a_ji, a_ld, a_st, a_if, a_ald, a_c1, a_c2, lkp, lput, lput2, lins, oP_none, oP_next, oP_call, oP_ret, oP_thr, outP_ite, aft_ret, aft_void, aft_thr, fHnd, List.isEmpty_nil, List.filter_cons, List.filter_nil, Value.category, csum, List.map_cons, List.map_nil, List.sum_cons, List.sum_nil, List.cons_append, List.nil_append, Option.toList, vp_nar_int, narrow_b1, narrow_b0, nc115, vc115, fc115, nc111, vc111, fc111, nc100, vc100, fc100, nc109, vc109, fc109, nc120, vc120, fc120, nc119, vc119, fc119, nc116, vc116, fc116, nc45, vc45, fc45, nc32, vc32, fc32, nc102, vc102, fc102, nc106, vc106, fc106, fin3, rf_some, rf_none, upd_ap, va_up_ap, nar_bi, fits_bi, nvp_bi, bi_t, bi_f, fval, fty, ftabs, wrv_0, wrv_1, wrv_2, wrv_3, wrv_5, mT_stI, mI_stI, mL_stI, mD_stI, mR_stI, mN_stI, mS_stI, mT_stL, mI_stL, mL_stL, mD_stL, mR_stL, mN_stL, mS_stL, mT_stD, mI_stD, mL_stD, mD_stD, mR_stD, mN_stD, mS_stD, mT_stR, mI_stR, mL_stR, mD_stR, mR_stR, mN_stR, mS_stR, mT_stN, mI_stN, mL_stN, mD_stN, mR_stN, mN_stN, mS_stN, e2_0, e2_1, e2_3, e2_4, e2_7, e2_8, e2_11, e2_12, e2_15, e2_16, e2_17, e2_18, e2_21, e2_22, e2_25, e2_26, e2_27, e2_28, e2_29, e2_30, e2_31, e2_34, e2_35, e2_36, e2_39, e2_42, e2_43, rt2, hn2, h, tT0, tT1, tT2, tT3, tT4, tT5, tT6, tT7, tT8, tT9, tT10, tT11, tT12, tT13, tR0_0, tR0_6, tR0_7, tR0_8, tR0_9, tR0_11, tR0_12, tR0_14, tR2_0, tR2_1, tR6_0, tR9_0, tR9_1, ST_stI, ST_stL, ST_stD, nI35, Int32.le_refl]
  · have hlt : j < 35 := by omega
    have hf := h3 hlt
    simp only [trnF, decide_eq_false_iff_not] at hf
    simp [lv_args, sStep, amStep, a_nx, a_ii, a_jj, a_ji, a_ld, a_st, a_if, a_ald, a_c1, a_c2, lkp, lput, lput2, lins, oP_none, oP_next, oP_call, oP_ret, oP_thr, outP_ite, aft_ret, aft_void, aft_thr, fHnd, List.isEmpty_nil, List.filter_cons, List.filter_nil, Value.category, csum, List.map_cons, List.map_nil, List.sum_cons, List.sum_nil, List.cons_append, List.nil_append, Option.toList, vp_nar_int, narrow_b1, narrow_b0, nc115, vc115, fc115, nc111, vc111, fc111, nc100, vc100, fc100, nc109, vc109, fc109, nc120, vc120, fc120, nc119, vc119, fc119, nc116, vc116, fc116, nc45, vc45, fc45, nc32, vc32, fc32, nc102, vc102, fc102, nc106, vc106, fc106, fin3, rf_some, rf_none, upd_ap, va_up_ap, nar_bi, fits_bi, nvp_bi, bi_t, bi_f, fval, fty, ftabs, wrv_0, wrv_1, wrv_2, wrv_3, wrv_5, mT_stI, mI_stI, mL_stI, mD_stI, mR_stI, mN_stI, mS_stI, mT_stL, mI_stL, mL_stL, mD_stL, mR_stL, mN_stL, mS_stL, mT_stD, mI_stD, mL_stD, mD_stD, mR_stD, mN_stD, mS_stD, mT_stR, mI_stR, mL_stR, mD_stR, mR_stR, mN_stR, mS_stR, mT_stN, mI_stN, mL_stN, mD_stN, mR_stN, mN_stN, mS_stN, e2_0, e2_1, e2_3, e2_4, e2_7, e2_8, e2_11, e2_12, e2_15, e2_16, e2_17, e2_18, e2_21, e2_22, e2_25, e2_26, e2_27, e2_28, e2_29, e2_30, e2_31, e2_34, e2_35, e2_36, e2_39, e2_42, e2_43, rt2, hn2, h, tT0, tT1, tT2, tT3, tT4, tT5, tT6, tT7, tT8, tT9, tT10, tT11, tT12, tT13, tR0_0, tR0_6, tR0_7, tR0_8, tR0_9, tR0_11, tR0_12, tR0_14, tR2_0, tR2_1, tR6_0, tR9_0, tR9_1, ST_stI, ST_stL, ST_stD, ge35 hlt, ix_34 hlt, inb_nI hlt, inb_nI (show 34 - j < 35 by omega), nI_clamp (lt31 hlt (by decide)), nI_clamp (show 34 - j < 2 ^ 31 by omega), hf, hj]
theorem sp6 {B : Nat} {M : AMem} {Q : AR → Prop} (h : ST B M) : CaP 6 [.ref (B + 5)] M Q = Q (M, .inl (some (.int (bi (decide (100 ≤ mI M (B + 5) 2)))))) := by
  unfold CaP
  simp [lv_args, sStep, amStep, a_nx, a_ii, a_jj, a_ji, a_ld, a_st, a_if, a_ald, a_c1, a_c2, lkp, lput, lput2, lins, oP_none, oP_next, oP_call, oP_ret, oP_thr, outP_ite, aft_ret, aft_void, aft_thr, fHnd, List.isEmpty_nil, List.filter_cons, List.filter_nil, Value.category, csum, List.map_cons, List.map_nil, List.sum_cons, List.sum_nil, List.cons_append, List.nil_append, Option.toList, vp_nar_int, narrow_b1, narrow_b0, nc115, vc115, fc115, nc111, vc111, fc111, nc100, vc100, fc100, nc109, vc109, fc109, nc120, vc120, fc120, nc119, vc119, fc119, nc116, vc116, fc116, nc45, vc45, fc45, nc32, vc32, fc32, nc102, vc102, fc102, nc106, vc106, fc106, fin3, rf_some, rf_none, upd_ap, va_up_ap, nar_bi, fits_bi, nvp_bi, bi_t, bi_f, fval, fty, ftabs, wrv_0, wrv_1, wrv_2, wrv_3, wrv_5, mT_stI, mI_stI, mL_stI, mD_stI, mR_stI, mN_stI, mS_stI, mT_stL, mI_stL, mL_stL, mD_stL, mR_stL, mN_stL, mS_stL, mT_stD, mI_stD, mL_stD, mD_stD, mR_stD, mN_stD, mS_stD, mT_stR, mI_stR, mL_stR, mD_stR, mR_stR, mN_stR, mS_stR, mT_stN, mI_stN, mL_stN, mD_stN, mR_stN, mN_stN, mS_stN, e6_0, e6_1, e6_4, e6_6, e6_9, e6_10, e6_13, e6_14, rt6, hn6, h, tT0, tT1, tT2, tT3, tT4, tT5, tT6, tT7, tT8, tT9, tT10, tT11, tT12, tT13, tR0_0, tR0_6, tR0_7, tR0_8, tR0_9, tR0_11, tR0_12, tR0_14, tR2_0, tR2_1, tR6_0, tR9_0, tR9_1, ST_stI, ST_stL, ST_stD]
  by_cases h1 : mI M (B + 5) 2 < 100
  · simp [h1, Int32.not_le.mpr h1, bi]
  · simp [h1, Int32.not_lt.mp h1, bi]
theorem sp20 {B k : Nat} {M : AMem} {Q : AR → Prop} (h : ST B M) (hk : k < 54) : CaP 20 [.ref (B + 2), .int (nI k)] M Q = Q (M, .inl (some (.int (mI M (B + 3) k)))) := by
  unfold CaP
  simp [lv_args, sStep, amStep, a_nx, a_ii, a_jj, a_ji, a_ld, a_st, a_if, a_ald, a_c1, a_c2, lkp, lput, lput2, lins, oP_none, oP_next, oP_call, oP_ret, oP_thr, outP_ite, aft_ret, aft_void, aft_thr, fHnd, List.isEmpty_nil, List.filter_cons, List.filter_nil, Value.category, csum, List.map_cons, List.map_nil, List.sum_cons, List.sum_nil, List.cons_append, List.nil_append, Option.toList, vp_nar_int, narrow_b1, narrow_b0, nc115, vc115, fc115, nc111, vc111, fc111, nc100, vc100, fc100, nc109, vc109, fc109, nc120, vc120, fc120, nc119, vc119, fc119, nc116, vc116, fc116, nc45, vc45, fc45, nc32, vc32, fc32, nc102, vc102, fc102, nc106, vc106, fc106, fin3, rf_some, rf_none, upd_ap, va_up_ap, nar_bi, fits_bi, nvp_bi, bi_t, bi_f, fval, fty, ftabs, wrv_0, wrv_1, wrv_2, wrv_3, wrv_5, mT_stI, mI_stI, mL_stI, mD_stI, mR_stI, mN_stI, mS_stI, mT_stL, mI_stL, mL_stL, mD_stL, mR_stL, mN_stL, mS_stL, mT_stD, mI_stD, mL_stD, mD_stD, mR_stD, mN_stD, mS_stD, mT_stR, mI_stR, mL_stR, mD_stR, mR_stR, mN_stR, mS_stR, mT_stN, mI_stN, mL_stN, mD_stN, mR_stN, mN_stN, mS_stN, e20_0, e20_1, e20_4, e20_7, e20_8, e20_11, e20_12, e20_13, e20_16, e20_17, rt20, hn20, h, tT0, tT1, tT2, tT3, tT4, tT5, tT6, tT7, tT8, tT9, tT10, tT11, tT12, tT13, tR0_0, tR0_6, tR0_7, tR0_8, tR0_9, tR0_11, tR0_12, tR0_14, tR2_0, tR2_1, tR6_0, tR9_0, tR9_1, ST_stI, ST_stL, ST_stD, cl89, sp89, inR53 hk, bi_ne, inb_nI hk, nI_clamp (lt31 hk (by decide))]
theorem sp21 {B k : Nat} {M : AMem} {Q : AR → Prop} (h : ST B M) (hk : k < 54) : CaP 21 [.ref (B + 2), .int (nI k)] M Q = Q (M, .inl (some (.int (mI M (B + 4) k)))) := by
  unfold CaP
  simp [lv_args, sStep, amStep, a_nx, a_ii, a_jj, a_ji, a_ld, a_st, a_if, a_ald, a_c1, a_c2, lkp, lput, lput2, lins, oP_none, oP_next, oP_call, oP_ret, oP_thr, outP_ite, aft_ret, aft_void, aft_thr, fHnd, List.isEmpty_nil, List.filter_cons, List.filter_nil, Value.category, csum, List.map_cons, List.map_nil, List.sum_cons, List.sum_nil, List.cons_append, List.nil_append, Option.toList, vp_nar_int, narrow_b1, narrow_b0, nc115, vc115, fc115, nc111, vc111, fc111, nc100, vc100, fc100, nc109, vc109, fc109, nc120, vc120, fc120, nc119, vc119, fc119, nc116, vc116, fc116, nc45, vc45, fc45, nc32, vc32, fc32, nc102, vc102, fc102, nc106, vc106, fc106, fin3, rf_some, rf_none, upd_ap, va_up_ap, nar_bi, fits_bi, nvp_bi, bi_t, bi_f, fval, fty, ftabs, wrv_0, wrv_1, wrv_2, wrv_3, wrv_5, mT_stI, mI_stI, mL_stI, mD_stI, mR_stI, mN_stI, mS_stI, mT_stL, mI_stL, mL_stL, mD_stL, mR_stL, mN_stL, mS_stL, mT_stD, mI_stD, mL_stD, mD_stD, mR_stD, mN_stD, mS_stD, mT_stR, mI_stR, mL_stR, mD_stR, mR_stR, mN_stR, mS_stR, mT_stN, mI_stN, mL_stN, mD_stN, mR_stN, mN_stN, mS_stN, e21_0, e21_1, e21_4, e21_7, e21_8, e21_11, e21_12, e21_13, e21_16, e21_17, rt21, hn21, h, tT0, tT1, tT2, tT3, tT4, tT5, tT6, tT7, tT8, tT9, tT10, tT11, tT12, tT13, tR0_0, tR0_6, tR0_7, tR0_8, tR0_9, tR0_11, tR0_12, tR0_14, tR2_0, tR2_1, tR6_0, tR9_0, tR9_1, ST_stI, ST_stL, ST_stD, cl89, sp89, inR53 hk, bi_ne, inb_nI hk, nI_clamp (lt31 hk (by decide))]
theorem sp22 {B k : Nat} {M : AMem} {Q : AR → Prop} (h : ST B M) (hk : k < 54) : CaP 22 [.ref (B + 2), .int (nI k)] M Q = Q (stI M (B + 4) (upd (mI M (B + 4)) k 0), .inl (some (.int (mI M (B + 4) k)))) := by
  have e21 := fun Q => @sp21 B k M Q h hk
  unfold CaP
  simp [lv_args, sStep, amStep, a_nx, a_ii, a_jj, a_ji, a_ld, a_st, a_if, a_ald, a_c1, a_c2, lkp, lput, lput2, lins, oP_none, oP_next, oP_call, oP_ret, oP_thr, outP_ite, aft_ret, aft_void, aft_thr, fHnd, List.isEmpty_nil, List.filter_cons, List.filter_nil, Value.category, csum, List.map_cons, List.map_nil, List.sum_cons, List.sum_nil, List.cons_append, List.nil_append, Option.toList, vp_nar_int, narrow_b1, narrow_b0, nc115, vc115, fc115, nc111, vc111, fc111, nc100, vc100, fc100, nc109, vc109, fc109, nc120, vc120, fc120, nc119, vc119, fc119, nc116, vc116, fc116, nc45, vc45, fc45, nc32, vc32, fc32, nc102, vc102, fc102, nc106, vc106, fc106, fin3, rf_some, rf_none, upd_ap, va_up_ap, nar_bi, fits_bi, nvp_bi, bi_t, bi_f, fval, fty, ftabs, wrv_0, wrv_1, wrv_2, wrv_3, wrv_5, mT_stI, mI_stI, mL_stI, mD_stI, mR_stI, mN_stI, mS_stI, mT_stL, mI_stL, mL_stL, mD_stL, mR_stL, mN_stL, mS_stL, mT_stD, mI_stD, mL_stD, mD_stD, mR_stD, mN_stD, mS_stD, mT_stR, mI_stR, mL_stR, mD_stR, mR_stR, mN_stR, mS_stR, mT_stN, mI_stN, mL_stN, mD_stN, mR_stN, mN_stN, mS_stN, e22_0, e22_1, e22_2, e22_5, e22_6, e22_7, e22_10, e22_13, e22_14, e22_17, e22_18, e22_19, e22_20, e22_21, rt22, hn22, h, tT0, tT1, tT2, tT3, tT4, tT5, tT6, tT7, tT8, tT9, tT10, tT11, tT12, tT13, tR0_0, tR0_6, tR0_7, tR0_8, tR0_9, tR0_11, tR0_12, tR0_14, tR2_0, tR2_1, tR6_0, tR9_0, tR9_1, ST_stI, ST_stL, ST_stD, cl21, e21, cl89, sp89, inR53 hk, bi_ne, inb_nI hk, nI_clamp (lt31 hk (by decide))]
theorem allB_ex {ok : Nat → Bool} {j n : Nat} (h1 : j ≤ n) (h2 : ∀ k, k < j → ok k = true) (h3 : j < n → ok j = false) : allB ok n = decide (j = n) := by
  induction n with
  | zero =>
    rw [show j = 0 by omega]
    rfl
  | succ n ih =>
    show (allB ok n && ok n) = _
    by_cases hj : j = n + 1
    · subst hj
      have : allB ok n = true := by
        have hh := fun m (hm : m ≤ n) => (show allB ok m = true from by
          induction m with
          | zero => rfl
          | succ m ihm => show (allB ok m && ok m) = true; rw [ihm (by omega), h2 m (by omega)]; rfl)
        exact hh n (Nat.le_refl n)
      rw [this, h2 n (by omega)]
      simp
    · by_cases he : j = n
      · subst he
        rw [h3 (by omega), Bool.and_false]
        simp
      · rw [ih (by omega) (fun _ => h3 (by omega)), decide_eq_false he, decide_eq_false hj]
        rfl
/-- the sheet's cells -/
def SH (M : AMem) (p : Nat) : Prop := mT M p = (6, 0) ∧ mT M (p + 1) = (100, 54) ∧ mT M (p + 2) = (100, 54) ∧ mT M (p + 3) = (100, 4) ∧ mT M (p + 4) = (100, 4) ∧ mR M p 2 = some (p + 1) ∧ mR M p 3 = some (p + 2) ∧ mR M p 4 = some (p + 3) ∧ mR M p 5 = some (p + 4)
theorem sh0 {M : AMem} {p : Nat} (h : SH M p) : mT M p = (6, 0) := h.1
theorem sh1 {M : AMem} {p : Nat} (h : SH M p) : mT M (p + 1) = (100, 54) := h.2.1
theorem sh2 {M : AMem} {p : Nat} (h : SH M p) : mT M (p + 2) = (100, 54) := h.2.2.1
theorem sh3 {M : AMem} {p : Nat} (h : SH M p) : mT M (p + 3) = (100, 4) := h.2.2.2.1
theorem sh4 {M : AMem} {p : Nat} (h : SH M p) : mT M (p + 4) = (100, 4) := h.2.2.2.2.1
theorem sh5 {M : AMem} {p : Nat} (h : SH M p) : mR M p 2 = some (p + 1) := h.2.2.2.2.2.1
theorem sh6 {M : AMem} {p : Nat} (h : SH M p) : mR M p 3 = some (p + 2) := h.2.2.2.2.2.2.1
theorem sh7 {M : AMem} {p : Nat} (h : SH M p) : mR M p 4 = some (p + 3) := h.2.2.2.2.2.2.2.1
theorem sh8 {M : AMem} {p : Nat} (h : SH M p) : mR M p 5 = some (p + 4) := h.2.2.2.2.2.2.2.2
theorem sp23 {B p : Nat} {m : Int32} {M : AMem} {Q : AR → Prop} (h : ST B M) (hs : SH M p) : CaP 23 [.ref (B + 2), .ref p, .int m] M Q = Q (M, .inl (some (.int (bi (allB (fun c => !decide (9999 < mI M (B + 3) c + mI M (B + 4) c + mI M (p + 2) c * m)) 54))))) := by
  obtain ⟨j, h1, h2, h3, e⟩ := loopX (m := 23) (pc := 2) (Q := Q) (fun c => !decide (9999 < mI M (B + 3) c + mI M (B + 4) c + mI M (p + 2) c * m)) 54 (fun k => [(0, .ref (B + 2)), (1, .ref p), (2, .int m), (3, .int (nI k))]) (fun _ => M) (by
    intro k hk ho
    simp at ho
    rw [e23_2]
    simp [lv_args, sStep, amStep, a_nx, a_ii, a_jj, a_ji, a_ld, a_st, a_if, a_ald, a_c1, a_c2, lkp, lput, lput2, lins, oP_none, oP_next, oP_call, oP_ret, oP_thr, outP_ite, aft_ret, aft_void, aft_thr, fHnd, List.isEmpty_nil, List.filter_cons, List.filter_nil, Value.category, csum, List.map_cons, List.map_nil, List.sum_cons, List.sum_nil, List.cons_append, List.nil_append, Option.toList, vp_nar_int, narrow_b1, narrow_b0, nc115, vc115, fc115, nc111, vc111, fc111, nc100, vc100, fc100, nc109, vc109, fc109, nc120, vc120, fc120, nc119, vc119, fc119, nc116, vc116, fc116, nc45, vc45, fc45, nc32, vc32, fc32, nc102, vc102, fc102, nc106, vc106, fc106, fin3, rf_some, rf_none, upd_ap, va_up_ap, nar_bi, fits_bi, nvp_bi, bi_t, bi_f, fval, fty, ftabs, wrv_0, wrv_1, wrv_2, wrv_3, wrv_5, mT_stI, mI_stI, mL_stI, mD_stI, mR_stI, mN_stI, mS_stI, mT_stL, mI_stL, mL_stL, mD_stL, mR_stL, mN_stL, mS_stL, mT_stD, mI_stD, mL_stD, mD_stD, mR_stD, mN_stD, mS_stD, mT_stR, mI_stR, mL_stR, mD_stR, mR_stR, mN_stR, mS_stR, mT_stN, mI_stN, mL_stN, mD_stN, mR_stN, mN_stN, mS_stN, e23_0, e23_1, e23_3, e23_5, e23_8, e23_9, e23_12, e23_13, e23_14, e23_15, e23_18, e23_19, e23_20, e23_21, e23_22, e23_25, e23_26, e23_27, e23_28, e23_29, e23_30, e23_33, e23_36, e23_37, e23_38, e23_41, e23_44, e23_45, rt23, hn23, h, tT0, tT1, tT2, tT3, tT4, tT5, tT6, tT7, tT8, tT9, tT10, tT11, tT12, tT13, tR0_0, tR0_6, tR0_7, tR0_8, tR0_9, tR0_11, tR0_12, tR0_14, tR2_0, tR2_1, tR6_0, tR9_0, tR9_1, ST_stI, ST_stL, ST_stD, sh0 hs, sh2 hs, sh6 hs, ge54 hk, inb_nI hk, nI_clamp (lt31 hk (by decide)), nI_1, ho])
  rw [allB_ex h1 h2 h3]
  simp only [nI_0] at e
  unfold CaP
  simp [lv_args, sStep, amStep, a_nx, a_ii, a_jj, a_ji, a_ld, a_st, a_if, a_ald, a_c1, a_c2, lkp, lput, lput2, lins, oP_none, oP_next, oP_call, oP_ret, oP_thr, outP_ite, aft_ret, aft_void, aft_thr, fHnd, List.isEmpty_nil, List.filter_cons, List.filter_nil, Value.category, csum, List.map_cons, List.map_nil, List.sum_cons, List.sum_nil, List.cons_append, List.nil_append, Option.toList, vp_nar_int, narrow_b1, narrow_b0, nc115, vc115, fc115, nc111, vc111, fc111, nc100, vc100, fc100, nc109, vc109, fc109, nc120, vc120, fc120, nc119, vc119, fc119, nc116, vc116, fc116, nc45, vc45, fc45, nc32, vc32, fc32, nc102, vc102, fc102, nc106, vc106, fc106, fin3, rf_some, rf_none, upd_ap, va_up_ap, nar_bi, fits_bi, nvp_bi, bi_t, bi_f, fval, fty, ftabs, wrv_0, wrv_1, wrv_2, wrv_3, wrv_5, mT_stI, mI_stI, mL_stI, mD_stI, mR_stI, mN_stI, mS_stI, mT_stL, mI_stL, mL_stL, mD_stL, mR_stL, mN_stL, mS_stL, mT_stD, mI_stD, mL_stD, mD_stD, mR_stD, mN_stD, mS_stD, mT_stR, mI_stR, mL_stR, mD_stR, mR_stR, mN_stR, mS_stR, mT_stN, mI_stN, mL_stN, mD_stN, mR_stN, mN_stN, mS_stN, e23_0, e23_1, e23_3, e23_5, e23_8, e23_9, e23_12, e23_13, e23_14, e23_15, e23_18, e23_19, e23_20, e23_21, e23_22, e23_25, e23_26, e23_27, e23_28, e23_29, e23_30, e23_33, e23_36, e23_37, e23_38, e23_41, e23_44, e23_45, rt23, hn23, h, tT0, tT1, tT2, tT3, tT4, tT5, tT6, tT7, tT8, tT9, tT10, tT11, tT12, tT13, tR0_0, tR0_6, tR0_7, tR0_8, tR0_9, tR0_11, tR0_12, tR0_14, tR2_0, tR2_1, tR6_0, tR9_0, tR9_1, ST_stI, ST_stL, ST_stD]
  rw [e, e23_2]
  by_cases hj : j = 54
  · subst hj
    simp [lv_args, sStep, amStep, a_nx, a_ii, a_jj, a_ji, a_ld, a_st, a_if, a_ald, a_c1, a_c2, lkp, lput, lput2, lins, oP_none, oP_next, oP_call, oP_ret, oP_thr, outP_ite, aft_ret, aft_void, aft_thr, fHnd, List.isEmpty_nil, List.filter_cons, List.filter_nil, Value.category, csum, List.map_cons, List.map_nil, List.sum_cons, List.sum_nil, List.cons_append, List.nil_append, Option.toList, vp_nar_int, narrow_b1, narrow_b0, nc115, vc115, fc115, nc111, vc111, fc111, nc100, vc100, fc100, nc109, vc109, fc109, nc120, vc120, fc120, nc119, vc119, fc119, nc116, vc116, fc116, nc45, vc45, fc45, nc32, vc32, fc32, nc102, vc102, fc102, nc106, vc106, fc106, fin3, rf_some, rf_none, upd_ap, va_up_ap, nar_bi, fits_bi, nvp_bi, bi_t, bi_f, fval, fty, ftabs, wrv_0, wrv_1, wrv_2, wrv_3, wrv_5, mT_stI, mI_stI, mL_stI, mD_stI, mR_stI, mN_stI, mS_stI, mT_stL, mI_stL, mL_stL, mD_stL, mR_stL, mN_stL, mS_stL, mT_stD, mI_stD, mL_stD, mD_stD, mR_stD, mN_stD, mS_stD, mT_stR, mI_stR, mL_stR, mD_stR, mR_stR, mN_stR, mS_stR, mT_stN, mI_stN, mL_stN, mD_stN, mR_stN, mN_stN, mS_stN, e23_0, e23_1, e23_3, e23_5, e23_8, e23_9, e23_12, e23_13, e23_14, e23_15, e23_18, e23_19, e23_20, e23_21, e23_22, e23_25, e23_26, e23_27, e23_28, e23_29, e23_30, e23_33, e23_36, e23_37, e23_38, e23_41, e23_44, e23_45, rt23, hn23, h, tT0, tT1, tT2, tT3, tT4, tT5, tT6, tT7, tT8, tT9, tT10, tT11, tT12, tT13, tR0_0, tR0_6, tR0_7, tR0_8, tR0_9, tR0_11, tR0_12, tR0_14, tR2_0, tR2_1, tR6_0, tR9_0, tR9_1, ST_stI, ST_stL, ST_stD, nI54, Int32.le_refl]
  · have hlt : j < 54 := by omega
    have hf := h3 hlt
    simp at hf
    simp [lv_args, sStep, amStep, a_nx, a_ii, a_jj, a_ji, a_ld, a_st, a_if, a_ald, a_c1, a_c2, lkp, lput, lput2, lins, oP_none, oP_next, oP_call, oP_ret, oP_thr, outP_ite, aft_ret, aft_void, aft_thr, fHnd, List.isEmpty_nil, List.filter_cons, List.filter_nil, Value.category, csum, List.map_cons, List.map_nil, List.sum_cons, List.sum_nil, List.cons_append, List.nil_append, Option.toList, vp_nar_int, narrow_b1, narrow_b0, nc115, vc115, fc115, nc111, vc111, fc111, nc100, vc100, fc100, nc109, vc109, fc109, nc120, vc120, fc120, nc119, vc119, fc119, nc116, vc116, fc116, nc45, vc45, fc45, nc32, vc32, fc32, nc102, vc102, fc102, nc106, vc106, fc106, fin3, rf_some, rf_none, upd_ap, va_up_ap, nar_bi, fits_bi, nvp_bi, bi_t, bi_f, fval, fty, ftabs, wrv_0, wrv_1, wrv_2, wrv_3, wrv_5, mT_stI, mI_stI, mL_stI, mD_stI, mR_stI, mN_stI, mS_stI, mT_stL, mI_stL, mL_stL, mD_stL, mR_stL, mN_stL, mS_stL, mT_stD, mI_stD, mL_stD, mD_stD, mR_stD, mN_stD, mS_stD, mT_stR, mI_stR, mL_stR, mD_stR, mR_stR, mN_stR, mS_stR, mT_stN, mI_stN, mL_stN, mD_stN, mR_stN, mN_stN, mS_stN, e23_0, e23_1, e23_3, e23_5, e23_8, e23_9, e23_12, e23_13, e23_14, e23_15, e23_18, e23_19, e23_20, e23_21, e23_22, e23_25, e23_26, e23_27, e23_28, e23_29, e23_30, e23_33, e23_36, e23_37, e23_38, e23_41, e23_44, e23_45, rt23, hn23, h, tT0, tT1, tT2, tT3, tT4, tT5, tT6, tT7, tT8, tT9, tT10, tT11, tT12, tT13, tR0_0, tR0_6, tR0_7, tR0_8, tR0_9, tR0_11, tR0_12, tR0_14, tR2_0, tR2_1, tR6_0, tR9_0, tR9_1, ST_stI, ST_stL, ST_stD, sh0 hs, sh2 hs, sh6 hs, ge54 hlt, inb_nI hlt, nI_clamp (lt31 hlt (by decide)), Int32.not_le.mpr hf, hj]
theorem sp24 {B p : Nat} {m : Int32} {b : Bool} {M : AMem} {Q : AR → Prop} (h : ST B M) (hs : SH M p) (hp : B + 14 ≤ p) : CaP 24 [.ref (B + 2), .ref p, .int m, .int (bi b)] M Q = Q (stI M (B + (if b = true then 4 else 3)) (addF (mI M (B + (if b = true then 4 else 3))) (fun c => mI M (p + 2) c * m) 54), .inl (some (.int (sumF (fun c => mI M (p + 2) c * m) 54)))) := by
  have hpa : ¬ p + 2 = B + 4 := by omega
  have hpb : ¬ p + 2 = B + 3 := by omega
  generalize ha : B + (if b = true then 4 else 3) = a
  have hTa : mT M a = (100, 54) := by
    subst ha
    cases b
    · exact tT3 h
    · exact tT4 h
  have hpa : ¬ p + 2 = a := by
    subst ha
    cases b
    · exact hpb
    · exact hpa
  have hl := loopT (m := 24) (pc := 23) (Q := Q) (tl1 7) 54 (fun k T => [(0, .ref (B + 2)), (1, .ref p), (2, .int m), (3, .int (bi b)), (4, .ref a), (5, .int (sumF (fun c => mI M (p + 2) c * m) k)), (6, .int (nI k))] ++ T) (fun k => stI M a (addF (mI M a) (fun c => mI M (p + 2) c * m) k)) (by
    intro k hk T hT
    refine ⟨[(7, .int (mI M (p + 2) k * m))], Or.inr ⟨_, rfl⟩, ?_⟩
    have e1 := @addF_S (mI M a) (fun c => mI M (p + 2) c * m) k
    rw [e24_23]
    rcases hT with rfl | ⟨x, rfl⟩ <;>
    simp [lv_args, sStep, amStep, a_nx, a_ii, a_jj, a_ji, a_ld, a_st, a_if, a_ald, a_c1, a_c2, lkp, lput, lput2, lins, oP_none, oP_next, oP_call, oP_ret, oP_thr, outP_ite, aft_ret, aft_void, aft_thr, fHnd, List.isEmpty_nil, List.filter_cons, List.filter_nil, Value.category, csum, List.map_cons, List.map_nil, List.sum_cons, List.sum_nil, List.cons_append, List.nil_append, Option.toList, vp_nar_int, narrow_b1, narrow_b0, nc115, vc115, fc115, nc111, vc111, fc111, nc100, vc100, fc100, nc109, vc109, fc109, nc120, vc120, fc120, nc119, vc119, fc119, nc116, vc116, fc116, nc45, vc45, fc45, nc32, vc32, fc32, nc102, vc102, fc102, nc106, vc106, fc106, fin3, rf_some, rf_none, upd_ap, va_up_ap, nar_bi, fits_bi, nvp_bi, bi_t, bi_f, fval, fty, ftabs, wrv_0, wrv_1, wrv_2, wrv_3, wrv_5, mT_stI, mI_stI, mL_stI, mD_stI, mR_stI, mN_stI, mS_stI, mT_stL, mI_stL, mL_stL, mD_stL, mR_stL, mN_stL, mS_stL, mT_stD, mI_stD, mL_stD, mD_stD, mR_stD, mN_stD, mS_stD, mT_stR, mI_stR, mL_stR, mD_stR, mR_stR, mN_stR, mS_stR, mT_stN, mI_stN, mL_stN, mD_stN, mR_stN, mN_stN, mS_stN, e24_0, e24_1, e24_4, e24_5, e24_8, e24_11, e24_12, e24_15, e24_17, e24_18, e24_20, e24_21, e24_25, e24_27, e24_30, e24_31, e24_34, e24_36, e24_37, e24_38, e24_39, e24_41, e24_43, e24_45, e24_46, e24_47, e24_49, e24_50, e24_51, e24_53, e24_55, e24_56, e24_58, e24_61, e24_64, e24_66, rt24, hn24, h, tT0, tT1, tT2, tT3, tT4, tT5, tT6, tT7, tT8, tT9, tT10, tT11, tT12, tT13, tR0_0, tR0_6, tR0_7, tR0_8, tR0_9, tR0_11, tR0_12, tR0_14, tR2_0, tR2_1, tR6_0, tR9_0, tR9_1, ST_stI, ST_stL, ST_stD, sh0 hs, sh2 hs, sh6 hs, hTa, hpa, ge54 hk, inb_nI hk, nI_clamp (lt31 hk (by decide)), nI_1, stI_stI, addF_at, e1, sumF]) [] (Or.inl rfl)
  obtain ⟨T, hT, e⟩ := hl
  simp only [nI_0, addF_0, stI_self, sumF_0, List.append_nil] at e
  unfold CaP
  cases b <;> simp at ha <;> subst ha <;> simp [bi] at e <;>
  simp [lv_args, sStep, amStep, a_nx, a_ii, a_jj, a_ji, a_ld, a_st, a_if, a_ald, a_c1, a_c2, lkp, lput, lput2, lins, oP_none, oP_next, oP_call, oP_ret, oP_thr, outP_ite, aft_ret, aft_void, aft_thr, fHnd, List.isEmpty_nil, List.filter_cons, List.filter_nil, Value.category, csum, List.map_cons, List.map_nil, List.sum_cons, List.sum_nil, List.cons_append, List.nil_append, Option.toList, vp_nar_int, narrow_b1, narrow_b0, nc115, vc115, fc115, nc111, vc111, fc111, nc100, vc100, fc100, nc109, vc109, fc109, nc120, vc120, fc120, nc119, vc119, fc119, nc116, vc116, fc116, nc45, vc45, fc45, nc32, vc32, fc32, nc102, vc102, fc102, nc106, vc106, fc106, fin3, rf_some, rf_none, upd_ap, va_up_ap, nar_bi, fits_bi, nvp_bi, bi_t, bi_f, fval, fty, ftabs, wrv_0, wrv_1, wrv_2, wrv_3, wrv_5, mT_stI, mI_stI, mL_stI, mD_stI, mR_stI, mN_stI, mS_stI, mT_stL, mI_stL, mL_stL, mD_stL, mR_stL, mN_stL, mS_stL, mT_stD, mI_stD, mL_stD, mD_stD, mR_stD, mN_stD, mS_stD, mT_stR, mI_stR, mL_stR, mD_stR, mR_stR, mN_stR, mS_stR, mT_stN, mI_stN, mL_stN, mD_stN, mR_stN, mN_stN, mS_stN, e24_0, e24_1, e24_4, e24_5, e24_8, e24_11, e24_12, e24_15, e24_17, e24_18, e24_20, e24_21, e24_25, e24_27, e24_30, e24_31, e24_34, e24_36, e24_37, e24_38, e24_39, e24_41, e24_43, e24_45, e24_46, e24_47, e24_49, e24_50, e24_51, e24_53, e24_55, e24_56, e24_58, e24_61, e24_64, e24_66, rt24, hn24, h, tT0, tT1, tT2, tT3, tT4, tT5, tT6, tT7, tT8, tT9, tT10, tT11, tT12, tT13, tR0_0, tR0_6, tR0_7, tR0_8, tR0_9, tR0_11, tR0_12, tR0_14, tR2_0, tR2_1, tR6_0, tR9_0, tR9_1, ST_stI, ST_stL, ST_stD, bi] <;>
  rw [e, e24_23] <;>
  rcases hT with rfl | ⟨x, rfl⟩ <;>
  simp [lv_args, sStep, amStep, a_nx, a_ii, a_jj, a_ji, a_ld, a_st, a_if, a_ald, a_c1, a_c2, lkp, lput, lput2, lins, oP_none, oP_next, oP_call, oP_ret, oP_thr, outP_ite, aft_ret, aft_void, aft_thr, fHnd, List.isEmpty_nil, List.filter_cons, List.filter_nil, Value.category, csum, List.map_cons, List.map_nil, List.sum_cons, List.sum_nil, List.cons_append, List.nil_append, Option.toList, vp_nar_int, narrow_b1, narrow_b0, nc115, vc115, fc115, nc111, vc111, fc111, nc100, vc100, fc100, nc109, vc109, fc109, nc120, vc120, fc120, nc119, vc119, fc119, nc116, vc116, fc116, nc45, vc45, fc45, nc32, vc32, fc32, nc102, vc102, fc102, nc106, vc106, fc106, fin3, rf_some, rf_none, upd_ap, va_up_ap, nar_bi, fits_bi, nvp_bi, bi_t, bi_f, fval, fty, ftabs, wrv_0, wrv_1, wrv_2, wrv_3, wrv_5, mT_stI, mI_stI, mL_stI, mD_stI, mR_stI, mN_stI, mS_stI, mT_stL, mI_stL, mL_stL, mD_stL, mR_stL, mN_stL, mS_stL, mT_stD, mI_stD, mL_stD, mD_stD, mR_stD, mN_stD, mS_stD, mT_stR, mI_stR, mL_stR, mD_stR, mR_stR, mN_stR, mS_stR, mT_stN, mI_stN, mL_stN, mD_stN, mR_stN, mN_stN, mS_stN, e24_0, e24_1, e24_4, e24_5, e24_8, e24_11, e24_12, e24_15, e24_17, e24_18, e24_20, e24_21, e24_25, e24_27, e24_30, e24_31, e24_34, e24_36, e24_37, e24_38, e24_39, e24_41, e24_43, e24_45, e24_46, e24_47, e24_49, e24_50, e24_51, e24_53, e24_55, e24_56, e24_58, e24_61, e24_64, e24_66, rt24, hn24, h, tT0, tT1, tT2, tT3, tT4, tT5, tT6, tT7, tT8, tT9, tT10, tT11, tT12, tT13, tR0_0, tR0_6, tR0_7, tR0_8, tR0_9, tR0_11, tR0_12, tR0_14, tR2_0, tR2_1, tR6_0, tR9_0, tR9_1, ST_stI, ST_stL, ST_stD, nI54, Int32.le_refl]
def ksF (K : Int32) : Int64 := if K = 102 then 4503599627370495 else if K = 106 then 18014398509481983 else if K = 115 then 4486555116511200 else 0
def hcB (w : Int64) (c : Int32) : Bool := !decide ((w.toUInt64 >>> (c.toInt64.toUInt64 &&& Int64.toUInt64 63)).toInt64 &&& 1 = 0)
theorem lgc0 {x y : Int64} : (lg_cmp x y = 0) = (x = y) := by
  unfold lg_cmp
  by_cases h : x > y
  · rw [if_pos h]
    have : ¬ x = y := fun he => by subst he; exact absurd h Int64.lt_irrefl
    simp [this]
  · rw [if_neg h]
    by_cases h2 : x = y
    · simp [h2]
    · simp [h2]
theorem sp90 {w : Int64} {c : Int32} {M : AMem} {Q : AR → Prop} : CaP 90 [.long w, .int c] M Q = Q (M, .inl (some (.int (bi (hcB w c))))) := by
  unfold CaP hcB
  simp [lv_args, sStep, amStep, a_nx, a_ii, a_jj, a_ji, a_ld, a_st, a_if, a_ald, a_c1, a_c2, lkp, lput, lput2, lins, oP_none, oP_next, oP_call, oP_ret, oP_thr, outP_ite, aft_ret, aft_void, aft_thr, fHnd, List.isEmpty_nil, List.filter_cons, List.filter_nil, Value.category, csum, List.map_cons, List.map_nil, List.sum_cons, List.sum_nil, List.cons_append, List.nil_append, Option.toList, vp_nar_int, narrow_b1, narrow_b0, nc115, vc115, fc115, nc111, vc111, fc111, nc100, vc100, fc100, nc109, vc109, fc109, nc120, vc120, fc120, nc119, vc119, fc119, nc116, vc116, fc116, nc45, vc45, fc45, nc32, vc32, fc32, nc102, vc102, fc102, nc106, vc106, fc106, fin3, rf_some, rf_none, upd_ap, va_up_ap, nar_bi, fits_bi, nvp_bi, bi_t, bi_f, fval, fty, ftabs, wrv_0, wrv_1, wrv_2, wrv_3, wrv_5, mT_stI, mI_stI, mL_stI, mD_stI, mR_stI, mN_stI, mS_stI, mT_stL, mI_stL, mL_stL, mD_stL, mR_stL, mN_stL, mS_stL, mT_stD, mI_stD, mL_stD, mD_stD, mR_stD, mN_stD, mS_stD, mT_stR, mI_stR, mL_stR, mD_stR, mR_stR, mN_stR, mS_stR, mT_stN, mI_stN, mL_stN, mD_stN, mR_stN, mN_stN, mS_stN, e90_0, e90_1, e90_2, e90_3, e90_4, e90_5, e90_6, e90_7, e90_10, e90_11, e90_14, e90_15, rt90, hn90, lgc0]
  split <;> rename_i h1 <;> simp [h1, bi]
theorem kdF_cases {K : Int32} (hK : kdF K = true) : K = 102 ∨ K = 106 ∨ K = 115 := by
  simp only [kdF, Bool.or_eq_true, decide_eq_true_eq] at hK
  rcases hK with (h | h) | h
  · exact Or.inl h
  · exact Or.inr (Or.inl h)
  · exact Or.inr (Or.inr h)
theorem hcK1 : ∀ c, c < 54 → hcB (ksF 102) (nI c) = kdOf 102 (nI c) := by decide +kernel
theorem hcK2 : ∀ c, c < 54 → hcB (ksF 106) (nI c) = kdOf 106 (nI c) := by decide +kernel
theorem hcK3 : ∀ c, c < 54 → hcB (ksF 115) (nI c) = kdOf 115 (nI c) := by decide +kernel
theorem hcK {K : Int32} {c : Nat} (hK : kdF K = true) (hc : c < 54) : hcB (ksF K) (nI c) = kdOf K (nI c) := by
  rcases kdF_cases hK with h | h | h <;> subst h
  · exact hcK1 c hc
  · exact hcK2 c hc
  · exact hcK3 c hc
theorem sp90K {K : Int32} {c : Nat} {M : AMem} {Q : AR → Prop} (hK : kdF K = true) (hc : c < 54) : CaP 90 [.long (ksF K), .int (nI c)] M Q = Q (M, .inl (some (.int (bi (kdOf K (nI c)))))) := by
  rw [sp90, hcK hK hc]
theorem sp91 {K : Int32} {M : AMem} {Q : AR → Prop} : CaP 91 [.int K] M Q = Q (M, .inl (some (.long (ksF K)))) := by
  unfold CaP ksF
  simp [lv_args, sStep, amStep, a_nx, a_ii, a_jj, a_ji, a_ld, a_st, a_if, a_ald, a_c1, a_c2, lkp, lput, lput2, lins, oP_none, oP_next, oP_call, oP_ret, oP_thr, outP_ite, aft_ret, aft_void, aft_thr, fHnd, List.isEmpty_nil, List.filter_cons, List.filter_nil, Value.category, csum, List.map_cons, List.map_nil, List.sum_cons, List.sum_nil, List.cons_append, List.nil_append, Option.toList, vp_nar_int, narrow_b1, narrow_b0, nc115, vc115, fc115, nc111, vc111, fc111, nc100, vc100, fc100, nc109, vc109, fc109, nc120, vc120, fc120, nc119, vc119, fc119, nc116, vc116, fc116, nc45, vc45, fc45, nc32, vc32, fc32, nc102, vc102, fc102, nc106, vc106, fc106, fin3, rf_some, rf_none, upd_ap, va_up_ap, nar_bi, fits_bi, nvp_bi, bi_t, bi_f, fval, fty, ftabs, wrv_0, wrv_1, wrv_2, wrv_3, wrv_5, mT_stI, mI_stI, mL_stI, mD_stI, mR_stI, mN_stI, mS_stI, mT_stL, mI_stL, mL_stL, mD_stL, mR_stL, mN_stL, mS_stL, mT_stD, mI_stD, mL_stD, mD_stD, mR_stD, mN_stD, mS_stD, mT_stR, mI_stR, mL_stR, mD_stR, mR_stR, mN_stR, mS_stR, mT_stN, mI_stN, mL_stN, mD_stN, mR_stN, mN_stN, mS_stN, e91_0, e91_1, e91_3, e91_6, e91_9, e91_10, e91_11, e91_13, e91_16, e91_19, e91_20, e91_21, e91_23, e91_26, e91_29, e91_32, e91_33, rt91, hn91, lcon3, lcon4, lcon5]
  by_cases h1 : K = 102
  · simp [h1]
  · by_cases h2 : K = 106
    · simp [h2]
    · by_cases h3 : K = 115 <;> simp [h1, h2, h3]
theorem ks_0 {K : Int32} : (ksF K = 0) = (kdF K = false) := by
  unfold ksF kdF
  by_cases h1 : K = 102
  · subst h1; simp
  · by_cases h2 : K = 106
    · subst h2; simp
    · by_cases h3 : K = 115
      · subst h3; simp
      · simp [h1, h2, h3]
theorem sp92 {K : Int32} {M : AMem} {Q : AR → Prop} : CaP 92 [.int K] M Q = if kdF K = true then Q (M, .inl (some (.long (ksF K)))) else Q (stN M 0 0 6, .inr 0) := by
  unfold CaP
  simp [lv_args, sStep, amStep, a_nx, a_ii, a_jj, a_ji, a_ld, a_st, a_if, a_ald, a_c1, a_c2, lkp, lput, lput2, lins, oP_none, oP_next, oP_call, oP_ret, oP_thr, outP_ite, aft_ret, aft_void, aft_thr, fHnd, List.isEmpty_nil, List.filter_cons, List.filter_nil, Value.category, csum, List.map_cons, List.map_nil, List.sum_cons, List.sum_nil, List.cons_append, List.nil_append, Option.toList, vp_nar_int, narrow_b1, narrow_b0, nc115, vc115, fc115, nc111, vc111, fc111, nc100, vc100, fc100, nc109, vc109, fc109, nc120, vc120, fc120, nc119, vc119, fc119, nc116, vc116, fc116, nc45, vc45, fc45, nc32, vc32, fc32, nc102, vc102, fc102, nc106, vc106, fc106, fin3, rf_some, rf_none, upd_ap, va_up_ap, nar_bi, fits_bi, nvp_bi, bi_t, bi_f, fval, fty, ftabs, wrv_0, wrv_1, wrv_2, wrv_3, wrv_5, mT_stI, mI_stI, mL_stI, mD_stI, mR_stI, mN_stI, mS_stI, mT_stL, mI_stL, mL_stL, mD_stL, mR_stL, mN_stL, mS_stL, mT_stD, mI_stD, mL_stD, mD_stD, mR_stD, mN_stD, mS_stD, mT_stR, mI_stR, mL_stR, mD_stR, mR_stR, mN_stR, mS_stR, mT_stN, mI_stN, mL_stN, mD_stN, mR_stN, mN_stN, mS_stN, e92_0, e92_1, e92_4, e92_5, e92_6, e92_7, e92_8, e92_11, e92_22, e92_23, rt92, hn92, cl91, sp91, lgc0, ks_0]
theorem dn_ex {ok : Nat → Bool} {j : Nat} (h1 : j ≤ 54) (h2 : ∀ k, k < j → ok k = false) (h3 : j < 54 → ok j = true) : dnF ok 54 = if j = 54 then -1 else nI j := by
  have : ∀ d, d ≤ j → dnF ok (54 - j + d) = if j = 54 then -1 else nI j := by
    intro d
    induction d with
    | zero =>
      intro _
      by_cases hj : j = 54
      · subst hj; rfl
      · rw [if_neg hj, Nat.add_zero, show 54 - j = (53 - j) + 1 by omega]
        unfold dnF
        rw [show 53 - (53 - j) = j by omega, if_pos (h3 (by omega))]
    | succ d ih =>
      intro hd
      rw [← Nat.add_assoc]
      unfold dnF
      rw [h2 (53 - (54 - j + d)) (by omega), if_neg (by decide)]
      exact ih (by omega)
  have h4 := this j (Nat.le_refl j)
  rw [show 54 - j + j = 54 by omega] at h4
  exact h4
theorem sp25 {B : Nat} {K : Int32} {M : AMem} {Q : AR → Prop} (h : ST B M) (hK : kdF K = true) : CaP 25 [.ref (B + 2), .long (ksF K)] M Q = Q (M, .inl (some (.int (dnF (lakF (mI M (B + 3)) K) 54)))) := by
  obtain ⟨j, h1, h2, h3, e⟩ := loopX (m := 25) (pc := 2) (Q := Q) (fun c => !lakF (mI M (B + 3)) K c) 54 (fun k => [(0, .ref (B + 2)), (1, .long (ksF K)), (3, .int (nI k))]) (fun _ => M) (by
    intro k hk ho
    simp only [lakF] at ho
    have e90 := fun Q => @sp90K K k M Q hK hk
    rw [e25_2]
    cases hkd : kdOf K (nI k)
    · simp [lv_args, sStep, amStep, a_nx, a_ii, a_jj, a_ji, a_ld, a_st, a_if, a_ald, a_c1, a_c2, lkp, lput, lput2, lins, oP_none, oP_next, oP_call, oP_ret, oP_thr, outP_ite, aft_ret, aft_void, aft_thr, fHnd, List.isEmpty_nil, List.filter_cons, List.filter_nil, Value.category, csum, List.map_cons, List.map_nil, List.sum_cons, List.sum_nil, List.cons_append, List.nil_append, Option.toList, vp_nar_int, narrow_b1, narrow_b0, nc115, vc115, fc115, nc111, vc111, fc111, nc100, vc100, fc100, nc109, vc109, fc109, nc120, vc120, fc120, nc119, vc119, fc119, nc116, vc116, fc116, nc45, vc45, fc45, nc32, vc32, fc32, nc102, vc102, fc102, nc106, vc106, fc106, fin3, rf_some, rf_none, upd_ap, va_up_ap, nar_bi, fits_bi, nvp_bi, bi_t, bi_f, fval, fty, ftabs, wrv_0, wrv_1, wrv_2, wrv_3, wrv_5, mT_stI, mI_stI, mL_stI, mD_stI, mR_stI, mN_stI, mS_stI, mT_stL, mI_stL, mL_stL, mD_stL, mR_stL, mN_stL, mS_stL, mT_stD, mI_stD, mL_stD, mD_stD, mR_stD, mN_stD, mS_stD, mT_stR, mI_stR, mL_stR, mD_stR, mR_stR, mN_stR, mS_stR, mT_stN, mI_stN, mL_stN, mD_stN, mR_stN, mN_stN, mS_stN, e25_0, e25_1, e25_3, e25_5, e25_8, e25_9, e25_10, e25_13, e25_16, e25_17, e25_20, e25_21, e25_22, e25_25, e25_26, e25_27, e25_30, e25_33, e25_34, rt25, hn25, h, tT0, tT1, tT2, tT3, tT4, tT5, tT6, tT7, tT8, tT9, tT10, tT11, tT12, tT13, tR0_0, tR0_6, tR0_7, tR0_8, tR0_9, tR0_11, tR0_12, tR0_14, tR2_0, tR2_1, tR6_0, tR9_0, tR9_1, ST_stI, ST_stL, ST_stD, ge54 hk, cl90, e90, hkd, bi_ne, inb_nI hk, nI_clamp (lt31 hk (by decide)), nI_1]
    · simp [hkd] at ho
      simp [lv_args, sStep, amStep, a_nx, a_ii, a_jj, a_ji, a_ld, a_st, a_if, a_ald, a_c1, a_c2, lkp, lput, lput2, lins, oP_none, oP_next, oP_call, oP_ret, oP_thr, outP_ite, aft_ret, aft_void, aft_thr, fHnd, List.isEmpty_nil, List.filter_cons, List.filter_nil, Value.category, csum, List.map_cons, List.map_nil, List.sum_cons, List.sum_nil, List.cons_append, List.nil_append, Option.toList, vp_nar_int, narrow_b1, narrow_b0, nc115, vc115, fc115, nc111, vc111, fc111, nc100, vc100, fc100, nc109, vc109, fc109, nc120, vc120, fc120, nc119, vc119, fc119, nc116, vc116, fc116, nc45, vc45, fc45, nc32, vc32, fc32, nc102, vc102, fc102, nc106, vc106, fc106, fin3, rf_some, rf_none, upd_ap, va_up_ap, nar_bi, fits_bi, nvp_bi, bi_t, bi_f, fval, fty, ftabs, wrv_0, wrv_1, wrv_2, wrv_3, wrv_5, mT_stI, mI_stI, mL_stI, mD_stI, mR_stI, mN_stI, mS_stI, mT_stL, mI_stL, mL_stL, mD_stL, mR_stL, mN_stL, mS_stL, mT_stD, mI_stD, mL_stD, mD_stD, mR_stD, mN_stD, mS_stD, mT_stR, mI_stR, mL_stR, mD_stR, mR_stR, mN_stR, mS_stR, mT_stN, mI_stN, mL_stN, mD_stN, mR_stN, mN_stN, mS_stN, e25_0, e25_1, e25_3, e25_5, e25_8, e25_9, e25_10, e25_13, e25_16, e25_17, e25_20, e25_21, e25_22, e25_25, e25_26, e25_27, e25_30, e25_33, e25_34, rt25, hn25, h, tT0, tT1, tT2, tT3, tT4, tT5, tT6, tT7, tT8, tT9, tT10, tT11, tT12, tT13, tR0_0, tR0_6, tR0_7, tR0_8, tR0_9, tR0_11, tR0_12, tR0_14, tR2_0, tR2_1, tR6_0, tR9_0, tR9_1, ST_stI, ST_stL, ST_stD, ge54 hk, cl90, e90, hkd, bi_ne, inb_nI hk, nI_clamp (lt31 hk (by decide)), nI_1, ho])
  rw [dn_ex h1 (fun k hk => by simpa using h2 k hk) (fun hj => by simpa using h3 hj)]
  simp only [nI_0] at e
  unfold CaP
  simp [lv_args, sStep, amStep, a_nx, a_ii, a_jj, a_ji, a_ld, a_st, a_if, a_ald, a_c1, a_c2, lkp, lput, lput2, lins, oP_none, oP_next, oP_call, oP_ret, oP_thr, outP_ite, aft_ret, aft_void, aft_thr, fHnd, List.isEmpty_nil, List.filter_cons, List.filter_nil, Value.category, csum, List.map_cons, List.map_nil, List.sum_cons, List.sum_nil, List.cons_append, List.nil_append, Option.toList, vp_nar_int, narrow_b1, narrow_b0, nc115, vc115, fc115, nc111, vc111, fc111, nc100, vc100, fc100, nc109, vc109, fc109, nc120, vc120, fc120, nc119, vc119, fc119, nc116, vc116, fc116, nc45, vc45, fc45, nc32, vc32, fc32, nc102, vc102, fc102, nc106, vc106, fc106, fin3, rf_some, rf_none, upd_ap, va_up_ap, nar_bi, fits_bi, nvp_bi, bi_t, bi_f, fval, fty, ftabs, wrv_0, wrv_1, wrv_2, wrv_3, wrv_5, mT_stI, mI_stI, mL_stI, mD_stI, mR_stI, mN_stI, mS_stI, mT_stL, mI_stL, mL_stL, mD_stL, mR_stL, mN_stL, mS_stL, mT_stD, mI_stD, mL_stD, mD_stD, mR_stD, mN_stD, mS_stD, mT_stR, mI_stR, mL_stR, mD_stR, mR_stR, mN_stR, mS_stR, mT_stN, mI_stN, mL_stN, mD_stN, mR_stN, mN_stN, mS_stN, e25_0, e25_1, e25_3, e25_5, e25_8, e25_9, e25_10, e25_13, e25_16, e25_17, e25_20, e25_21, e25_22, e25_25, e25_26, e25_27, e25_30, e25_33, e25_34, rt25, hn25, h, tT0, tT1, tT2, tT3, tT4, tT5, tT6, tT7, tT8, tT9, tT10, tT11, tT12, tT13, tR0_0, tR0_6, tR0_7, tR0_8, tR0_9, tR0_11, tR0_12, tR0_14, tR2_0, tR2_1, tR6_0, tR9_0, tR9_1, ST_stI, ST_stL, ST_stD]
  rw [e, e25_2]
  by_cases hj : j = 54
  · subst hj
    simp [lv_args, sStep, amStep, a_nx, a_ii, a_jj, a_ji, a_ld, a_st, a_if, a_ald, a_c1, a_c2, lkp, lput, lput2, lins, oP_none, oP_next, oP_call, oP_ret, oP_thr, outP_ite, aft_ret, aft_void, aft_thr, fHnd, List.isEmpty_nil, List.filter_cons, List.filter_nil, Value.category, csum, List.map_cons, List.map_nil, List.sum_cons, List.sum_nil, List.cons_append, List.nil_append, Option.toList, vp_nar_int, narrow_b1, narrow_b0, nc115, vc115, fc115, nc111, vc111, fc111, nc100, vc100, fc100, nc109, vc109, fc109, nc120, vc120, fc120, nc119, vc119, fc119, nc116, vc116, fc116, nc45, vc45, fc45, nc32, vc32, fc32, nc102, vc102, fc102, nc106, vc106, fc106, fin3, rf_some, rf_none, upd_ap, va_up_ap, nar_bi, fits_bi, nvp_bi, bi_t, bi_f, fval, fty, ftabs, wrv_0, wrv_1, wrv_2, wrv_3, wrv_5, mT_stI, mI_stI, mL_stI, mD_stI, mR_stI, mN_stI, mS_stI, mT_stL, mI_stL, mL_stL, mD_stL, mR_stL, mN_stL, mS_stL, mT_stD, mI_stD, mL_stD, mD_stD, mR_stD, mN_stD, mS_stD, mT_stR, mI_stR, mL_stR, mD_stR, mR_stR, mN_stR, mS_stR, mT_stN, mI_stN, mL_stN, mD_stN, mR_stN, mN_stN, mS_stN, e25_0, e25_1, e25_3, e25_5, e25_8, e25_9, e25_10, e25_13, e25_16, e25_17, e25_20, e25_21, e25_22, e25_25, e25_26, e25_27, e25_30, e25_33, e25_34, rt25, hn25, h, tT0, tT1, tT2, tT3, tT4, tT5, tT6, tT7, tT8, tT9, tT10, tT11, tT12, tT13, tR0_0, tR0_6, tR0_7, tR0_8, tR0_9, tR0_11, tR0_12, tR0_14, tR2_0, tR2_1, tR6_0, tR9_0, tR9_1, ST_stI, ST_stL, ST_stD, nI54, Int32.le_refl]
  · have hlt : j < 54 := by omega
    have hf := h3 hlt
    have e90 := fun Q => @sp90K K j M Q hK hlt
    simp [lakF] at hf
    simp [lv_args, sStep, amStep, a_nx, a_ii, a_jj, a_ji, a_ld, a_st, a_if, a_ald, a_c1, a_c2, lkp, lput, lput2, lins, oP_none, oP_next, oP_call, oP_ret, oP_thr, outP_ite, aft_ret, aft_void, aft_thr, fHnd, List.isEmpty_nil, List.filter_cons, List.filter_nil, Value.category, csum, List.map_cons, List.map_nil, List.sum_cons, List.sum_nil, List.cons_append, List.nil_append, Option.toList, vp_nar_int, narrow_b1, narrow_b0, nc115, vc115, fc115, nc111, vc111, fc111, nc100, vc100, fc100, nc109, vc109, fc109, nc120, vc120, fc120, nc119, vc119, fc119, nc116, vc116, fc116, nc45, vc45, fc45, nc32, vc32, fc32, nc102, vc102, fc102, nc106, vc106, fc106, fin3, rf_some, rf_none, upd_ap, va_up_ap, nar_bi, fits_bi, nvp_bi, bi_t, bi_f, fval, fty, ftabs, wrv_0, wrv_1, wrv_2, wrv_3, wrv_5, mT_stI, mI_stI, mL_stI, mD_stI, mR_stI, mN_stI, mS_stI, mT_stL, mI_stL, mL_stL, mD_stL, mR_stL, mN_stL, mS_stL, mT_stD, mI_stD, mL_stD, mD_stD, mR_stD, mN_stD, mS_stD, mT_stR, mI_stR, mL_stR, mD_stR, mR_stR, mN_stR, mS_stR, mT_stN, mI_stN, mL_stN, mD_stN, mR_stN, mN_stN, mS_stN, e25_0, e25_1, e25_3, e25_5, e25_8, e25_9, e25_10, e25_13, e25_16, e25_17, e25_20, e25_21, e25_22, e25_25, e25_26, e25_27, e25_30, e25_33, e25_34, rt25, hn25, h, tT0, tT1, tT2, tT3, tT4, tT5, tT6, tT7, tT8, tT9, tT10, tT11, tT12, tT13, tR0_0, tR0_6, tR0_7, tR0_8, tR0_9, tR0_11, tR0_12, tR0_14, tR2_0, tR2_1, tR6_0, tR9_0, tR9_1, ST_stI, ST_stL, ST_stD, ge54 hlt, cl90, e90, hf.1, hf.2, bi_ne, inb_nI hlt, nI_clamp (lt31 hlt (by decide)), hj]
theorem sp26 {B : Nat} {K : Int32} {M : AMem} {Q : AR → Prop} (h : ST B M) (hK : kdF K = true) : CaP 26 [.ref (B + 2), .long (ksF K)] M Q = Q (M, .inl (some (.int (poF (mI M (B + 3)) K 54)))) := by
  have hl := loopE (m := 26) (pc := 7) (Q := Q) 54 (fun k => [(0, .ref (B + 2)), (1, .long (ksF K)), (3, .int (poF (mI M (B + 3)) K k)), (4, .int (nI k))]) (fun _ => M) (by
    intro k hk
    have e90 := fun Q => @sp90K K k M Q hK hk
    rw [e26_7]
    cases hkd : kdOf K (nI k)
    · simp [lv_args, sStep, amStep, a_nx, a_ii, a_jj, a_ji, a_ld, a_st, a_if, a_ald, a_c1, a_c2, lkp, lput, lput2, lins, oP_none, oP_next, oP_call, oP_ret, oP_thr, outP_ite, aft_ret, aft_void, aft_thr, fHnd, List.isEmpty_nil, List.filter_cons, List.filter_nil, Value.category, csum, List.map_cons, List.map_nil, List.sum_cons, List.sum_nil, List.cons_append, List.nil_append, Option.toList, vp_nar_int, narrow_b1, narrow_b0, nc115, vc115, fc115, nc111, vc111, fc111, nc100, vc100, fc100, nc109, vc109, fc109, nc120, vc120, fc120, nc119, vc119, fc119, nc116, vc116, fc116, nc45, vc45, fc45, nc32, vc32, fc32, nc102, vc102, fc102, nc106, vc106, fc106, fin3, rf_some, rf_none, upd_ap, va_up_ap, nar_bi, fits_bi, nvp_bi, bi_t, bi_f, fval, fty, ftabs, wrv_0, wrv_1, wrv_2, wrv_3, wrv_5, mT_stI, mI_stI, mL_stI, mD_stI, mR_stI, mN_stI, mS_stI, mT_stL, mI_stL, mL_stL, mD_stL, mR_stL, mN_stL, mS_stL, mT_stD, mI_stD, mL_stD, mD_stD, mR_stD, mN_stD, mS_stD, mT_stR, mI_stR, mL_stR, mD_stR, mR_stR, mN_stR, mS_stR, mT_stN, mI_stN, mL_stN, mD_stN, mR_stN, mN_stN, mS_stN, e26_0, e26_3, e26_4, e26_5, e26_9, e26_11, e26_14, e26_15, e26_17, e26_20, e26_23, e26_24, e26_25, e26_28, e26_30, e26_31, e26_34, e26_35, e26_38, e26_41, e26_42, rt26, hn26, h, tT0, tT1, tT2, tT3, tT4, tT5, tT6, tT7, tT8, tT9, tT10, tT11, tT12, tT13, tR0_0, tR0_6, tR0_7, tR0_8, tR0_9, tR0_11, tR0_12, tR0_14, tR2_0, tR2_1, tR6_0, tR9_0, tR9_1, ST_stI, ST_stL, ST_stD, ge54 hk, cl90, e90, hkd, bi_ne, inb_nI hk, nI_clamp (lt31 hk (by decide)), nI_1, poF]
    · simp [lv_args, sStep, amStep, a_nx, a_ii, a_jj, a_ji, a_ld, a_st, a_if, a_ald, a_c1, a_c2, lkp, lput, lput2, lins, oP_none, oP_next, oP_call, oP_ret, oP_thr, outP_ite, aft_ret, aft_void, aft_thr, fHnd, List.isEmpty_nil, List.filter_cons, List.filter_nil, Value.category, csum, List.map_cons, List.map_nil, List.sum_cons, List.sum_nil, List.cons_append, List.nil_append, Option.toList, vp_nar_int, narrow_b1, narrow_b0, nc115, vc115, fc115, nc111, vc111, fc111, nc100, vc100, fc100, nc109, vc109, fc109, nc120, vc120, fc120, nc119, vc119, fc119, nc116, vc116, fc116, nc45, vc45, fc45, nc32, vc32, fc32, nc102, vc102, fc102, nc106, vc106, fc106, fin3, rf_some, rf_none, upd_ap, va_up_ap, nar_bi, fits_bi, nvp_bi, bi_t, bi_f, fval, fty, ftabs, wrv_0, wrv_1, wrv_2, wrv_3, wrv_5, mT_stI, mI_stI, mL_stI, mD_stI, mR_stI, mN_stI, mS_stI, mT_stL, mI_stL, mL_stL, mD_stL, mR_stL, mN_stL, mS_stL, mT_stD, mI_stD, mL_stD, mD_stD, mR_stD, mN_stD, mS_stD, mT_stR, mI_stR, mL_stR, mD_stR, mR_stR, mN_stR, mS_stR, mT_stN, mI_stN, mL_stN, mD_stN, mR_stN, mN_stN, mS_stN, e26_0, e26_3, e26_4, e26_5, e26_9, e26_11, e26_14, e26_15, e26_17, e26_20, e26_23, e26_24, e26_25, e26_28, e26_30, e26_31, e26_34, e26_35, e26_38, e26_41, e26_42, rt26, hn26, h, tT0, tT1, tT2, tT3, tT4, tT5, tT6, tT7, tT8, tT9, tT10, tT11, tT12, tT13, tR0_0, tR0_6, tR0_7, tR0_8, tR0_9, tR0_11, tR0_12, tR0_14, tR2_0, tR2_1, tR6_0, tR9_0, tR9_1, ST_stI, ST_stL, ST_stD, ge54 hk, cl90, e90, hkd, bi_ne, inb_nI hk, nI_clamp (lt31 hk (by decide)), nI_1, poF])
  simp only [poF_0, nI_0] at hl
  unfold CaP
  simp [lv_args, sStep, amStep, a_nx, a_ii, a_jj, a_ji, a_ld, a_st, a_if, a_ald, a_c1, a_c2, lkp, lput, lput2, lins, oP_none, oP_next, oP_call, oP_ret, oP_thr, outP_ite, aft_ret, aft_void, aft_thr, fHnd, List.isEmpty_nil, List.filter_cons, List.filter_nil, Value.category, csum, List.map_cons, List.map_nil, List.sum_cons, List.sum_nil, List.cons_append, List.nil_append, Option.toList, vp_nar_int, narrow_b1, narrow_b0, nc115, vc115, fc115, nc111, vc111, fc111, nc100, vc100, fc100, nc109, vc109, fc109, nc120, vc120, fc120, nc119, vc119, fc119, nc116, vc116, fc116, nc45, vc45, fc45, nc32, vc32, fc32, nc102, vc102, fc102, nc106, vc106, fc106, fin3, rf_some, rf_none, upd_ap, va_up_ap, nar_bi, fits_bi, nvp_bi, bi_t, bi_f, fval, fty, ftabs, wrv_0, wrv_1, wrv_2, wrv_3, wrv_5, mT_stI, mI_stI, mL_stI, mD_stI, mR_stI, mN_stI, mS_stI, mT_stL, mI_stL, mL_stL, mD_stL, mR_stL, mN_stL, mS_stL, mT_stD, mI_stD, mL_stD, mD_stD, mR_stD, mN_stD, mS_stD, mT_stR, mI_stR, mL_stR, mD_stR, mR_stR, mN_stR, mS_stR, mT_stN, mI_stN, mL_stN, mD_stN, mR_stN, mN_stN, mS_stN, e26_0, e26_3, e26_4, e26_5, e26_9, e26_11, e26_14, e26_15, e26_17, e26_20, e26_23, e26_24, e26_25, e26_28, e26_30, e26_31, e26_34, e26_35, e26_38, e26_41, e26_42, rt26, hn26, h, tT0, tT1, tT2, tT3, tT4, tT5, tT6, tT7, tT8, tT9, tT10, tT11, tT12, tT13, tR0_0, tR0_6, tR0_7, tR0_8, tR0_9, tR0_11, tR0_12, tR0_14, tR2_0, tR2_1, tR6_0, tR9_0, tR9_1, ST_stI, ST_stL, ST_stD]
  rw [hl, e26_7]
  simp [lv_args, sStep, amStep, a_nx, a_ii, a_jj, a_ji, a_ld, a_st, a_if, a_ald, a_c1, a_c2, lkp, lput, lput2, lins, oP_none, oP_next, oP_call, oP_ret, oP_thr, outP_ite, aft_ret, aft_void, aft_thr, fHnd, List.isEmpty_nil, List.filter_cons, List.filter_nil, Value.category, csum, List.map_cons, List.map_nil, List.sum_cons, List.sum_nil, List.cons_append, List.nil_append, Option.toList, vp_nar_int, narrow_b1, narrow_b0, nc115, vc115, fc115, nc111, vc111, fc111, nc100, vc100, fc100, nc109, vc109, fc109, nc120, vc120, fc120, nc119, vc119, fc119, nc116, vc116, fc116, nc45, vc45, fc45, nc32, vc32, fc32, nc102, vc102, fc102, nc106, vc106, fc106, fin3, rf_some, rf_none, upd_ap, va_up_ap, nar_bi, fits_bi, nvp_bi, bi_t, bi_f, fval, fty, ftabs, wrv_0, wrv_1, wrv_2, wrv_3, wrv_5, mT_stI, mI_stI, mL_stI, mD_stI, mR_stI, mN_stI, mS_stI, mT_stL, mI_stL, mL_stL, mD_stL, mR_stL, mN_stL, mS_stL, mT_stD, mI_stD, mL_stD, mD_stD, mR_stD, mN_stD, mS_stD, mT_stR, mI_stR, mL_stR, mD_stR, mR_stR, mN_stR, mS_stR, mT_stN, mI_stN, mL_stN, mD_stN, mR_stN, mN_stN, mS_stN, e26_0, e26_3, e26_4, e26_5, e26_9, e26_11, e26_14, e26_15, e26_17, e26_20, e26_23, e26_24, e26_25, e26_28, e26_30, e26_31, e26_34, e26_35, e26_38, e26_41, e26_42, rt26, hn26, h, tT0, tT1, tT2, tT3, tT4, tT5, tT6, tT7, tT8, tT9, tT10, tT11, tT12, tT13, tR0_0, tR0_6, tR0_7, tR0_8, tR0_9, tR0_11, tR0_12, tR0_14, tR2_0, tR2_1, tR6_0, tR9_0, tR9_1, ST_stI, ST_stL, ST_stD, nI54, Int32.le_refl]
theorem sp27 {B : Nat} {K : Int32} {M : AMem} {Q : AR → Prop} (h : ST B M) (hK : kdF K = true) : CaP 27 [.ref (B + 2), .long (ksF K)] M Q = Q (stI M (B + 3) (giF (mI M (B + 3)) K 54), .inl none) := by
  have hl := loopE (m := 27) (pc := 2) (Q := Q) 54 (fun k => [(0, .ref (B + 2)), (1, .long (ksF K)), (3, .int (nI k))]) (fun k => stI M (B + 3) (giF (mI M (B + 3)) K k)) (by
    intro k hk
    have e90 := fun Q => @sp90K K k (stI M (B + 3) (giF (mI M (B + 3)) K k)) Q hK hk
    rw [e27_2]
    cases hkd : kdOf K (nI k)
    · simp [lv_args, sStep, amStep, a_nx, a_ii, a_jj, a_ji, a_ld, a_st, a_if, a_ald, a_c1, a_c2, lkp, lput, lput2, lins, oP_none, oP_next, oP_call, oP_ret, oP_thr, outP_ite, aft_ret, aft_void, aft_thr, fHnd, List.isEmpty_nil, List.filter_cons, List.filter_nil, Value.category, csum, List.map_cons, List.map_nil, List.sum_cons, List.sum_nil, List.cons_append, List.nil_append, Option.toList, vp_nar_int, narrow_b1, narrow_b0, nc115, vc115, fc115, nc111, vc111, fc111, nc100, vc100, fc100, nc109, vc109, fc109, nc120, vc120, fc120, nc119, vc119, fc119, nc116, vc116, fc116, nc45, vc45, fc45, nc32, vc32, fc32, nc102, vc102, fc102, nc106, vc106, fc106, fin3, rf_some, rf_none, upd_ap, va_up_ap, nar_bi, fits_bi, nvp_bi, bi_t, bi_f, fval, fty, ftabs, wrv_0, wrv_1, wrv_2, wrv_3, wrv_5, mT_stI, mI_stI, mL_stI, mD_stI, mR_stI, mN_stI, mS_stI, mT_stL, mI_stL, mL_stL, mD_stL, mR_stL, mN_stL, mS_stL, mT_stD, mI_stD, mL_stD, mD_stD, mR_stD, mN_stD, mS_stD, mT_stR, mI_stR, mL_stR, mD_stR, mR_stR, mN_stR, mS_stR, mT_stN, mI_stN, mL_stN, mD_stN, mR_stN, mN_stN, mS_stN, e27_0, e27_1, e27_3, e27_5, e27_8, e27_9, e27_10, e27_13, e27_16, e27_17, e27_20, e27_21, e27_22, e27_23, e27_24, e27_25, e27_26, e27_29, e27_32, rt27, hn27, h, tT0, tT1, tT2, tT3, tT4, tT5, tT6, tT7, tT8, tT9, tT10, tT11, tT12, tT13, tR0_0, tR0_6, tR0_7, tR0_8, tR0_9, tR0_11, tR0_12, tR0_14, tR2_0, tR2_1, tR6_0, tR9_0, tR9_1, ST_stI, ST_stL, ST_stD, ge54 hk, cl90, e90, hkd, bi_ne, inb_nI hk, nI_clamp (lt31 hk (by decide)), nI_1, giF_N hkd]
    · simp [lv_args, sStep, amStep, a_nx, a_ii, a_jj, a_ji, a_ld, a_st, a_if, a_ald, a_c1, a_c2, lkp, lput, lput2, lins, oP_none, oP_next, oP_call, oP_ret, oP_thr, outP_ite, aft_ret, aft_void, aft_thr, fHnd, List.isEmpty_nil, List.filter_cons, List.filter_nil, Value.category, csum, List.map_cons, List.map_nil, List.sum_cons, List.sum_nil, List.cons_append, List.nil_append, Option.toList, vp_nar_int, narrow_b1, narrow_b0, nc115, vc115, fc115, nc111, vc111, fc111, nc100, vc100, fc100, nc109, vc109, fc109, nc120, vc120, fc120, nc119, vc119, fc119, nc116, vc116, fc116, nc45, vc45, fc45, nc32, vc32, fc32, nc102, vc102, fc102, nc106, vc106, fc106, fin3, rf_some, rf_none, upd_ap, va_up_ap, nar_bi, fits_bi, nvp_bi, bi_t, bi_f, fval, fty, ftabs, wrv_0, wrv_1, wrv_2, wrv_3, wrv_5, mT_stI, mI_stI, mL_stI, mD_stI, mR_stI, mN_stI, mS_stI, mT_stL, mI_stL, mL_stL, mD_stL, mR_stL, mN_stL, mS_stL, mT_stD, mI_stD, mL_stD, mD_stD, mR_stD, mN_stD, mS_stD, mT_stR, mI_stR, mL_stR, mD_stR, mR_stR, mN_stR, mS_stR, mT_stN, mI_stN, mL_stN, mD_stN, mR_stN, mN_stN, mS_stN, e27_0, e27_1, e27_3, e27_5, e27_8, e27_9, e27_10, e27_13, e27_16, e27_17, e27_20, e27_21, e27_22, e27_23, e27_24, e27_25, e27_26, e27_29, e27_32, rt27, hn27, h, tT0, tT1, tT2, tT3, tT4, tT5, tT6, tT7, tT8, tT9, tT10, tT11, tT12, tT13, tR0_0, tR0_6, tR0_7, tR0_8, tR0_9, tR0_11, tR0_12, tR0_14, tR2_0, tR2_1, tR6_0, tR9_0, tR9_1, ST_stI, ST_stL, ST_stD, ge54 hk, cl90, e90, hkd, bi_ne, inb_nI hk, nI_clamp (lt31 hk (by decide)), nI_1, giF_at, giF_S hkd, stI_stI])
  simp only [giF_0, stI_self, nI_0] at hl
  unfold CaP
  simp [lv_args, sStep, amStep, a_nx, a_ii, a_jj, a_ji, a_ld, a_st, a_if, a_ald, a_c1, a_c2, lkp, lput, lput2, lins, oP_none, oP_next, oP_call, oP_ret, oP_thr, outP_ite, aft_ret, aft_void, aft_thr, fHnd, List.isEmpty_nil, List.filter_cons, List.filter_nil, Value.category, csum, List.map_cons, List.map_nil, List.sum_cons, List.sum_nil, List.cons_append, List.nil_append, Option.toList, vp_nar_int, narrow_b1, narrow_b0, nc115, vc115, fc115, nc111, vc111, fc111, nc100, vc100, fc100, nc109, vc109, fc109, nc120, vc120, fc120, nc119, vc119, fc119, nc116, vc116, fc116, nc45, vc45, fc45, nc32, vc32, fc32, nc102, vc102, fc102, nc106, vc106, fc106, fin3, rf_some, rf_none, upd_ap, va_up_ap, nar_bi, fits_bi, nvp_bi, bi_t, bi_f, fval, fty, ftabs, wrv_0, wrv_1, wrv_2, wrv_3, wrv_5, mT_stI, mI_stI, mL_stI, mD_stI, mR_stI, mN_stI, mS_stI, mT_stL, mI_stL, mL_stL, mD_stL, mR_stL, mN_stL, mS_stL, mT_stD, mI_stD, mL_stD, mD_stD, mR_stD, mN_stD, mS_stD, mT_stR, mI_stR, mL_stR, mD_stR, mR_stR, mN_stR, mS_stR, mT_stN, mI_stN, mL_stN, mD_stN, mR_stN, mN_stN, mS_stN, e27_0, e27_1, e27_3, e27_5, e27_8, e27_9, e27_10, e27_13, e27_16, e27_17, e27_20, e27_21, e27_22, e27_23, e27_24, e27_25, e27_26, e27_29, e27_32, rt27, hn27, h, tT0, tT1, tT2, tT3, tT4, tT5, tT6, tT7, tT8, tT9, tT10, tT11, tT12, tT13, tR0_0, tR0_6, tR0_7, tR0_8, tR0_9, tR0_11, tR0_12, tR0_14, tR2_0, tR2_1, tR6_0, tR9_0, tR9_1, ST_stI, ST_stL, ST_stD]
  rw [hl, e27_2]
  simp [lv_args, sStep, amStep, a_nx, a_ii, a_jj, a_ji, a_ld, a_st, a_if, a_ald, a_c1, a_c2, lkp, lput, lput2, lins, oP_none, oP_next, oP_call, oP_ret, oP_thr, outP_ite, aft_ret, aft_void, aft_thr, fHnd, List.isEmpty_nil, List.filter_cons, List.filter_nil, Value.category, csum, List.map_cons, List.map_nil, List.sum_cons, List.sum_nil, List.cons_append, List.nil_append, Option.toList, vp_nar_int, narrow_b1, narrow_b0, nc115, vc115, fc115, nc111, vc111, fc111, nc100, vc100, fc100, nc109, vc109, fc109, nc120, vc120, fc120, nc119, vc119, fc119, nc116, vc116, fc116, nc45, vc45, fc45, nc32, vc32, fc32, nc102, vc102, fc102, nc106, vc106, fc106, fin3, rf_some, rf_none, upd_ap, va_up_ap, nar_bi, fits_bi, nvp_bi, bi_t, bi_f, fval, fty, ftabs, wrv_0, wrv_1, wrv_2, wrv_3, wrv_5, mT_stI, mI_stI, mL_stI, mD_stI, mR_stI, mN_stI, mS_stI, mT_stL, mI_stL, mL_stL, mD_stL, mR_stL, mN_stL, mS_stL, mT_stD, mI_stD, mL_stD, mD_stD, mR_stD, mN_stD, mS_stD, mT_stR, mI_stR, mL_stR, mD_stR, mR_stR, mN_stR, mS_stR, mT_stN, mI_stN, mL_stN, mD_stN, mR_stN, mN_stN, mS_stN, e27_0, e27_1, e27_3, e27_5, e27_8, e27_9, e27_10, e27_13, e27_16, e27_17, e27_20, e27_21, e27_22, e27_23, e27_24, e27_25, e27_26, e27_29, e27_32, rt27, hn27, h, tT0, tT1, tT2, tT3, tT4, tT5, tT6, tT7, tT8, tT9, tT10, tT11, tT12, tT13, tR0_0, tR0_6, tR0_7, tR0_8, tR0_9, tR0_11, tR0_12, tR0_14, tR2_0, tR2_1, tR6_0, tR9_0, tR9_1, ST_stI, ST_stL, ST_stD, nI54, Int32.le_refl]
theorem sp29 {p : Nat} {r c : Int32} {M : AMem} {Q : AR → Prop} (hs : SH M p) : CaP 29 [.ref p, .int r, .int c] M Q = Q (M, .inl (some (.int (bi (inR r 0 (mI M p 0 - 1) && inR c 0 (mI M p 1 - 1)))))) := by
  unfold CaP
  simp [lv_args, sStep, amStep, a_nx, a_ii, a_jj, a_ji, a_ld, a_st, a_if, a_ald, a_c1, a_c2, lkp, lput, lput2, lins, oP_none, oP_next, oP_call, oP_ret, oP_thr, outP_ite, aft_ret, aft_void, aft_thr, fHnd, List.isEmpty_nil, List.filter_cons, List.filter_nil, Value.category, csum, List.map_cons, List.map_nil, List.sum_cons, List.sum_nil, List.cons_append, List.nil_append, Option.toList, vp_nar_int, narrow_b1, narrow_b0, nc115, vc115, fc115, nc111, vc111, fc111, nc100, vc100, fc100, nc109, vc109, fc109, nc120, vc120, fc120, nc119, vc119, fc119, nc116, vc116, fc116, nc45, vc45, fc45, nc32, vc32, fc32, nc102, vc102, fc102, nc106, vc106, fc106, fin3, rf_some, rf_none, upd_ap, va_up_ap, nar_bi, fits_bi, nvp_bi, bi_t, bi_f, fval, fty, ftabs, wrv_0, wrv_1, wrv_2, wrv_3, wrv_5, mT_stI, mI_stI, mL_stI, mD_stI, mR_stI, mN_stI, mS_stI, mT_stL, mI_stL, mL_stL, mD_stL, mR_stL, mN_stL, mS_stL, mT_stD, mI_stD, mL_stD, mD_stD, mR_stD, mN_stD, mS_stD, mT_stR, mI_stR, mL_stR, mD_stR, mR_stR, mN_stR, mS_stR, mT_stN, mI_stN, mL_stN, mD_stN, mR_stN, mN_stN, mS_stN, e29_0, e29_1, e29_2, e29_3, e29_6, e29_7, e29_8, e29_11, e29_14, e29_15, e29_16, e29_17, e29_20, e29_21, e29_22, e29_25, e29_28, e29_29, e29_32, e29_33, rt29, hn29, sh0 hs, cl87, sp87, bi_ne]
  cases inR r 0 (mI M p 0 - 1) <;> cases inR c 0 (mI M p 1 - 1) <;> simp [bi]
theorem sp30 {p : Nat} {r c : Int32} {M : AMem} {Q : AR → Prop} (hs : SH M p) : CaP 30 [.ref p, .int r, .int c] M Q = Q (M, .inl (some (.int (r * mI M p 1 + c)))) := by
  unfold CaP
  simp [lv_args, sStep, amStep, a_nx, a_ii, a_jj, a_ji, a_ld, a_st, a_if, a_ald, a_c1, a_c2, lkp, lput, lput2, lins, oP_none, oP_next, oP_call, oP_ret, oP_thr, outP_ite, aft_ret, aft_void, aft_thr, fHnd, List.isEmpty_nil, List.filter_cons, List.filter_nil, Value.category, csum, List.map_cons, List.map_nil, List.sum_cons, List.sum_nil, List.cons_append, List.nil_append, Option.toList, vp_nar_int, narrow_b1, narrow_b0, nc115, vc115, fc115, nc111, vc111, fc111, nc100, vc100, fc100, nc109, vc109, fc109, nc120, vc120, fc120, nc119, vc119, fc119, nc116, vc116, fc116, nc45, vc45, fc45, nc32, vc32, fc32, nc102, vc102, fc102, nc106, vc106, fc106, fin3, rf_some, rf_none, upd_ap, va_up_ap, nar_bi, fits_bi, nvp_bi, bi_t, bi_f, fval, fty, ftabs, wrv_0, wrv_1, wrv_2, wrv_3, wrv_5, mT_stI, mI_stI, mL_stI, mD_stI, mR_stI, mN_stI, mS_stI, mT_stL, mI_stL, mL_stL, mD_stL, mR_stL, mN_stL, mS_stL, mT_stD, mI_stD, mL_stD, mD_stD, mR_stD, mN_stD, mS_stD, mT_stR, mI_stR, mL_stR, mD_stR, mR_stR, mN_stR, mS_stR, mT_stN, mI_stN, mL_stN, mD_stN, mR_stN, mN_stN, mS_stN, e30_0, e30_1, e30_2, e30_5, e30_6, e30_7, e30_8, rt30, hn30, sh0 hs]
theorem nlt54 {k : Nat} (h : k < 54) : nI k < (54 : Int32) := nI_lt (b := 54) h (by decide)
theorem sp31 {p k : Nat} {M : AMem} {Q : AR → Prop} (hs : SH M p) (hk : k < 54) : CaP 31 [.ref p, .int (nI k)] M Q = Q (M, .inl (some (.int (mI M (p + 1) k)))) := by
  unfold CaP
  simp [lv_args, sStep, amStep, a_nx, a_ii, a_jj, a_ji, a_ld, a_st, a_if, a_ald, a_c1, a_c2, lkp, lput, lput2, lins, oP_none, oP_next, oP_call, oP_ret, oP_thr, outP_ite, aft_ret, aft_void, aft_thr, fHnd, List.isEmpty_nil, List.filter_cons, List.filter_nil, Value.category, csum, List.map_cons, List.map_nil, List.sum_cons, List.sum_nil, List.cons_append, List.nil_append, Option.toList, vp_nar_int, narrow_b1, narrow_b0, nc115, vc115, fc115, nc111, vc111, fc111, nc100, vc100, fc100, nc109, vc109, fc109, nc120, vc120, fc120, nc119, vc119, fc119, nc116, vc116, fc116, nc45, vc45, fc45, nc32, vc32, fc32, nc102, vc102, fc102, nc106, vc106, fc106, fin3, rf_some, rf_none, upd_ap, va_up_ap, nar_bi, fits_bi, nvp_bi, bi_t, bi_f, fval, fty, ftabs, wrv_0, wrv_1, wrv_2, wrv_3, wrv_5, mT_stI, mI_stI, mL_stI, mD_stI, mR_stI, mN_stI, mS_stI, mT_stL, mI_stL, mL_stL, mD_stL, mR_stL, mN_stL, mS_stL, mT_stD, mI_stD, mL_stD, mD_stD, mR_stD, mN_stD, mS_stD, mT_stR, mI_stR, mL_stR, mD_stR, mR_stR, mN_stR, mS_stR, mT_stN, mI_stN, mL_stN, mD_stN, mR_stN, mN_stN, mS_stN, e31_0, e31_1, e31_4, e31_5, e31_6, e31_9, e31_10, e31_13, e31_14, e31_17, e31_18, e31_21, e31_22, e31_23, rt31, hn31, sh0 hs, sh1 hs, sh5 hs, nlt0 (lt31 hk (by decide)), nlt54 hk, inb_nI hk, nI_clamp (lt31 hk (by decide))]
/-- the counts behind a place's change -/
def tmF (T : Nat → Int32) (b x : Int32) : Nat → Int32 :=
  let T1 := if b = -1 then T else upd T b.toNatClampNeg (T b.toNatClampNeg - 1)
  if x = -1 then T1 else upd T1 x.toNatClampNeg (T1 x.toNatClampNeg + 1)
theorem inRm1 : inR (-1) 0 53 = false := by decide
theorem sp32 {p k : Nat} {x : Int32} {M : AMem} {Q : AR → Prop} (hs : SH M p) (hk : k < 54) (hb : isCN (mI M (p + 1) k)) (hx : isCN x) : CaP 32 [.ref p, .int (nI k), .int x] M Q = Q (stI (stI M (p + 1) (upd (mI M (p + 1)) k x)) (p + 2) (tmF (mI M (p + 2)) (mI M (p + 1) k) x), .inl (some (.int (mI M (p + 1) k)))) := by
  have e31 := fun Q => @sp31 p k M Q hs hk
  unfold CaP
  have eself : stI (stI M (p + 1) (upd (mI M (p + 1)) k x)) (p + 2) (mI M (p + 2)) = stI M (p + 1) (upd (mI M (p + 1)) k x) := stI_eq (by simp [mI_stI, va_up_ap])
  rcases hb with hb | ⟨b, hb54, hb⟩ <;> rcases hx with hx | ⟨c, hc54, hx⟩ <;> rw [hb] at e31 ⊢ <;> subst hx
  · simp [lv_args, sStep, amStep, a_nx, a_ii, a_jj, a_ji, a_ld, a_st, a_if, a_ald, a_c1, a_c2, lkp, lput, lput2, lins, oP_none, oP_next, oP_call, oP_ret, oP_thr, outP_ite, aft_ret, aft_void, aft_thr, fHnd, List.isEmpty_nil, List.filter_cons, List.filter_nil, Value.category, csum, List.map_cons, List.map_nil, List.sum_cons, List.sum_nil, List.cons_append, List.nil_append, Option.toList, vp_nar_int, narrow_b1, narrow_b0, nc115, vc115, fc115, nc111, vc111, fc111, nc100, vc100, fc100, nc109, vc109, fc109, nc120, vc120, fc120, nc119, vc119, fc119, nc116, vc116, fc116, nc45, vc45, fc45, nc32, vc32, fc32, nc102, vc102, fc102, nc106, vc106, fc106, fin3, rf_some, rf_none, upd_ap, va_up_ap, nar_bi, fits_bi, nvp_bi, bi_t, bi_f, fval, fty, ftabs, wrv_0, wrv_1, wrv_2, wrv_3, wrv_5, mT_stI, mI_stI, mL_stI, mD_stI, mR_stI, mN_stI, mS_stI, mT_stL, mI_stL, mL_stL, mD_stL, mR_stL, mN_stL, mS_stL, mT_stD, mI_stD, mL_stD, mD_stD, mR_stD, mN_stD, mS_stD, mT_stR, mI_stR, mL_stR, mD_stR, mR_stR, mN_stR, mS_stR, mT_stN, mI_stN, mL_stN, mD_stN, mR_stN, mN_stN, mS_stN, e32_0, e32_1, e32_2, e32_5, e32_6, e32_7, e32_10, e32_11, e32_12, e32_15, e32_16, e32_19, e32_20, e32_21, e32_22, e32_25, e32_26, e32_27, e32_28, e32_29, e32_32, e32_35, e32_36, e32_39, e32_40, e32_41, e32_42, e32_43, e32_44, e32_45, e32_46, e32_49, e32_52, e32_53, e32_56, e32_57, e32_58, e32_59, e32_60, e32_61, e32_62, e32_63, rt32, hn32, sh0 hs, sh1 hs, sh2 hs, sh5 hs, sh6 hs, nlt0 (lt31 hk (by decide)), nlt54 hk, inb_nI hk, nI_clamp (lt31 hk (by decide)), cl31, e31, cl89, sp89, inRm1, bi_ne, tmF, eself]
  · simp [lv_args, sStep, amStep, a_nx, a_ii, a_jj, a_ji, a_ld, a_st, a_if, a_ald, a_c1, a_c2, lkp, lput, lput2, lins, oP_none, oP_next, oP_call, oP_ret, oP_thr, outP_ite, aft_ret, aft_void, aft_thr, fHnd, List.isEmpty_nil, List.filter_cons, List.filter_nil, Value.category, csum, List.map_cons, List.map_nil, List.sum_cons, List.sum_nil, List.cons_append, List.nil_append, Option.toList, vp_nar_int, narrow_b1, narrow_b0, nc115, vc115, fc115, nc111, vc111, fc111, nc100, vc100, fc100, nc109, vc109, fc109, nc120, vc120, fc120, nc119, vc119, fc119, nc116, vc116, fc116, nc45, vc45, fc45, nc32, vc32, fc32, nc102, vc102, fc102, nc106, vc106, fc106, fin3, rf_some, rf_none, upd_ap, va_up_ap, nar_bi, fits_bi, nvp_bi, bi_t, bi_f, fval, fty, ftabs, wrv_0, wrv_1, wrv_2, wrv_3, wrv_5, mT_stI, mI_stI, mL_stI, mD_stI, mR_stI, mN_stI, mS_stI, mT_stL, mI_stL, mL_stL, mD_stL, mR_stL, mN_stL, mS_stL, mT_stD, mI_stD, mL_stD, mD_stD, mR_stD, mN_stD, mS_stD, mT_stR, mI_stR, mL_stR, mD_stR, mR_stR, mN_stR, mS_stR, mT_stN, mI_stN, mL_stN, mD_stN, mR_stN, mN_stN, mS_stN, e32_0, e32_1, e32_2, e32_5, e32_6, e32_7, e32_10, e32_11, e32_12, e32_15, e32_16, e32_19, e32_20, e32_21, e32_22, e32_25, e32_26, e32_27, e32_28, e32_29, e32_32, e32_35, e32_36, e32_39, e32_40, e32_41, e32_42, e32_43, e32_44, e32_45, e32_46, e32_49, e32_52, e32_53, e32_56, e32_57, e32_58, e32_59, e32_60, e32_61, e32_62, e32_63, rt32, hn32, sh0 hs, sh1 hs, sh2 hs, sh5 hs, sh6 hs, nlt0 (lt31 hk (by decide)), nlt54 hk, inb_nI hk, nI_clamp (lt31 hk (by decide)), cl31, e31, cl89, sp89, inRm1, inR53 hc54, inb_nI hc54, nI_clamp (lt31 hc54 (by decide)), nI_nm1 hc54, bi_ne, tmF, stI_stI]
  · simp [lv_args, sStep, amStep, a_nx, a_ii, a_jj, a_ji, a_ld, a_st, a_if, a_ald, a_c1, a_c2, lkp, lput, lput2, lins, oP_none, oP_next, oP_call, oP_ret, oP_thr, outP_ite, aft_ret, aft_void, aft_thr, fHnd, List.isEmpty_nil, List.filter_cons, List.filter_nil, Value.category, csum, List.map_cons, List.map_nil, List.sum_cons, List.sum_nil, List.cons_append, List.nil_append, Option.toList, vp_nar_int, narrow_b1, narrow_b0, nc115, vc115, fc115, nc111, vc111, fc111, nc100, vc100, fc100, nc109, vc109, fc109, nc120, vc120, fc120, nc119, vc119, fc119, nc116, vc116, fc116, nc45, vc45, fc45, nc32, vc32, fc32, nc102, vc102, fc102, nc106, vc106, fc106, fin3, rf_some, rf_none, upd_ap, va_up_ap, nar_bi, fits_bi, nvp_bi, bi_t, bi_f, fval, fty, ftabs, wrv_0, wrv_1, wrv_2, wrv_3, wrv_5, mT_stI, mI_stI, mL_stI, mD_stI, mR_stI, mN_stI, mS_stI, mT_stL, mI_stL, mL_stL, mD_stL, mR_stL, mN_stL, mS_stL, mT_stD, mI_stD, mL_stD, mD_stD, mR_stD, mN_stD, mS_stD, mT_stR, mI_stR, mL_stR, mD_stR, mR_stR, mN_stR, mS_stR, mT_stN, mI_stN, mL_stN, mD_stN, mR_stN, mN_stN, mS_stN, e32_0, e32_1, e32_2, e32_5, e32_6, e32_7, e32_10, e32_11, e32_12, e32_15, e32_16, e32_19, e32_20, e32_21, e32_22, e32_25, e32_26, e32_27, e32_28, e32_29, e32_32, e32_35, e32_36, e32_39, e32_40, e32_41, e32_42, e32_43, e32_44, e32_45, e32_46, e32_49, e32_52, e32_53, e32_56, e32_57, e32_58, e32_59, e32_60, e32_61, e32_62, e32_63, rt32, hn32, sh0 hs, sh1 hs, sh2 hs, sh5 hs, sh6 hs, nlt0 (lt31 hk (by decide)), nlt54 hk, inb_nI hk, nI_clamp (lt31 hk (by decide)), cl31, e31, cl89, sp89, inRm1, inR53 hb54, inb_nI hb54, nI_clamp (lt31 hb54 (by decide)), nI_nm1 hb54, bi_ne, tmF, stI_stI]
  · simp [lv_args, sStep, amStep, a_nx, a_ii, a_jj, a_ji, a_ld, a_st, a_if, a_ald, a_c1, a_c2, lkp, lput, lput2, lins, oP_none, oP_next, oP_call, oP_ret, oP_thr, outP_ite, aft_ret, aft_void, aft_thr, fHnd, List.isEmpty_nil, List.filter_cons, List.filter_nil, Value.category, csum, List.map_cons, List.map_nil, List.sum_cons, List.sum_nil, List.cons_append, List.nil_append, Option.toList, vp_nar_int, narrow_b1, narrow_b0, nc115, vc115, fc115, nc111, vc111, fc111, nc100, vc100, fc100, nc109, vc109, fc109, nc120, vc120, fc120, nc119, vc119, fc119, nc116, vc116, fc116, nc45, vc45, fc45, nc32, vc32, fc32, nc102, vc102, fc102, nc106, vc106, fc106, fin3, rf_some, rf_none, upd_ap, va_up_ap, nar_bi, fits_bi, nvp_bi, bi_t, bi_f, fval, fty, ftabs, wrv_0, wrv_1, wrv_2, wrv_3, wrv_5, mT_stI, mI_stI, mL_stI, mD_stI, mR_stI, mN_stI, mS_stI, mT_stL, mI_stL, mL_stL, mD_stL, mR_stL, mN_stL, mS_stL, mT_stD, mI_stD, mL_stD, mD_stD, mR_stD, mN_stD, mS_stD, mT_stR, mI_stR, mL_stR, mD_stR, mR_stR, mN_stR, mS_stR, mT_stN, mI_stN, mL_stN, mD_stN, mR_stN, mN_stN, mS_stN, e32_0, e32_1, e32_2, e32_5, e32_6, e32_7, e32_10, e32_11, e32_12, e32_15, e32_16, e32_19, e32_20, e32_21, e32_22, e32_25, e32_26, e32_27, e32_28, e32_29, e32_32, e32_35, e32_36, e32_39, e32_40, e32_41, e32_42, e32_43, e32_44, e32_45, e32_46, e32_49, e32_52, e32_53, e32_56, e32_57, e32_58, e32_59, e32_60, e32_61, e32_62, e32_63, rt32, hn32, sh0 hs, sh1 hs, sh2 hs, sh5 hs, sh6 hs, nlt0 (lt31 hk (by decide)), nlt54 hk, inb_nI hk, nI_clamp (lt31 hk (by decide)), cl31, e31, cl89, sp89, inRm1, inR53 hb54, inb_nI hb54, nI_clamp (lt31 hb54 (by decide)), nI_nm1 hb54, inR53 hc54, inb_nI hc54, nI_clamp (lt31 hc54 (by decide)), nI_nm1 hc54, bi_ne, tmF, stI_stI]
def tlF (f T : Nat → Int32) (c : Int32) : Nat → Nat → Int32
  | 0 => T
  | k + 1 => if f k = -1 then tmF (tlF f T c k) (-1) (rem54 (c + nI (layF f 0 c k).2)) else tlF f T c k
theorem tlF_0 {f T : Nat → Int32} {c : Int32} : tlF f T c 0 = T := rfl
theorem lay_le {f : Nat → Int32} {o : Nat} {c : Int32} {k : Nat} : (layF f o c k).2 ≤ k := by
  induction k with
  | zero => exact Nat.le_refl 0
  | succ k ih =>
    unfold layF
    split
    · exact Nat.succ_le_succ ih
    · omega
theorem rem54_nI {a b : Nat} (ha : a < 54) (hb : b ≤ 54) : rem54 (nI a + nI b) = nI ((a + b) % 54) := by
  rw [nI_add]
  exact pk_rem (d := 54) (by omega) (by decide) (by decide)
theorem layF_hi0 {f : Nat → Int32} {c : Int32} {k j : Nat} (h : k ≤ j) : (layF f 0 c k).1 j = f j := by
  have := @layF_hi f 0 c k j h
  rwa [Nat.zero_add] at this
theorem sp33 {p R C c : Nat} {M : AMem} {Q : AR → Prop} (hs : SH M p) (hR : mI M p 0 = nI R) (hC : mI M p 1 = nI C) (hn : R * C ≤ 54) (hc : c < 54) (hp : ∀ k, k < 54 → isCN (mI M (p + 1) k)) : CaP 33 [.ref p, .int (nI c)] M Q = Q (stI (stI M (p + 1) (layF (mI M (p + 1)) 0 (nI c) (R * C)).1) (p + 2) (tlF (mI M (p + 1)) (mI M (p + 2)) (nI c) (R * C)), .inl (some (.int (nI (layF (mI M (p + 1)) 0 (nI c) (R * C)).2)))) := by
  have hl := loopE (m := 33) (pc := 4) (Q := Q) (R * C) (fun k => [(0, .ref p), (1, .int (nI c)), (2, .int (nI (layF (mI M (p + 1)) 0 (nI c) k).2)), (3, .int (nI k))]) (fun k => stI (stI M (p + 1) (layF (mI M (p + 1)) 0 (nI c) k).1) (p + 2) (tlF (mI M (p + 1)) (mI M (p + 2)) (nI c) k)) (by
    intro k hk
    have hk54 : k < 54 := by omega
    have e31 := fun Q => @sp31 p k (stI (stI M (p + 1) (layF (mI M (p + 1)) 0 (nI c) k).1) (p + 2) (tlF (mI M (p + 1)) (mI M (p + 2)) (nI c) k)) Q hs hk54
    simp [mI_stI, va_up_ap, layF_hi0 (Nat.le_refl k)] at e31
    have hll := @lay_le (mI M (p + 1)) 0 (nI c) k
    have er := @rem54_nI c (layF (mI M (p + 1)) 0 (nI c) k).2 hc (by omega)
    have e32 := fun Q => @sp32 p k (nI ((c + (layF (mI M (p + 1)) 0 (nI c) k).2) % 54)) (stI (stI M (p + 1) (layF (mI M (p + 1)) 0 (nI c) k).1) (p + 2) (tlF (mI M (p + 1)) (mI M (p + 2)) (nI c) k)) Q hs hk54 (by simpa [mI_stI, va_up_ap, layF_hi0 (Nat.le_refl k)] using hp k hk54) (Or.inr ⟨_, Nat.mod_lt _ (by decide), rfl⟩)
    simp [mI_stI, va_up_ap, layF_hi0 (Nat.le_refl k)] at e32
    rw [e33_4]
    by_cases h1 : mI M (p + 1) k = -1
    · rw [h1] at e31 e32
      have er' := er
      unfold rem54 at er'
      simp [lv_args, sStep, amStep, a_nx, a_ii, a_jj, a_ji, a_ld, a_st, a_if, a_ald, a_c1, a_c2, lkp, lput, lput2, lins, oP_none, oP_next, oP_call, oP_ret, oP_thr, outP_ite, aft_ret, aft_void, aft_thr, fHnd, List.isEmpty_nil, List.filter_cons, List.filter_nil, Value.category, csum, List.map_cons, List.map_nil, List.sum_cons, List.sum_nil, List.cons_append, List.nil_append, Option.toList, vp_nar_int, narrow_b1, narrow_b0, nc115, vc115, fc115, nc111, vc111, fc111, nc100, vc100, fc100, nc109, vc109, fc109, nc120, vc120, fc120, nc119, vc119, fc119, nc116, vc116, fc116, nc45, vc45, fc45, nc32, vc32, fc32, nc102, vc102, fc102, nc106, vc106, fc106, fin3, rf_some, rf_none, upd_ap, va_up_ap, nar_bi, fits_bi, nvp_bi, bi_t, bi_f, fval, fty, ftabs, wrv_0, wrv_1, wrv_2, wrv_3, wrv_5, mT_stI, mI_stI, mL_stI, mD_stI, mR_stI, mN_stI, mS_stI, mT_stL, mI_stL, mL_stL, mD_stL, mR_stL, mN_stL, mS_stL, mT_stD, mI_stD, mL_stD, mD_stD, mR_stD, mN_stD, mS_stD, mT_stR, mI_stR, mL_stR, mD_stR, mR_stR, mN_stR, mS_stR, mT_stN, mI_stN, mL_stN, mD_stN, mR_stN, mN_stN, mS_stN, e33_0, e33_1, e33_2, e33_3, e33_5, e33_6, e33_9, e33_10, e33_13, e33_14, e33_17, e33_18, e33_19, e33_22, e33_23, e33_26, e33_27, e33_28, e33_29, e33_30, e33_31, e33_33, e33_34, e33_37, e33_38, e33_41, e33_44, e33_47, e33_48, rt33, hn33, sh0 hs, hR, hC, pk_mul, nI_ge hk (by omega), cl31, e31, er', cl32, e32, nI_1, layF, tlF, h1, er, stI_stI, stI_cm (show 1 < 2 by decide)]
    · simp [lv_args, sStep, amStep, a_nx, a_ii, a_jj, a_ji, a_ld, a_st, a_if, a_ald, a_c1, a_c2, lkp, lput, lput2, lins, oP_none, oP_next, oP_call, oP_ret, oP_thr, outP_ite, aft_ret, aft_void, aft_thr, fHnd, List.isEmpty_nil, List.filter_cons, List.filter_nil, Value.category, csum, List.map_cons, List.map_nil, List.sum_cons, List.sum_nil, List.cons_append, List.nil_append, Option.toList, vp_nar_int, narrow_b1, narrow_b0, nc115, vc115, fc115, nc111, vc111, fc111, nc100, vc100, fc100, nc109, vc109, fc109, nc120, vc120, fc120, nc119, vc119, fc119, nc116, vc116, fc116, nc45, vc45, fc45, nc32, vc32, fc32, nc102, vc102, fc102, nc106, vc106, fc106, fin3, rf_some, rf_none, upd_ap, va_up_ap, nar_bi, fits_bi, nvp_bi, bi_t, bi_f, fval, fty, ftabs, wrv_0, wrv_1, wrv_2, wrv_3, wrv_5, mT_stI, mI_stI, mL_stI, mD_stI, mR_stI, mN_stI, mS_stI, mT_stL, mI_stL, mL_stL, mD_stL, mR_stL, mN_stL, mS_stL, mT_stD, mI_stD, mL_stD, mD_stD, mR_stD, mN_stD, mS_stD, mT_stR, mI_stR, mL_stR, mD_stR, mR_stR, mN_stR, mS_stR, mT_stN, mI_stN, mL_stN, mD_stN, mR_stN, mN_stN, mS_stN, e33_0, e33_1, e33_2, e33_3, e33_5, e33_6, e33_9, e33_10, e33_13, e33_14, e33_17, e33_18, e33_19, e33_22, e33_23, e33_26, e33_27, e33_28, e33_29, e33_30, e33_31, e33_33, e33_34, e33_37, e33_38, e33_41, e33_44, e33_47, e33_48, rt33, hn33, sh0 hs, hR, hC, pk_mul, nI_ge hk (by omega), cl31, e31, h1, nI_1, layF, tlF])
  simp only [nI_0, layF_0, tlF_0, stI_self] at hl
  unfold CaP
  simp [lv_args, sStep, amStep, a_nx, a_ii, a_jj, a_ji, a_ld, a_st, a_if, a_ald, a_c1, a_c2, lkp, lput, lput2, lins, oP_none, oP_next, oP_call, oP_ret, oP_thr, outP_ite, aft_ret, aft_void, aft_thr, fHnd, List.isEmpty_nil, List.filter_cons, List.filter_nil, Value.category, csum, List.map_cons, List.map_nil, List.sum_cons, List.sum_nil, List.cons_append, List.nil_append, Option.toList, vp_nar_int, narrow_b1, narrow_b0, nc115, vc115, fc115, nc111, vc111, fc111, nc100, vc100, fc100, nc109, vc109, fc109, nc120, vc120, fc120, nc119, vc119, fc119, nc116, vc116, fc116, nc45, vc45, fc45, nc32, vc32, fc32, nc102, vc102, fc102, nc106, vc106, fc106, fin3, rf_some, rf_none, upd_ap, va_up_ap, nar_bi, fits_bi, nvp_bi, bi_t, bi_f, fval, fty, ftabs, wrv_0, wrv_1, wrv_2, wrv_3, wrv_5, mT_stI, mI_stI, mL_stI, mD_stI, mR_stI, mN_stI, mS_stI, mT_stL, mI_stL, mL_stL, mD_stL, mR_stL, mN_stL, mS_stL, mT_stD, mI_stD, mL_stD, mD_stD, mR_stD, mN_stD, mS_stD, mT_stR, mI_stR, mL_stR, mD_stR, mR_stR, mN_stR, mS_stR, mT_stN, mI_stN, mL_stN, mD_stN, mR_stN, mN_stN, mS_stN, e33_0, e33_1, e33_2, e33_3, e33_5, e33_6, e33_9, e33_10, e33_13, e33_14, e33_17, e33_18, e33_19, e33_22, e33_23, e33_26, e33_27, e33_28, e33_29, e33_30, e33_31, e33_33, e33_34, e33_37, e33_38, e33_41, e33_44, e33_47, e33_48, rt33, hn33, sh0 hs]
  rw [hl, e33_4]
  simp [lv_args, sStep, amStep, a_nx, a_ii, a_jj, a_ji, a_ld, a_st, a_if, a_ald, a_c1, a_c2, lkp, lput, lput2, lins, oP_none, oP_next, oP_call, oP_ret, oP_thr, outP_ite, aft_ret, aft_void, aft_thr, fHnd, List.isEmpty_nil, List.filter_cons, List.filter_nil, Value.category, csum, List.map_cons, List.map_nil, List.sum_cons, List.sum_nil, List.cons_append, List.nil_append, Option.toList, vp_nar_int, narrow_b1, narrow_b0, nc115, vc115, fc115, nc111, vc111, fc111, nc100, vc100, fc100, nc109, vc109, fc109, nc120, vc120, fc120, nc119, vc119, fc119, nc116, vc116, fc116, nc45, vc45, fc45, nc32, vc32, fc32, nc102, vc102, fc102, nc106, vc106, fc106, fin3, rf_some, rf_none, upd_ap, va_up_ap, nar_bi, fits_bi, nvp_bi, bi_t, bi_f, fval, fty, ftabs, wrv_0, wrv_1, wrv_2, wrv_3, wrv_5, mT_stI, mI_stI, mL_stI, mD_stI, mR_stI, mN_stI, mS_stI, mT_stL, mI_stL, mL_stL, mD_stL, mR_stL, mN_stL, mS_stL, mT_stD, mI_stD, mL_stD, mD_stD, mR_stD, mN_stD, mS_stD, mT_stR, mI_stR, mL_stR, mD_stR, mR_stR, mN_stR, mS_stR, mT_stN, mI_stN, mL_stN, mD_stN, mR_stN, mN_stN, mS_stN, e33_0, e33_1, e33_2, e33_3, e33_5, e33_6, e33_9, e33_10, e33_13, e33_14, e33_17, e33_18, e33_19, e33_22, e33_23, e33_26, e33_27, e33_28, e33_29, e33_30, e33_31, e33_33, e33_34, e33_37, e33_38, e33_41, e33_44, e33_47, e33_48, rt33, hn33, sh0 hs, hR, hC, pk_mul, Int32.le_refl]
theorem sp34 {p : Nat} {M : AMem} {Q : AR → Prop} (hs : SH M p) (hT : ∀ c, c < 54 → ∃ t, t < 100 ∧ mI M (p + 2) c = nI t) : CaP 34 [.ref p] M Q = Q (M, .inl (some (.int (bi (evF (mI M (p + 2)) 54).1)))) := by
  have hev : ∀ n, (evF (mI M (p + 2)) n).1 = allB (fun k => (decide (mI M (p + 2) k = 0) || decide ((evF (mI M (p + 2)) k).2 = 0) || decide (mI M (p + 2) k = (evF (mI M (p + 2)) k).2))) n := by
    intro n
    induction n with
    | zero => rfl
    | succ n ih => show ((evF (mI M (p + 2)) n).1 && _) = (_ && _); rw [ih]
  obtain ⟨j, h1, h2, h3, e⟩ : ∃ j, j ≤ 54 ∧ (∀ k, k < j → (decide (mI M (p + 2) k = 0) || decide ((evF (mI M (p + 2)) k).2 = 0) || decide (mI M (p + 2) k = (evF (mI M (p + 2)) k).2)) = true) ∧ (j < 54 → (decide (mI M (p + 2) j = 0) || decide ((evF (mI M (p + 2)) j).2 = 0) || decide (mI M (p + 2) j = (evF (mI M (p + 2)) j).2)) = false) ∧ ∃ T, tl1 5 T ∧ EvP 34 13 [(0, .ref p), (1, .int 0), (2, .ref (p + 2)), (3, .int 54), (4, .int 0)] [] M Q = EvP 34 13 ([(0, .ref p), (1, .int (evF (mI M (p + 2)) j).2), (2, .ref (p + 2)), (3, .int 54), (4, .int (nI j))] ++ T) [] M Q := by
    have hgen : ∀ n, n ≤ 54 → ∃ j, j ≤ n ∧ (∀ k, k < j → (decide (mI M (p + 2) k = 0) || decide ((evF (mI M (p + 2)) k).2 = 0) || decide (mI M (p + 2) k = (evF (mI M (p + 2)) k).2)) = true) ∧ (j < n → (decide (mI M (p + 2) j = 0) || decide ((evF (mI M (p + 2)) j).2 = 0) || decide (mI M (p + 2) j = (evF (mI M (p + 2)) j).2)) = false) ∧ ∃ T, tl1 5 T ∧ EvP 34 13 [(0, .ref p), (1, .int 0), (2, .ref (p + 2)), (3, .int 54), (4, .int 0)] [] M Q = EvP 34 13 ([(0, .ref p), (1, .int (evF (mI M (p + 2)) j).2), (2, .ref (p + 2)), (3, .int 54), (4, .int (nI j))] ++ T) [] M Q := by
      intro n
      induction n with
      | zero => exact fun _ => ⟨0, Nat.le_refl 0, fun k hk => absurd hk (Nat.not_lt_zero k), fun hj => absurd hj (Nat.lt_irrefl 0), [], Or.inl rfl, rfl⟩
      | succ n ih =>
        intro hn
        obtain ⟨j, g1, g2, g3, T, g4, g5⟩ := ih (by omega)
        by_cases hj : j < n
        · exact ⟨j, by omega, g2, fun _ => g3 hj, T, g4, g5⟩
        · have ej : j = n := by omega
          subst ej
          cases ho : (decide (mI M (p + 2) j = 0) || decide ((evF (mI M (p + 2)) j).2 = 0) || decide (mI M (p + 2) j = (evF (mI M (p + 2)) j).2))
          · exact ⟨j, by omega, g2, fun _ => ho, T, g4, g5⟩
          · refine ⟨j + 1, by omega, fun k hk => ?_, fun hl => absurd hl (Nat.lt_irrefl _), [(5, .int (mI M (p + 2) j))], Or.inr ⟨_, rfl⟩, ?_⟩
            · rcases Nat.lt_succ_iff_lt_or_eq.mp hk with h5 | h5
              · exact g2 k h5
              · rw [h5]; exact ho
            rw [g5, e34_13]
            have hj54 : j < 54 := by omega
            obtain ⟨t, ht, hTj⟩ := hT j hj54
            have ee : (evF (mI M (p + 2)) (j + 1)).2 = if 0 < mI M (p + 2) j then mI M (p + 2) j else (evF (mI M (p + 2)) j).2 := rfl
            rw [ee]
            have hpos : (0 < mI M (p + 2) j) = ¬ (mI M (p + 2) j = 0) := by
              rw [hTj, lt0 (by omega), eq0 (by omega)]
              exact propext Nat.pos_iff_ne_zero
            simp only [hpos]
            simp only [Bool.or_eq_true, decide_eq_true_eq] at ho
            by_cases c1 : mI M (p + 2) j = 0
            · rcases g4 with rfl | ⟨x, rfl⟩ <;>
              simp [lv_args, sStep, amStep, a_nx, a_ii, a_jj, a_ji, a_ld, a_st, a_if, a_ald, a_c1, a_c2, lkp, lput, lput2, lins, oP_none, oP_next, oP_call, oP_ret, oP_thr, outP_ite, aft_ret, aft_void, aft_thr, fHnd, List.isEmpty_nil, List.filter_cons, List.filter_nil, Value.category, csum, List.map_cons, List.map_nil, List.sum_cons, List.sum_nil, List.cons_append, List.nil_append, Option.toList, vp_nar_int, narrow_b1, narrow_b0, nc115, vc115, fc115, nc111, vc111, fc111, nc100, vc100, fc100, nc109, vc109, fc109, nc120, vc120, fc120, nc119, vc119, fc119, nc116, vc116, fc116, nc45, vc45, fc45, nc32, vc32, fc32, nc102, vc102, fc102, nc106, vc106, fc106, fin3, rf_some, rf_none, upd_ap, va_up_ap, nar_bi, fits_bi, nvp_bi, bi_t, bi_f, fval, fty, ftabs, wrv_0, wrv_1, wrv_2, wrv_3, wrv_5, mT_stI, mI_stI, mL_stI, mD_stI, mR_stI, mN_stI, mS_stI, mT_stL, mI_stL, mL_stL, mD_stL, mR_stL, mN_stL, mS_stL, mT_stD, mI_stD, mL_stD, mD_stD, mR_stD, mN_stD, mS_stD, mT_stR, mI_stR, mL_stR, mD_stR, mR_stR, mN_stR, mS_stR, mT_stN, mI_stN, mL_stN, mD_stN, mR_stN, mN_stN, mS_stN, e34_0, e34_1, e34_2, e34_3, e34_6, e34_7, e34_8, e34_9, e34_10, e34_11, e34_15, e34_16, e34_19, e34_20, e34_22, e34_23, e34_25, e34_27, e34_30, e34_31, e34_34, e34_36, e34_37, e34_40, e34_41, e34_42, e34_44, e34_47, e34_49, e34_50, e34_53, e34_56, e34_57, rt34, hn34, sh0 hs, sh2 hs, sh6 hs, ge54 hj54, inb_nI hj54, nI_clamp (lt31 hj54 (by decide)), nI_1, c1]
            · by_cases c2 : (evF (mI M (p + 2)) j).2 = 0
              · rcases g4 with rfl | ⟨x, rfl⟩ <;>
                simp [lv_args, sStep, amStep, a_nx, a_ii, a_jj, a_ji, a_ld, a_st, a_if, a_ald, a_c1, a_c2, lkp, lput, lput2, lins, oP_none, oP_next, oP_call, oP_ret, oP_thr, outP_ite, aft_ret, aft_void, aft_thr, fHnd, List.isEmpty_nil, List.filter_cons, List.filter_nil, Value.category, csum, List.map_cons, List.map_nil, List.sum_cons, List.sum_nil, List.cons_append, List.nil_append, Option.toList, vp_nar_int, narrow_b1, narrow_b0, nc115, vc115, fc115, nc111, vc111, fc111, nc100, vc100, fc100, nc109, vc109, fc109, nc120, vc120, fc120, nc119, vc119, fc119, nc116, vc116, fc116, nc45, vc45, fc45, nc32, vc32, fc32, nc102, vc102, fc102, nc106, vc106, fc106, fin3, rf_some, rf_none, upd_ap, va_up_ap, nar_bi, fits_bi, nvp_bi, bi_t, bi_f, fval, fty, ftabs, wrv_0, wrv_1, wrv_2, wrv_3, wrv_5, mT_stI, mI_stI, mL_stI, mD_stI, mR_stI, mN_stI, mS_stI, mT_stL, mI_stL, mL_stL, mD_stL, mR_stL, mN_stL, mS_stL, mT_stD, mI_stD, mL_stD, mD_stD, mR_stD, mN_stD, mS_stD, mT_stR, mI_stR, mL_stR, mD_stR, mR_stR, mN_stR, mS_stR, mT_stN, mI_stN, mL_stN, mD_stN, mR_stN, mN_stN, mS_stN, e34_0, e34_1, e34_2, e34_3, e34_6, e34_7, e34_8, e34_9, e34_10, e34_11, e34_15, e34_16, e34_19, e34_20, e34_22, e34_23, e34_25, e34_27, e34_30, e34_31, e34_34, e34_36, e34_37, e34_40, e34_41, e34_42, e34_44, e34_47, e34_49, e34_50, e34_53, e34_56, e34_57, rt34, hn34, sh0 hs, sh2 hs, sh6 hs, ge54 hj54, inb_nI hj54, nI_clamp (lt31 hj54 (by decide)), nI_1, c1, c2]
              · have c3 : mI M (p + 2) j = (evF (mI M (p + 2)) j).2 := by
                  rcases ho with (ho | ho) | ho
                  · exact absurd ho c1
                  · exact absurd ho c2
                  · exact ho
                rcases g4 with rfl | ⟨x, rfl⟩ <;>
                simp [lv_args, sStep, amStep, a_nx, a_ii, a_jj, a_ji, a_ld, a_st, a_if, a_ald, a_c1, a_c2, lkp, lput, lput2, lins, oP_none, oP_next, oP_call, oP_ret, oP_thr, outP_ite, aft_ret, aft_void, aft_thr, fHnd, List.isEmpty_nil, List.filter_cons, List.filter_nil, Value.category, csum, List.map_cons, List.map_nil, List.sum_cons, List.sum_nil, List.cons_append, List.nil_append, Option.toList, vp_nar_int, narrow_b1, narrow_b0, nc115, vc115, fc115, nc111, vc111, fc111, nc100, vc100, fc100, nc109, vc109, fc109, nc120, vc120, fc120, nc119, vc119, fc119, nc116, vc116, fc116, nc45, vc45, fc45, nc32, vc32, fc32, nc102, vc102, fc102, nc106, vc106, fc106, fin3, rf_some, rf_none, upd_ap, va_up_ap, nar_bi, fits_bi, nvp_bi, bi_t, bi_f, fval, fty, ftabs, wrv_0, wrv_1, wrv_2, wrv_3, wrv_5, mT_stI, mI_stI, mL_stI, mD_stI, mR_stI, mN_stI, mS_stI, mT_stL, mI_stL, mL_stL, mD_stL, mR_stL, mN_stL, mS_stL, mT_stD, mI_stD, mL_stD, mD_stD, mR_stD, mN_stD, mS_stD, mT_stR, mI_stR, mL_stR, mD_stR, mR_stR, mN_stR, mS_stR, mT_stN, mI_stN, mL_stN, mD_stN, mR_stN, mN_stN, mS_stN, e34_0, e34_1, e34_2, e34_3, e34_6, e34_7, e34_8, e34_9, e34_10, e34_11, e34_15, e34_16, e34_19, e34_20, e34_22, e34_23, e34_25, e34_27, e34_30, e34_31, e34_34, e34_36, e34_37, e34_40, e34_41, e34_42, e34_44, e34_47, e34_49, e34_50, e34_53, e34_56, e34_57, rt34, hn34, sh0 hs, sh2 hs, sh6 hs, ge54 hj54, inb_nI hj54, nI_clamp (lt31 hj54 (by decide)), nI_1, c3, c2]
    exact hgen 54 (Nat.le_refl _)
  obtain ⟨T, hT', e⟩ := e
  rw [hev, allB_ex h1 h2 h3]
  unfold CaP
  simp [lv_args, sStep, amStep, a_nx, a_ii, a_jj, a_ji, a_ld, a_st, a_if, a_ald, a_c1, a_c2, lkp, lput, lput2, lins, oP_none, oP_next, oP_call, oP_ret, oP_thr, outP_ite, aft_ret, aft_void, aft_thr, fHnd, List.isEmpty_nil, List.filter_cons, List.filter_nil, Value.category, csum, List.map_cons, List.map_nil, List.sum_cons, List.sum_nil, List.cons_append, List.nil_append, Option.toList, vp_nar_int, narrow_b1, narrow_b0, nc115, vc115, fc115, nc111, vc111, fc111, nc100, vc100, fc100, nc109, vc109, fc109, nc120, vc120, fc120, nc119, vc119, fc119, nc116, vc116, fc116, nc45, vc45, fc45, nc32, vc32, fc32, nc102, vc102, fc102, nc106, vc106, fc106, fin3, rf_some, rf_none, upd_ap, va_up_ap, nar_bi, fits_bi, nvp_bi, bi_t, bi_f, fval, fty, ftabs, wrv_0, wrv_1, wrv_2, wrv_3, wrv_5, mT_stI, mI_stI, mL_stI, mD_stI, mR_stI, mN_stI, mS_stI, mT_stL, mI_stL, mL_stL, mD_stL, mR_stL, mN_stL, mS_stL, mT_stD, mI_stD, mL_stD, mD_stD, mR_stD, mN_stD, mS_stD, mT_stR, mI_stR, mL_stR, mD_stR, mR_stR, mN_stR, mS_stR, mT_stN, mI_stN, mL_stN, mD_stN, mR_stN, mN_stN, mS_stN, e34_0, e34_1, e34_2, e34_3, e34_6, e34_7, e34_8, e34_9, e34_10, e34_11, e34_15, e34_16, e34_19, e34_20, e34_22, e34_23, e34_25, e34_27, e34_30, e34_31, e34_34, e34_36, e34_37, e34_40, e34_41, e34_42, e34_44, e34_47, e34_49, e34_50, e34_53, e34_56, e34_57, rt34, hn34, sh0 hs, sh2 hs, sh6 hs]
  rw [e, e34_13]
  by_cases hj : j = 54
  · subst hj
    rcases hT' with rfl | ⟨x, rfl⟩ <;>
    simp [lv_args, sStep, amStep, a_nx, a_ii, a_jj, a_ji, a_ld, a_st, a_if, a_ald, a_c1, a_c2, lkp, lput, lput2, lins, oP_none, oP_next, oP_call, oP_ret, oP_thr, outP_ite, aft_ret, aft_void, aft_thr, fHnd, List.isEmpty_nil, List.filter_cons, List.filter_nil, Value.category, csum, List.map_cons, List.map_nil, List.sum_cons, List.sum_nil, List.cons_append, List.nil_append, Option.toList, vp_nar_int, narrow_b1, narrow_b0, nc115, vc115, fc115, nc111, vc111, fc111, nc100, vc100, fc100, nc109, vc109, fc109, nc120, vc120, fc120, nc119, vc119, fc119, nc116, vc116, fc116, nc45, vc45, fc45, nc32, vc32, fc32, nc102, vc102, fc102, nc106, vc106, fc106, fin3, rf_some, rf_none, upd_ap, va_up_ap, nar_bi, fits_bi, nvp_bi, bi_t, bi_f, fval, fty, ftabs, wrv_0, wrv_1, wrv_2, wrv_3, wrv_5, mT_stI, mI_stI, mL_stI, mD_stI, mR_stI, mN_stI, mS_stI, mT_stL, mI_stL, mL_stL, mD_stL, mR_stL, mN_stL, mS_stL, mT_stD, mI_stD, mL_stD, mD_stD, mR_stD, mN_stD, mS_stD, mT_stR, mI_stR, mL_stR, mD_stR, mR_stR, mN_stR, mS_stR, mT_stN, mI_stN, mL_stN, mD_stN, mR_stN, mN_stN, mS_stN, e34_0, e34_1, e34_2, e34_3, e34_6, e34_7, e34_8, e34_9, e34_10, e34_11, e34_15, e34_16, e34_19, e34_20, e34_22, e34_23, e34_25, e34_27, e34_30, e34_31, e34_34, e34_36, e34_37, e34_40, e34_41, e34_42, e34_44, e34_47, e34_49, e34_50, e34_53, e34_56, e34_57, rt34, hn34, nI54, Int32.le_refl]
  · have hlt : j < 54 := by omega
    have hf := h3 hlt
    simp only [Bool.or_eq_false_iff, decide_eq_false_iff_not] at hf
    rcases hT' with rfl | ⟨x, rfl⟩ <;>
    simp [lv_args, sStep, amStep, a_nx, a_ii, a_jj, a_ji, a_ld, a_st, a_if, a_ald, a_c1, a_c2, lkp, lput, lput2, lins, oP_none, oP_next, oP_call, oP_ret, oP_thr, outP_ite, aft_ret, aft_void, aft_thr, fHnd, List.isEmpty_nil, List.filter_cons, List.filter_nil, Value.category, csum, List.map_cons, List.map_nil, List.sum_cons, List.sum_nil, List.cons_append, List.nil_append, Option.toList, vp_nar_int, narrow_b1, narrow_b0, nc115, vc115, fc115, nc111, vc111, fc111, nc100, vc100, fc100, nc109, vc109, fc109, nc120, vc120, fc120, nc119, vc119, fc119, nc116, vc116, fc116, nc45, vc45, fc45, nc32, vc32, fc32, nc102, vc102, fc102, nc106, vc106, fc106, fin3, rf_some, rf_none, upd_ap, va_up_ap, nar_bi, fits_bi, nvp_bi, bi_t, bi_f, fval, fty, ftabs, wrv_0, wrv_1, wrv_2, wrv_3, wrv_5, mT_stI, mI_stI, mL_stI, mD_stI, mR_stI, mN_stI, mS_stI, mT_stL, mI_stL, mL_stL, mD_stL, mR_stL, mN_stL, mS_stL, mT_stD, mI_stD, mL_stD, mD_stD, mR_stD, mN_stD, mS_stD, mT_stR, mI_stR, mL_stR, mD_stR, mR_stR, mN_stR, mS_stR, mT_stN, mI_stN, mL_stN, mD_stN, mR_stN, mN_stN, mS_stN, e34_0, e34_1, e34_2, e34_3, e34_6, e34_7, e34_8, e34_9, e34_10, e34_11, e34_15, e34_16, e34_19, e34_20, e34_22, e34_23, e34_25, e34_27, e34_30, e34_31, e34_34, e34_36, e34_37, e34_40, e34_41, e34_42, e34_44, e34_47, e34_49, e34_50, e34_53, e34_56, e34_57, rt34, hn34, sh0 hs, sh2 hs, sh6 hs, ge54 hlt, inb_nI hlt, nI_clamp (lt31 hlt (by decide)), hf.1.1, hf.1.2, hf.2, hj]
theorem sp35 {p k : Nat} {r u : Int32} {M : AMem} {Q : AR → Prop} (hs : SH M p) (hk : k < 4) : CaP 35 [.ref p, .int (nI k), .int r, .int u] M Q = Q (stI (stI M (p + 3) (upd (mI M (p + 3)) k r)) (p + 4) (upd (mI M (p + 4)) k u), .inl none) := by
  unfold CaP
  simp [lv_args, sStep, amStep, a_nx, a_ii, a_jj, a_ji, a_ld, a_st, a_if, a_ald, a_c1, a_c2, lkp, lput, lput2, lins, oP_none, oP_next, oP_call, oP_ret, oP_thr, outP_ite, aft_ret, aft_void, aft_thr, fHnd, List.isEmpty_nil, List.filter_cons, List.filter_nil, Value.category, csum, List.map_cons, List.map_nil, List.sum_cons, List.sum_nil, List.cons_append, List.nil_append, Option.toList, vp_nar_int, narrow_b1, narrow_b0, nc115, vc115, fc115, nc111, vc111, fc111, nc100, vc100, fc100, nc109, vc109, fc109, nc120, vc120, fc120, nc119, vc119, fc119, nc116, vc116, fc116, nc45, vc45, fc45, nc32, vc32, fc32, nc102, vc102, fc102, nc106, vc106, fc106, fin3, rf_some, rf_none, upd_ap, va_up_ap, nar_bi, fits_bi, nvp_bi, bi_t, bi_f, fval, fty, ftabs, wrv_0, wrv_1, wrv_2, wrv_3, wrv_5, mT_stI, mI_stI, mL_stI, mD_stI, mR_stI, mN_stI, mS_stI, mT_stL, mI_stL, mL_stL, mD_stL, mR_stL, mN_stL, mS_stL, mT_stD, mI_stD, mL_stD, mD_stD, mR_stD, mN_stD, mS_stD, mT_stR, mI_stR, mL_stR, mD_stR, mR_stR, mN_stR, mS_stR, mT_stN, mI_stN, mL_stN, mD_stN, mR_stN, mN_stN, mS_stN, e35_0, e35_1, e35_4, e35_5, e35_6, e35_9, e35_10, e35_13, e35_14, e35_15, e35_16, e35_17, e35_20, e35_21, e35_22, e35_23, rt35, hn35, sh0 hs, sh3 hs, sh4 hs, sh7 hs, sh8 hs, nlt0 (lt31 hk (by decide)), ge4 hk, inb_nI hk, nI_clamp (lt31 hk (by decide))]
def ab2 (x y : Int32) : Int32 := if 0 ≤ x - y then x - y else y - x
def acF (r u : Nat → Int32) (a b : Nat) : Int32 := ab2 (r a) (r b) + ab2 (u a) (u b)
def ocI (r u : Nat → Int32) (a : Nat) (g : Int32) : Nat → Int32
  | 0 => g
  | k + 1 => if ocI r u a g k < acF r u a k then acF r u a k else ocI r u a g k
def ocO (r u : Nat → Int32) : Nat → Int32
  | 0 => 0
  | k + 1 => ocI r u k (ocO r u k) k
theorem ocI_0 {r u : Nat → Int32} {a : Nat} {g : Int32} : ocI r u a g 0 = g := rfl
theorem ocO_0 {r u : Nat → Int32} : ocO r u 0 = 0 := rfl
theorem sp36 {p : Nat} {M : AMem} {Q : AR → Prop} (hs : SH M p) : CaP 36 [.ref p] M Q = Q (M, .inl (some (.int (ocO (mI M (p + 3)) (mI M (p + 4)) 4)))) := by
  generalize hr : mI M (p + 3) = r
  generalize hu : mI M (p + 4) = u
  have ap : ∀ a k, (if 0 ≤ r a - r k then r a - r k else r k - r a) + (if 0 ≤ u a - u k then u a - u k else u k - u a) = acF r u a k := fun _ _ => rfl
  have hl1 := fun a (ha : a < 4) g => loopT (m := 36) (pc := 11) (Q := Q) (tl1 4) a (fun k T => [(0, .ref p), (1, .int (ocI r u a g k)), (2, .int (nI a)), (3, .int (nI k))] ++ T) (fun _ => M) (by
    intro k hk T hT
    have hk4 : k < 4 := by omega
    refine ⟨[(4, .int (acF r u a k))], Or.inr ⟨_, rfl⟩, ?_⟩
    rw [e36_11]
    rcases hT with rfl | ⟨x, rfl⟩ <;>
    simp [lv_args, sStep, amStep, a_nx, a_ii, a_jj, a_ji, a_ld, a_st, a_if, a_ald, a_c1, a_c2, lkp, lput, lput2, lins, oP_none, oP_next, oP_call, oP_ret, oP_thr, outP_ite, aft_ret, aft_void, aft_thr, fHnd, List.isEmpty_nil, List.filter_cons, List.filter_nil, Value.category, csum, List.map_cons, List.map_nil, List.sum_cons, List.sum_nil, List.cons_append, List.nil_append, Option.toList, vp_nar_int, narrow_b1, narrow_b0, nc115, vc115, fc115, nc111, vc111, fc111, nc100, vc100, fc100, nc109, vc109, fc109, nc120, vc120, fc120, nc119, vc119, fc119, nc116, vc116, fc116, nc45, vc45, fc45, nc32, vc32, fc32, nc102, vc102, fc102, nc106, vc106, fc106, fin3, rf_some, rf_none, upd_ap, va_up_ap, nar_bi, fits_bi, nvp_bi, bi_t, bi_f, fval, fty, ftabs, wrv_0, wrv_1, wrv_2, wrv_3, wrv_5, mT_stI, mI_stI, mL_stI, mD_stI, mR_stI, mN_stI, mS_stI, mT_stL, mI_stL, mL_stL, mD_stL, mR_stL, mN_stL, mS_stL, mT_stD, mI_stD, mL_stD, mD_stD, mR_stD, mN_stD, mS_stD, mT_stR, mI_stR, mL_stR, mD_stR, mR_stR, mN_stR, mS_stR, mT_stN, mI_stN, mL_stN, mD_stN, mR_stN, mN_stN, mS_stN, e36_0, e36_1, e36_2, e36_3, e36_5, e36_6, e36_9, e36_10, e36_12, e36_13, e36_16, e36_17, e36_20, e36_21, e36_22, e36_23, e36_26, e36_27, e36_28, e36_29, e36_32, e36_33, e36_36, e36_37, e36_38, e36_39, e36_42, e36_43, e36_44, e36_45, e36_48, e36_49, e36_51, e36_52, e36_54, e36_57, e36_58, e36_61, e36_64, e36_67, e36_70, e36_71, rt36, hn36, sh0 hs, sh3 hs, sh4 hs, sh7 hs, sh8 hs, hr, hu, nI_ge hk (show a < 2 ^ 31 by omega), inb_nI ha, inb_nI hk4, nI_clamp (lt31 ha (by decide)), nI_clamp (lt31 hk4 (by decide)), nI_1, ocI, ap ])
  have hl := loopT (m := 36) (pc := 4) (Q := Q) (tl2 3 4) 4 (fun k T => [(0, .ref p), (1, .int (ocO r u k)), (2, .int (nI k))] ++ T) (fun _ => M) (by
    intro k hk T hT
    obtain ⟨T', hT', e⟩ := hl1 k hk (ocO r u k) (if T = [] then [] else T.drop 1) (by
      rcases hT with rfl | ⟨x, rfl⟩ | ⟨x, y, rfl⟩
      · exact Or.inl rfl
      · exact Or.inl rfl
      · exact Or.inr ⟨y, rfl⟩)
    simp only [ocI_0, nI_0] at e
    refine ⟨(3, .int (nI k)) :: T', ?_, ?_⟩
    · rcases hT' with rfl | ⟨x, rfl⟩
      · exact Or.inr (Or.inl ⟨_, rfl⟩)
      · exact Or.inr (Or.inr ⟨_, _, rfl⟩)
    rw [e36_4]
    rcases hT with rfl | ⟨x, rfl⟩ | ⟨x, y, rfl⟩ <;> simp at e <;>
    simp [lv_args, sStep, amStep, a_nx, a_ii, a_jj, a_ji, a_ld, a_st, a_if, a_ald, a_c1, a_c2, lkp, lput, lput2, lins, oP_none, oP_next, oP_call, oP_ret, oP_thr, outP_ite, aft_ret, aft_void, aft_thr, fHnd, List.isEmpty_nil, List.filter_cons, List.filter_nil, Value.category, csum, List.map_cons, List.map_nil, List.sum_cons, List.sum_nil, List.cons_append, List.nil_append, Option.toList, vp_nar_int, narrow_b1, narrow_b0, nc115, vc115, fc115, nc111, vc111, fc111, nc100, vc100, fc100, nc109, vc109, fc109, nc120, vc120, fc120, nc119, vc119, fc119, nc116, vc116, fc116, nc45, vc45, fc45, nc32, vc32, fc32, nc102, vc102, fc102, nc106, vc106, fc106, fin3, rf_some, rf_none, upd_ap, va_up_ap, nar_bi, fits_bi, nvp_bi, bi_t, bi_f, fval, fty, ftabs, wrv_0, wrv_1, wrv_2, wrv_3, wrv_5, mT_stI, mI_stI, mL_stI, mD_stI, mR_stI, mN_stI, mS_stI, mT_stL, mI_stL, mL_stL, mD_stL, mR_stL, mN_stL, mS_stL, mT_stD, mI_stD, mL_stD, mD_stD, mR_stD, mN_stD, mS_stD, mT_stR, mI_stR, mL_stR, mD_stR, mR_stR, mN_stR, mS_stR, mT_stN, mI_stN, mL_stN, mD_stN, mR_stN, mN_stN, mS_stN, e36_0, e36_1, e36_2, e36_3, e36_5, e36_6, e36_9, e36_10, e36_12, e36_13, e36_16, e36_17, e36_20, e36_21, e36_22, e36_23, e36_26, e36_27, e36_28, e36_29, e36_32, e36_33, e36_36, e36_37, e36_38, e36_39, e36_42, e36_43, e36_44, e36_45, e36_48, e36_49, e36_51, e36_52, e36_54, e36_57, e36_58, e36_61, e36_64, e36_67, e36_70, e36_71, rt36, hn36, ge4 hk, e, nI_1, ocO ] <;>
    rw [e36_11] <;>
    rcases hT' with rfl | ⟨z, rfl⟩ <;>
    simp [lv_args, sStep, amStep, a_nx, a_ii, a_jj, a_ji, a_ld, a_st, a_if, a_ald, a_c1, a_c2, lkp, lput, lput2, lins, oP_none, oP_next, oP_call, oP_ret, oP_thr, outP_ite, aft_ret, aft_void, aft_thr, fHnd, List.isEmpty_nil, List.filter_cons, List.filter_nil, Value.category, csum, List.map_cons, List.map_nil, List.sum_cons, List.sum_nil, List.cons_append, List.nil_append, Option.toList, vp_nar_int, narrow_b1, narrow_b0, nc115, vc115, fc115, nc111, vc111, fc111, nc100, vc100, fc100, nc109, vc109, fc109, nc120, vc120, fc120, nc119, vc119, fc119, nc116, vc116, fc116, nc45, vc45, fc45, nc32, vc32, fc32, nc102, vc102, fc102, nc106, vc106, fc106, fin3, rf_some, rf_none, upd_ap, va_up_ap, nar_bi, fits_bi, nvp_bi, bi_t, bi_f, fval, fty, ftabs, wrv_0, wrv_1, wrv_2, wrv_3, wrv_5, mT_stI, mI_stI, mL_stI, mD_stI, mR_stI, mN_stI, mS_stI, mT_stL, mI_stL, mL_stL, mD_stL, mR_stL, mN_stL, mS_stL, mT_stD, mI_stD, mL_stD, mD_stD, mR_stD, mN_stD, mS_stD, mT_stR, mI_stR, mL_stR, mD_stR, mR_stR, mN_stR, mS_stR, mT_stN, mI_stN, mL_stN, mD_stN, mR_stN, mN_stN, mS_stN, e36_0, e36_1, e36_2, e36_3, e36_5, e36_6, e36_9, e36_10, e36_12, e36_13, e36_16, e36_17, e36_20, e36_21, e36_22, e36_23, e36_26, e36_27, e36_28, e36_29, e36_32, e36_33, e36_36, e36_37, e36_38, e36_39, e36_42, e36_43, e36_44, e36_45, e36_48, e36_49, e36_51, e36_52, e36_54, e36_57, e36_58, e36_61, e36_64, e36_67, e36_70, e36_71, rt36, hn36, Int32.le_refl, nI_1 ]) [] (Or.inl rfl)
  obtain ⟨T', hT', e⟩ := hl
  simp only [ocO_0, nI_0] at e
  unfold CaP
  simp [lv_args, sStep, amStep, a_nx, a_ii, a_jj, a_ji, a_ld, a_st, a_if, a_ald, a_c1, a_c2, lkp, lput, lput2, lins, oP_none, oP_next, oP_call, oP_ret, oP_thr, outP_ite, aft_ret, aft_void, aft_thr, fHnd, List.isEmpty_nil, List.filter_cons, List.filter_nil, Value.category, csum, List.map_cons, List.map_nil, List.sum_cons, List.sum_nil, List.cons_append, List.nil_append, Option.toList, vp_nar_int, narrow_b1, narrow_b0, nc115, vc115, fc115, nc111, vc111, fc111, nc100, vc100, fc100, nc109, vc109, fc109, nc120, vc120, fc120, nc119, vc119, fc119, nc116, vc116, fc116, nc45, vc45, fc45, nc32, vc32, fc32, nc102, vc102, fc102, nc106, vc106, fc106, fin3, rf_some, rf_none, upd_ap, va_up_ap, nar_bi, fits_bi, nvp_bi, bi_t, bi_f, fval, fty, ftabs, wrv_0, wrv_1, wrv_2, wrv_3, wrv_5, mT_stI, mI_stI, mL_stI, mD_stI, mR_stI, mN_stI, mS_stI, mT_stL, mI_stL, mL_stL, mD_stL, mR_stL, mN_stL, mS_stL, mT_stD, mI_stD, mL_stD, mD_stD, mR_stD, mN_stD, mS_stD, mT_stR, mI_stR, mL_stR, mD_stR, mR_stR, mN_stR, mS_stR, mT_stN, mI_stN, mL_stN, mD_stN, mR_stN, mN_stN, mS_stN, e36_0, e36_1, e36_2, e36_3, e36_5, e36_6, e36_9, e36_10, e36_12, e36_13, e36_16, e36_17, e36_20, e36_21, e36_22, e36_23, e36_26, e36_27, e36_28, e36_29, e36_32, e36_33, e36_36, e36_37, e36_38, e36_39, e36_42, e36_43, e36_44, e36_45, e36_48, e36_49, e36_51, e36_52, e36_54, e36_57, e36_58, e36_61, e36_64, e36_67, e36_70, e36_71, rt36, hn36, sh0 hs]
  simp at e
  rw [e, e36_4]
  rcases hT' with rfl | ⟨z, rfl⟩ | ⟨z, y, rfl⟩ <;>
  simp [lv_args, sStep, amStep, a_nx, a_ii, a_jj, a_ji, a_ld, a_st, a_if, a_ald, a_c1, a_c2, lkp, lput, lput2, lins, oP_none, oP_next, oP_call, oP_ret, oP_thr, outP_ite, aft_ret, aft_void, aft_thr, fHnd, List.isEmpty_nil, List.filter_cons, List.filter_nil, Value.category, csum, List.map_cons, List.map_nil, List.sum_cons, List.sum_nil, List.cons_append, List.nil_append, Option.toList, vp_nar_int, narrow_b1, narrow_b0, nc115, vc115, fc115, nc111, vc111, fc111, nc100, vc100, fc100, nc109, vc109, fc109, nc120, vc120, fc120, nc119, vc119, fc119, nc116, vc116, fc116, nc45, vc45, fc45, nc32, vc32, fc32, nc102, vc102, fc102, nc106, vc106, fc106, fin3, rf_some, rf_none, upd_ap, va_up_ap, nar_bi, fits_bi, nvp_bi, bi_t, bi_f, fval, fty, ftabs, wrv_0, wrv_1, wrv_2, wrv_3, wrv_5, mT_stI, mI_stI, mL_stI, mD_stI, mR_stI, mN_stI, mS_stI, mT_stL, mI_stL, mL_stL, mD_stL, mR_stL, mN_stL, mS_stL, mT_stD, mI_stD, mL_stD, mD_stD, mR_stD, mN_stD, mS_stD, mT_stR, mI_stR, mL_stR, mD_stR, mR_stR, mN_stR, mS_stR, mT_stN, mI_stN, mL_stN, mD_stN, mR_stN, mN_stN, mS_stN, e36_0, e36_1, e36_2, e36_3, e36_5, e36_6, e36_9, e36_10, e36_12, e36_13, e36_16, e36_17, e36_20, e36_21, e36_22, e36_23, e36_26, e36_27, e36_28, e36_29, e36_32, e36_33, e36_36, e36_37, e36_38, e36_39, e36_42, e36_43, e36_44, e36_45, e36_48, e36_49, e36_51, e36_52, e36_54, e36_57, e36_58, e36_61, e36_64, e36_67, e36_70, e36_71, rt36, hn36, nI4, Int32.le_refl ]
theorem ge12 {k : Nat} (h : k < 12) : ¬ (12 : Int32) ≤ nI k := nI_ge h (by decide)
theorem ge6 {k : Nat} (h : k < 6) : ¬ (6 : Int32) ≤ nI k := nI_ge h (by decide)
theorem nlt6 {k : Nat} (h : k < 6) : nI k < (6 : Int32) := Int32.not_le.mp (nI_ge h (by decide))
theorem nlt12 {k : Nat} (h : k < 12) : nI k < (12 : Int32) := Int32.not_le.mp (nI_ge h (by decide))
theorem sp97 {B i p : Nat} {M : AMem} {Q : AR → Prop} (h : ST B M) (hi : i < 6) (hr : mR M (B + 1) i = some p) : CaP 97 [.ref B, .int (nI i)] M Q = Q (M, .inl (some (.ref p))) := by
  unfold CaP
  simp [lv_args, sStep, amStep, a_nx, a_ii, a_jj, a_ji, a_ld, a_st, a_if, a_ald, a_c1, a_c2, lkp, lput, lput2, lins, oP_none, oP_next, oP_call, oP_ret, oP_thr, outP_ite, aft_ret, aft_void, aft_thr, fHnd, List.isEmpty_nil, List.filter_cons, List.filter_nil, Value.category, csum, List.map_cons, List.map_nil, List.sum_cons, List.sum_nil, List.cons_append, List.nil_append, Option.toList, vp_nar_int, narrow_b1, narrow_b0, nc115, vc115, fc115, nc111, vc111, fc111, nc100, vc100, fc100, nc109, vc109, fc109, nc120, vc120, fc120, nc119, vc119, fc119, nc116, vc116, fc116, nc45, vc45, fc45, nc32, vc32, fc32, nc102, vc102, fc102, nc106, vc106, fc106, fin3, rf_some, rf_none, upd_ap, va_up_ap, nar_bi, fits_bi, nvp_bi, bi_t, bi_f, fval, fty, ftabs, wrv_0, wrv_1, wrv_2, wrv_3, wrv_5, mT_stI, mI_stI, mL_stI, mD_stI, mR_stI, mN_stI, mS_stI, mT_stL, mI_stL, mL_stL, mD_stL, mR_stL, mN_stL, mS_stL, mT_stD, mI_stD, mL_stD, mD_stD, mR_stD, mN_stD, mS_stD, mT_stR, mI_stR, mL_stR, mD_stR, mR_stR, mN_stR, mS_stR, mT_stN, mI_stN, mL_stN, mD_stN, mR_stN, mN_stN, mS_stN, e97_0, e97_1, e97_4, e97_5, e97_6, e97_9, e97_10, e97_13, e97_14, e97_17, e97_18, e97_19, e97_22, e97_33, e97_34, e97_37, e97_38, e97_39, rt97, hn97, h, tT0, tT1, tT2, tT3, tT4, tT5, tT6, tT7, tT8, tT9, tT10, tT11, tT12, tT13, tR0_0, tR0_6, tR0_7, tR0_8, tR0_9, tR0_11, tR0_12, tR0_14, tR2_0, tR2_1, tR6_0, tR9_0, tR9_1, ST_stI, ST_stL, ST_stD, nlt0 (show i < 2 ^ 31 by omega), nlt6 hi, ge6 hi, inb_nI hi, nI_clamp (show i < 2 ^ 31 by omega), hr]
theorem sp98 {B i p : Nat} {M : AMem} {Q : AR → Prop} (h : ST B M) (hi : i < 12) (hr : mR M (B + 8) i = some p) : CaP 98 [.ref B, .int (nI i)] M Q = Q (M, .inl (some (.ref p))) := by
  unfold CaP
  simp [lv_args, sStep, amStep, a_nx, a_ii, a_jj, a_ji, a_ld, a_st, a_if, a_ald, a_c1, a_c2, lkp, lput, lput2, lins, oP_none, oP_next, oP_call, oP_ret, oP_thr, outP_ite, aft_ret, aft_void, aft_thr, fHnd, List.isEmpty_nil, List.filter_cons, List.filter_nil, Value.category, csum, List.map_cons, List.map_nil, List.sum_cons, List.sum_nil, List.cons_append, List.nil_append, Option.toList, vp_nar_int, narrow_b1, narrow_b0, nc115, vc115, fc115, nc111, vc111, fc111, nc100, vc100, fc100, nc109, vc109, fc109, nc120, vc120, fc120, nc119, vc119, fc119, nc116, vc116, fc116, nc45, vc45, fc45, nc32, vc32, fc32, nc102, vc102, fc102, nc106, vc106, fc106, fin3, rf_some, rf_none, upd_ap, va_up_ap, nar_bi, fits_bi, nvp_bi, bi_t, bi_f, fval, fty, ftabs, wrv_0, wrv_1, wrv_2, wrv_3, wrv_5, mT_stI, mI_stI, mL_stI, mD_stI, mR_stI, mN_stI, mS_stI, mT_stL, mI_stL, mL_stL, mD_stL, mR_stL, mN_stL, mS_stL, mT_stD, mI_stD, mL_stD, mD_stD, mR_stD, mN_stD, mS_stD, mT_stR, mI_stR, mL_stR, mD_stR, mR_stR, mN_stR, mS_stR, mT_stN, mI_stN, mL_stN, mD_stN, mR_stN, mN_stN, mS_stN, e98_0, e98_1, e98_4, e98_5, e98_6, e98_9, e98_10, e98_13, e98_14, e98_17, e98_18, e98_19, e98_22, e98_33, e98_34, e98_37, e98_38, e98_39, rt98, hn98, h, tT0, tT1, tT2, tT3, tT4, tT5, tT6, tT7, tT8, tT9, tT10, tT11, tT12, tT13, tR0_0, tR0_6, tR0_7, tR0_8, tR0_9, tR0_11, tR0_12, tR0_14, tR2_0, tR2_1, tR6_0, tR9_0, tR9_1, ST_stI, ST_stL, ST_stD, nlt0 (show i < 2 ^ 31 by omega), nlt12 hi, ge12 hi, inb_nI hi, nI_clamp (show i < 2 ^ 31 by omega), hr]
/-- outside -/
theorem out_ix {x : Int32} {n N : Nat} (hn : n ≤ N) (hN : N < 100) (h : inR x 0 (nI n - 1) = false) : x < 0 ∨ nI N ≤ x ∨ ∃ i, i < N ∧ n ≤ i ∧ x = nI i := by
  by_cases h0 : x < 0
  · exact Or.inl h0
  · obtain ⟨j, hj, e⟩ := nI_of h0
    subst e
    by_cases h2 : N ≤ j
    · exact Or.inr (Or.inl (by rw [nI_leI (by omega) hj]; exact h2))
    · refine Or.inr (Or.inr ⟨j, by omega, ?_, rfl⟩)
      by_cases h3 : n ≤ j
      · exact h3
      · exfalso
        have : inR (nI j) 0 (nI n - 1) = true := by
          rw [show nI n - 1 = nI (n - 1) by rw [show n = (n - 1) + 1 by omega, nI_pred]; rfl]
          exact inR_nI (by omega) (by omega)
        rw [this] at h
        cases h
theorem sp97x {B n : Nat} {x : Int32} {M : AMem} {Q : AR → Prop} (h : ST B M) (hn : n ≤ 6) (hr : ∀ i, n ≤ i → i < 6 → mR M (B + 1) i = none) (hx : inR x 0 (nI n - 1) = false) : CaP 97 [.ref B, .int x] M Q = Q (stN M 0 0 6, .inr 2) := by
  unfold CaP
  rcases out_ix hn (by decide) hx with h1 | h1 | ⟨i, hi, h2, rfl⟩
  · simp [lv_args, sStep, amStep, a_nx, a_ii, a_jj, a_ji, a_ld, a_st, a_if, a_ald, a_c1, a_c2, lkp, lput, lput2, lins, oP_none, oP_next, oP_call, oP_ret, oP_thr, outP_ite, aft_ret, aft_void, aft_thr, fHnd, List.isEmpty_nil, List.filter_cons, List.filter_nil, Value.category, csum, List.map_cons, List.map_nil, List.sum_cons, List.sum_nil, List.cons_append, List.nil_append, Option.toList, vp_nar_int, narrow_b1, narrow_b0, nc115, vc115, fc115, nc111, vc111, fc111, nc100, vc100, fc100, nc109, vc109, fc109, nc120, vc120, fc120, nc119, vc119, fc119, nc116, vc116, fc116, nc45, vc45, fc45, nc32, vc32, fc32, nc102, vc102, fc102, nc106, vc106, fc106, fin3, rf_some, rf_none, upd_ap, va_up_ap, nar_bi, fits_bi, nvp_bi, bi_t, bi_f, fval, fty, ftabs, wrv_0, wrv_1, wrv_2, wrv_3, wrv_5, mT_stI, mI_stI, mL_stI, mD_stI, mR_stI, mN_stI, mS_stI, mT_stL, mI_stL, mL_stL, mD_stL, mR_stL, mN_stL, mS_stL, mT_stD, mI_stD, mL_stD, mD_stD, mR_stD, mN_stD, mS_stD, mT_stR, mI_stR, mL_stR, mD_stR, mR_stR, mN_stR, mS_stR, mT_stN, mI_stN, mL_stN, mD_stN, mR_stN, mN_stN, mS_stN, e97_0, e97_1, e97_4, e97_5, e97_6, e97_9, e97_10, e97_13, e97_14, e97_17, e97_18, e97_19, e97_22, e97_33, e97_34, e97_37, e97_38, e97_39, rt97, hn97, h, tT0, tT1, tT2, tT3, tT4, tT5, tT6, tT7, tT8, tT9, tT10, tT11, tT12, tT13, tR0_0, tR0_6, tR0_7, tR0_8, tR0_9, tR0_11, tR0_12, tR0_14, tR2_0, tR2_1, tR6_0, tR9_0, tR9_1, ST_stI, ST_stL, ST_stD, h1]
  · by_cases h0 : x < 0
    · simp [lv_args, sStep, amStep, a_nx, a_ii, a_jj, a_ji, a_ld, a_st, a_if, a_ald, a_c1, a_c2, lkp, lput, lput2, lins, oP_none, oP_next, oP_call, oP_ret, oP_thr, outP_ite, aft_ret, aft_void, aft_thr, fHnd, List.isEmpty_nil, List.filter_cons, List.filter_nil, Value.category, csum, List.map_cons, List.map_nil, List.sum_cons, List.sum_nil, List.cons_append, List.nil_append, Option.toList, vp_nar_int, narrow_b1, narrow_b0, nc115, vc115, fc115, nc111, vc111, fc111, nc100, vc100, fc100, nc109, vc109, fc109, nc120, vc120, fc120, nc119, vc119, fc119, nc116, vc116, fc116, nc45, vc45, fc45, nc32, vc32, fc32, nc102, vc102, fc102, nc106, vc106, fc106, fin3, rf_some, rf_none, upd_ap, va_up_ap, nar_bi, fits_bi, nvp_bi, bi_t, bi_f, fval, fty, ftabs, wrv_0, wrv_1, wrv_2, wrv_3, wrv_5, mT_stI, mI_stI, mL_stI, mD_stI, mR_stI, mN_stI, mS_stI, mT_stL, mI_stL, mL_stL, mD_stL, mR_stL, mN_stL, mS_stL, mT_stD, mI_stD, mL_stD, mD_stD, mR_stD, mN_stD, mS_stD, mT_stR, mI_stR, mL_stR, mD_stR, mR_stR, mN_stR, mS_stR, mT_stN, mI_stN, mL_stN, mD_stN, mR_stN, mN_stN, mS_stN, e97_0, e97_1, e97_4, e97_5, e97_6, e97_9, e97_10, e97_13, e97_14, e97_17, e97_18, e97_19, e97_22, e97_33, e97_34, e97_37, e97_38, e97_39, rt97, hn97, h, tT0, tT1, tT2, tT3, tT4, tT5, tT6, tT7, tT8, tT9, tT10, tT11, tT12, tT13, tR0_0, tR0_6, tR0_7, tR0_8, tR0_9, tR0_11, tR0_12, tR0_14, tR2_0, tR2_1, tR6_0, tR9_0, tR9_1, ST_stI, ST_stL, ST_stD, h0]
    · simp [lv_args, sStep, amStep, a_nx, a_ii, a_jj, a_ji, a_ld, a_st, a_if, a_ald, a_c1, a_c2, lkp, lput, lput2, lins, oP_none, oP_next, oP_call, oP_ret, oP_thr, outP_ite, aft_ret, aft_void, aft_thr, fHnd, List.isEmpty_nil, List.filter_cons, List.filter_nil, Value.category, csum, List.map_cons, List.map_nil, List.sum_cons, List.sum_nil, List.cons_append, List.nil_append, Option.toList, vp_nar_int, narrow_b1, narrow_b0, nc115, vc115, fc115, nc111, vc111, fc111, nc100, vc100, fc100, nc109, vc109, fc109, nc120, vc120, fc120, nc119, vc119, fc119, nc116, vc116, fc116, nc45, vc45, fc45, nc32, vc32, fc32, nc102, vc102, fc102, nc106, vc106, fc106, fin3, rf_some, rf_none, upd_ap, va_up_ap, nar_bi, fits_bi, nvp_bi, bi_t, bi_f, fval, fty, ftabs, wrv_0, wrv_1, wrv_2, wrv_3, wrv_5, mT_stI, mI_stI, mL_stI, mD_stI, mR_stI, mN_stI, mS_stI, mT_stL, mI_stL, mL_stL, mD_stL, mR_stL, mN_stL, mS_stL, mT_stD, mI_stD, mL_stD, mD_stD, mR_stD, mN_stD, mS_stD, mT_stR, mI_stR, mL_stR, mD_stR, mR_stR, mN_stR, mS_stR, mT_stN, mI_stN, mL_stN, mD_stN, mR_stN, mN_stN, mS_stN, e97_0, e97_1, e97_4, e97_5, e97_6, e97_9, e97_10, e97_13, e97_14, e97_17, e97_18, e97_19, e97_22, e97_33, e97_34, e97_37, e97_38, e97_39, rt97, hn97, h, tT0, tT1, tT2, tT3, tT4, tT5, tT6, tT7, tT8, tT9, tT10, tT11, tT12, tT13, tR0_0, tR0_6, tR0_7, tR0_8, tR0_9, tR0_11, tR0_12, tR0_14, tR2_0, tR2_1, tR6_0, tR9_0, tR9_1, ST_stI, ST_stL, ST_stD, h0, Int32.not_lt.mpr (show (6 : Int32) ≤ x from h1), show (6 : Int32) ≤ x from h1]
  · simp [lv_args, sStep, amStep, a_nx, a_ii, a_jj, a_ji, a_ld, a_st, a_if, a_ald, a_c1, a_c2, lkp, lput, lput2, lins, oP_none, oP_next, oP_call, oP_ret, oP_thr, outP_ite, aft_ret, aft_void, aft_thr, fHnd, List.isEmpty_nil, List.filter_cons, List.filter_nil, Value.category, csum, List.map_cons, List.map_nil, List.sum_cons, List.sum_nil, List.cons_append, List.nil_append, Option.toList, vp_nar_int, narrow_b1, narrow_b0, nc115, vc115, fc115, nc111, vc111, fc111, nc100, vc100, fc100, nc109, vc109, fc109, nc120, vc120, fc120, nc119, vc119, fc119, nc116, vc116, fc116, nc45, vc45, fc45, nc32, vc32, fc32, nc102, vc102, fc102, nc106, vc106, fc106, fin3, rf_some, rf_none, upd_ap, va_up_ap, nar_bi, fits_bi, nvp_bi, bi_t, bi_f, fval, fty, ftabs, wrv_0, wrv_1, wrv_2, wrv_3, wrv_5, mT_stI, mI_stI, mL_stI, mD_stI, mR_stI, mN_stI, mS_stI, mT_stL, mI_stL, mL_stL, mD_stL, mR_stL, mN_stL, mS_stL, mT_stD, mI_stD, mL_stD, mD_stD, mR_stD, mN_stD, mS_stD, mT_stR, mI_stR, mL_stR, mD_stR, mR_stR, mN_stR, mS_stR, mT_stN, mI_stN, mL_stN, mD_stN, mR_stN, mN_stN, mS_stN, e97_0, e97_1, e97_4, e97_5, e97_6, e97_9, e97_10, e97_13, e97_14, e97_17, e97_18, e97_19, e97_22, e97_33, e97_34, e97_37, e97_38, e97_39, rt97, hn97, h, tT0, tT1, tT2, tT3, tT4, tT5, tT6, tT7, tT8, tT9, tT10, tT11, tT12, tT13, tR0_0, tR0_6, tR0_7, tR0_8, tR0_9, tR0_11, tR0_12, tR0_14, tR2_0, tR2_1, tR6_0, tR9_0, tR9_1, ST_stI, ST_stL, ST_stD, nlt0 (show i < 2 ^ 31 by omega), nlt6 hi, ge6 hi, inb_nI hi, nI_clamp (show i < 2 ^ 31 by omega), hr i h2 hi]
theorem sp98x {B n : Nat} {x : Int32} {M : AMem} {Q : AR → Prop} (h : ST B M) (hn : n ≤ 12) (hr : ∀ i, n ≤ i → i < 12 → mR M (B + 8) i = none) (hx : inR x 0 (nI n - 1) = false) : CaP 98 [.ref B, .int x] M Q = Q (stN M 0 0 6, .inr 2) := by
  unfold CaP
  rcases out_ix hn (by decide) hx with h1 | h1 | ⟨i, hi, h2, rfl⟩
  · simp [lv_args, sStep, amStep, a_nx, a_ii, a_jj, a_ji, a_ld, a_st, a_if, a_ald, a_c1, a_c2, lkp, lput, lput2, lins, oP_none, oP_next, oP_call, oP_ret, oP_thr, outP_ite, aft_ret, aft_void, aft_thr, fHnd, List.isEmpty_nil, List.filter_cons, List.filter_nil, Value.category, csum, List.map_cons, List.map_nil, List.sum_cons, List.sum_nil, List.cons_append, List.nil_append, Option.toList, vp_nar_int, narrow_b1, narrow_b0, nc115, vc115, fc115, nc111, vc111, fc111, nc100, vc100, fc100, nc109, vc109, fc109, nc120, vc120, fc120, nc119, vc119, fc119, nc116, vc116, fc116, nc45, vc45, fc45, nc32, vc32, fc32, nc102, vc102, fc102, nc106, vc106, fc106, fin3, rf_some, rf_none, upd_ap, va_up_ap, nar_bi, fits_bi, nvp_bi, bi_t, bi_f, fval, fty, ftabs, wrv_0, wrv_1, wrv_2, wrv_3, wrv_5, mT_stI, mI_stI, mL_stI, mD_stI, mR_stI, mN_stI, mS_stI, mT_stL, mI_stL, mL_stL, mD_stL, mR_stL, mN_stL, mS_stL, mT_stD, mI_stD, mL_stD, mD_stD, mR_stD, mN_stD, mS_stD, mT_stR, mI_stR, mL_stR, mD_stR, mR_stR, mN_stR, mS_stR, mT_stN, mI_stN, mL_stN, mD_stN, mR_stN, mN_stN, mS_stN, e98_0, e98_1, e98_4, e98_5, e98_6, e98_9, e98_10, e98_13, e98_14, e98_17, e98_18, e98_19, e98_22, e98_33, e98_34, e98_37, e98_38, e98_39, rt98, hn98, h, tT0, tT1, tT2, tT3, tT4, tT5, tT6, tT7, tT8, tT9, tT10, tT11, tT12, tT13, tR0_0, tR0_6, tR0_7, tR0_8, tR0_9, tR0_11, tR0_12, tR0_14, tR2_0, tR2_1, tR6_0, tR9_0, tR9_1, ST_stI, ST_stL, ST_stD, h1]
  · by_cases h0 : x < 0
    · simp [lv_args, sStep, amStep, a_nx, a_ii, a_jj, a_ji, a_ld, a_st, a_if, a_ald, a_c1, a_c2, lkp, lput, lput2, lins, oP_none, oP_next, oP_call, oP_ret, oP_thr, outP_ite, aft_ret, aft_void, aft_thr, fHnd, List.isEmpty_nil, List.filter_cons, List.filter_nil, Value.category, csum, List.map_cons, List.map_nil, List.sum_cons, List.sum_nil, List.cons_append, List.nil_append, Option.toList, vp_nar_int, narrow_b1, narrow_b0, nc115, vc115, fc115, nc111, vc111, fc111, nc100, vc100, fc100, nc109, vc109, fc109, nc120, vc120, fc120, nc119, vc119, fc119, nc116, vc116, fc116, nc45, vc45, fc45, nc32, vc32, fc32, nc102, vc102, fc102, nc106, vc106, fc106, fin3, rf_some, rf_none, upd_ap, va_up_ap, nar_bi, fits_bi, nvp_bi, bi_t, bi_f, fval, fty, ftabs, wrv_0, wrv_1, wrv_2, wrv_3, wrv_5, mT_stI, mI_stI, mL_stI, mD_stI, mR_stI, mN_stI, mS_stI, mT_stL, mI_stL, mL_stL, mD_stL, mR_stL, mN_stL, mS_stL, mT_stD, mI_stD, mL_stD, mD_stD, mR_stD, mN_stD, mS_stD, mT_stR, mI_stR, mL_stR, mD_stR, mR_stR, mN_stR, mS_stR, mT_stN, mI_stN, mL_stN, mD_stN, mR_stN, mN_stN, mS_stN, e98_0, e98_1, e98_4, e98_5, e98_6, e98_9, e98_10, e98_13, e98_14, e98_17, e98_18, e98_19, e98_22, e98_33, e98_34, e98_37, e98_38, e98_39, rt98, hn98, h, tT0, tT1, tT2, tT3, tT4, tT5, tT6, tT7, tT8, tT9, tT10, tT11, tT12, tT13, tR0_0, tR0_6, tR0_7, tR0_8, tR0_9, tR0_11, tR0_12, tR0_14, tR2_0, tR2_1, tR6_0, tR9_0, tR9_1, ST_stI, ST_stL, ST_stD, h0]
    · simp [lv_args, sStep, amStep, a_nx, a_ii, a_jj, a_ji, a_ld, a_st, a_if, a_ald, a_c1, a_c2, lkp, lput, lput2, lins, oP_none, oP_next, oP_call, oP_ret, oP_thr, outP_ite, aft_ret, aft_void, aft_thr, fHnd, List.isEmpty_nil, List.filter_cons, List.filter_nil, Value.category, csum, List.map_cons, List.map_nil, List.sum_cons, List.sum_nil, List.cons_append, List.nil_append, Option.toList, vp_nar_int, narrow_b1, narrow_b0, nc115, vc115, fc115, nc111, vc111, fc111, nc100, vc100, fc100, nc109, vc109, fc109, nc120, vc120, fc120, nc119, vc119, fc119, nc116, vc116, fc116, nc45, vc45, fc45, nc32, vc32, fc32, nc102, vc102, fc102, nc106, vc106, fc106, fin3, rf_some, rf_none, upd_ap, va_up_ap, nar_bi, fits_bi, nvp_bi, bi_t, bi_f, fval, fty, ftabs, wrv_0, wrv_1, wrv_2, wrv_3, wrv_5, mT_stI, mI_stI, mL_stI, mD_stI, mR_stI, mN_stI, mS_stI, mT_stL, mI_stL, mL_stL, mD_stL, mR_stL, mN_stL, mS_stL, mT_stD, mI_stD, mL_stD, mD_stD, mR_stD, mN_stD, mS_stD, mT_stR, mI_stR, mL_stR, mD_stR, mR_stR, mN_stR, mS_stR, mT_stN, mI_stN, mL_stN, mD_stN, mR_stN, mN_stN, mS_stN, e98_0, e98_1, e98_4, e98_5, e98_6, e98_9, e98_10, e98_13, e98_14, e98_17, e98_18, e98_19, e98_22, e98_33, e98_34, e98_37, e98_38, e98_39, rt98, hn98, h, tT0, tT1, tT2, tT3, tT4, tT5, tT6, tT7, tT8, tT9, tT10, tT11, tT12, tT13, tR0_0, tR0_6, tR0_7, tR0_8, tR0_9, tR0_11, tR0_12, tR0_14, tR2_0, tR2_1, tR6_0, tR9_0, tR9_1, ST_stI, ST_stL, ST_stD, h0, Int32.not_lt.mpr (show (12 : Int32) ≤ x from h1), show (12 : Int32) ≤ x from h1]
  · simp [lv_args, sStep, amStep, a_nx, a_ii, a_jj, a_ji, a_ld, a_st, a_if, a_ald, a_c1, a_c2, lkp, lput, lput2, lins, oP_none, oP_next, oP_call, oP_ret, oP_thr, outP_ite, aft_ret, aft_void, aft_thr, fHnd, List.isEmpty_nil, List.filter_cons, List.filter_nil, Value.category, csum, List.map_cons, List.map_nil, List.sum_cons, List.sum_nil, List.cons_append, List.nil_append, Option.toList, vp_nar_int, narrow_b1, narrow_b0, nc115, vc115, fc115, nc111, vc111, fc111, nc100, vc100, fc100, nc109, vc109, fc109, nc120, vc120, fc120, nc119, vc119, fc119, nc116, vc116, fc116, nc45, vc45, fc45, nc32, vc32, fc32, nc102, vc102, fc102, nc106, vc106, fc106, fin3, rf_some, rf_none, upd_ap, va_up_ap, nar_bi, fits_bi, nvp_bi, bi_t, bi_f, fval, fty, ftabs, wrv_0, wrv_1, wrv_2, wrv_3, wrv_5, mT_stI, mI_stI, mL_stI, mD_stI, mR_stI, mN_stI, mS_stI, mT_stL, mI_stL, mL_stL, mD_stL, mR_stL, mN_stL, mS_stL, mT_stD, mI_stD, mL_stD, mD_stD, mR_stD, mN_stD, mS_stD, mT_stR, mI_stR, mL_stR, mD_stR, mR_stR, mN_stR, mS_stR, mT_stN, mI_stN, mL_stN, mD_stN, mR_stN, mN_stN, mS_stN, e98_0, e98_1, e98_4, e98_5, e98_6, e98_9, e98_10, e98_13, e98_14, e98_17, e98_18, e98_19, e98_22, e98_33, e98_34, e98_37, e98_38, e98_39, rt98, hn98, h, tT0, tT1, tT2, tT3, tT4, tT5, tT6, tT7, tT8, tT9, tT10, tT11, tT12, tT13, tR0_0, tR0_6, tR0_7, tR0_8, tR0_9, tR0_11, tR0_12, tR0_14, tR2_0, tR2_1, tR6_0, tR9_0, tR9_1, ST_stI, ST_stL, ST_stD, nlt0 (show i < 2 ^ 31 by omega), nlt12 hi, ge12 hi, inb_nI hi, nI_clamp (show i < 2 ^ 31 by omega), hr i h2 hi]
