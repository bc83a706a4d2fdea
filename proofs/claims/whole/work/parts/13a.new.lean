/-! ===== new objects ===== -/
theorem nz6 : ∀ e ∈ stR0, ¬ e.1 = 1 ∧ ¬ e.1 = 8 ∧ ¬ e.1 = 12 := by decide
theorem ST_R1 {B : Nat} {M : AMem} {f : Nat → Option Nat} {k : Nat} (hk : k = 1 ∨ k = 8 ∨ k = 12) (h : ST B M) : ST B (stR M (B + k) f) := by
  refine ⟨h.1, fun e he => ?_, h.2.2⟩
  have := nz6 e he
  rw [mR_stR, va_up_ap, if_neg (by omega)]
  exact h.2.1 e he
theorem AD_R {B s L : Nat} {M : AMem} {ns np no : Nat} {p q o : Nat → Nat} {f : Nat → Option Nat} {k : Nat} (hk : k = 1 ∨ k = 8 ∨ k = 12) (h : AD B s L M ns np no p q o) : ((∀ i, i < ns → B + 45 ≤ p i ∧ p i + 5 ≤ mN M ∧ SH (stR M (B + k) f) (p i)) ∧ (∀ i, i < np → B + 45 ≤ q i ∧ q i + 2 ≤ mN M ∧ PK (stR M (B + k) f) (q i)) ∧ (∀ i, i < no → B + 45 ≤ o i ∧ o i + 1 ≤ mN M ∧ mT (stR M (B + k) f) (o i) = (3, 0))) := by
  obtain ⟨h1, h2, h3⟩ := h.2.2.1
  refine ⟨fun i hi => ?_, fun i hi => ?_, h3⟩
  · obtain ⟨a, b, c⟩ := h1 i hi
    refine ⟨a, b, ?_⟩
    unfold SH
    rw [mR_stR, va_up_ap, if_neg (by omega)]
    exact c
  · obtain ⟨a, b, c⟩ := h2 i hi
    refine ⟨a, b, ?_⟩
    unfold PK
    rw [mR_stR, va_up_ap, if_neg (by omega)]
    exact c
theorem SH_R {B p k : Nat} {M : AMem} {f : Nat → Option Nat} (hk : k < 45) (hp : B + 45 ≤ p) (h : SH M p) : SH (stR M (B + k) f) p := by
  unfold SH
  rw [mR_stR, va_up_ap, if_neg (by omega)]
  exact h
theorem PK_R {B p k : Nat} {M : AMem} {f : Nat → Option Nat} (hk : k < 45) (hp : B + 45 ≤ p) (h : PK M p) : PK (stR M (B + k) f) p := by
  unfold PK
  rw [mR_stR, va_up_ap, if_neg (by omega)]
  exact h
def adx (p : Nat → Nat) (n P : Nat) : Nat → Nat := fun i => if i = n then P else p i
theorem adx_n {p : Nat → Nat} {n P : Nat} : adx p n P n = P := if_pos rfl
theorem adx_lt {p : Nat → Nat} {n P i : Nat} (h : i < n) : adx p n P i = p i := if_neg (by omega)
theorem AD_addS {B s L : Nat} {M : AMem} {ns np no : Nat} {p q o : Nat → Nat} {P : Nat} (h : AD B s L M ns np no p q o) (hns : ns < 6) (h1 : B + 45 ≤ P) (h2 : P + 5 ≤ mN M) (h3 : SH M P) (h4 : ∀ i, i < ns → p i + 5 ≤ P) : AD B s L (stR M (B + 1) (va_up (mR M (B + 1)) ns (some P))) (ns + 1) np no (adx p ns P) q o := by
  have hN := ad_N h
  obtain ⟨g1, g2, g3⟩ := AD_R (f := va_up (mR M (B + 1)) ns (some P)) (Or.inl rfl : 1 = 1 ∨ 1 = 8 ∨ 1 = 12) h
  obtain ⟨⟨a1, a2, a3, a4, a5, a6⟩, ⟨r1, r2, r3⟩, -, ⟨o1, o2, o3⟩⟩ := h
  refine ⟨⟨ST_R1 (Or.inl rfl) a1, a2, a3, by omega, a5, a6⟩, ⟨fun i hi => ?_, fun i hi => ?_, fun i hi => ?_⟩, ⟨fun i hi => ?_, g2, g3⟩, ⟨fun i j hij hj => ?_, o2, o3⟩⟩
  · rw [mR_stR, va_up_ap, if_pos rfl, va_up_ap]
    by_cases e : i = ns
    · rw [if_pos e, if_pos (by omega), e, adx_n]
    · rw [if_neg e, r1 i hi]
      by_cases e2 : i < ns
      · rw [if_pos e2, if_pos (by omega), adx_lt e2]
      · rw [if_neg e2, if_neg (by omega)]
  · rw [mR_stR, va_up_ap, if_neg (by omega)]; exact r2 i hi
  · rw [mR_stR, va_up_ap, if_neg (by omega)]; exact r3 i hi
  · by_cases e : i = ns
    · rw [e, adx_n]
      exact ⟨h1, h2, SH_R (by decide) h1 h3⟩
    · rw [adx_lt (by omega)]
      exact g1 i (by omega)
  · by_cases e : j = ns
    · rw [e, adx_n, adx_lt (by omega)]
      exact h4 i (by omega)
    · rw [adx_lt (by omega), adx_lt (by omega)]
      exact o1 i j hij (by omega)
theorem AD_addP {B s L : Nat} {M : AMem} {ns np no : Nat} {p q o : Nat → Nat} {P : Nat} (h : AD B s L M ns np no p q o) (hns : np < 12) (h1 : B + 45 ≤ P) (h2 : P + 2 ≤ mN M) (h3 : PK M P) (h4 : ∀ i, i < np → q i + 2 ≤ P) : AD B s L (stR M (B + 8) (va_up (mR M (B + 8)) np (some P))) ns (np + 1) no p (adx q np P) o := by
  have hN := ad_N h
  obtain ⟨g1, g2, g3⟩ := AD_R (f := va_up (mR M (B + 8)) np (some P)) (Or.inr (Or.inl rfl) : 8 = 1 ∨ 8 = 8 ∨ 8 = 12) h
  obtain ⟨⟨a1, a2, a3, a4, a5, a6⟩, ⟨r1, r2, r3⟩, -, ⟨o1, o2, o3⟩⟩ := h
  refine ⟨⟨ST_R1 (Or.inr (Or.inl rfl)) a1, a2, a3, a4, by omega, a6⟩, ⟨fun i hi => ?_, fun i hi => ?_, fun i hi => ?_⟩, ⟨g1, fun i hi => ?_, g3⟩, ⟨o1, fun i j hij hj => ?_, o3⟩⟩
  · rw [mR_stR, va_up_ap, if_neg (by omega)]; exact r1 i hi
  · rw [mR_stR, va_up_ap, if_pos rfl, va_up_ap]
    by_cases e : i = np
    · rw [if_pos e, if_pos (by omega), e, adx_n]
    · rw [if_neg e, r2 i hi]
      by_cases e2 : i < np
      · rw [if_pos e2, if_pos (by omega), adx_lt e2]
      · rw [if_neg e2, if_neg (by omega)]
  · rw [mR_stR, va_up_ap, if_neg (by omega)]; exact r3 i hi
  · by_cases e : i = np
    · rw [e, adx_n]
      exact ⟨h1, h2, PK_R (by decide) h1 h3⟩
    · rw [adx_lt (by omega)]
      exact g2 i (by omega)
  · by_cases e : j = np
    · rw [e, adx_n, adx_lt (by omega)]
      exact h4 i (by omega)
    · rw [adx_lt (by omega), adx_lt (by omega)]
      exact o2 i j hij (by omega)
theorem AD_addO {B s L : Nat} {M : AMem} {ns np no : Nat} {p q o : Nat → Nat} {P : Nat} (h : AD B s L M ns np no p q o) (hns : no < 12) (h1 : B + 45 ≤ P) (h2 : P + 1 ≤ mN M) (h3 : mT M P = (3, 0)) (h4 : ∀ i, i < no → o i + 1 ≤ P) : AD B s L (stR M (B + 12) (va_up (mR M (B + 12)) no (some P))) ns np (no + 1) p q (adx o no P) := by
  have hN := ad_N h
  obtain ⟨g1, g2, g3⟩ := AD_R (f := va_up (mR M (B + 12)) no (some P)) (Or.inr (Or.inr rfl) : 12 = 1 ∨ 12 = 8 ∨ 12 = 12) h
  obtain ⟨⟨a1, a2, a3, a4, a5, a6⟩, ⟨r1, r2, r3⟩, -, ⟨o1, o2, o3⟩⟩ := h
  refine ⟨⟨ST_R1 (Or.inr (Or.inr rfl)) a1, a2, a3, a4, a5, by omega⟩, ⟨fun i hi => ?_, fun i hi => ?_, fun i hi => ?_⟩, ⟨g1, g2, fun i hi => ?_⟩, ⟨o1, o2, fun i j hij hj => ?_⟩⟩
  · rw [mR_stR, va_up_ap, if_neg (by omega)]; exact r1 i hi
  · rw [mR_stR, va_up_ap, if_neg (by omega)]; exact r2 i hi
  · rw [mR_stR, va_up_ap, if_pos rfl, va_up_ap]
    by_cases e : i = no
    · rw [if_pos e, if_pos (by omega), e, adx_n]
    · rw [if_neg e, r3 i hi]
      by_cases e2 : i < no
      · rw [if_pos e2, if_pos (by omega), adx_lt e2]
      · rw [if_neg e2, if_neg (by omega)]
  · by_cases e : i = no
    · rw [e, adx_n]
      exact ⟨h1, h2, h3⟩
    · rw [adx_lt (by omega)]
      exact g3 i (by omega)
  · by_cases e : j = no
    · rw [e, adx_n, adx_lt (by omega)]
      exact h4 i (by omega)
    · rw [adx_lt (by omega), adx_lt (by omega)]
      exact o3 i j hij (by omega)
/-- a row made and kept in a field -/
def sg (X : AMem) (p K n f : Nat) : AMem := stR (stN X K n n) p (va_up (mR (stN X K n n) p) f (some (mN X)))
theorem sg_N {X : AMem} {p K n f : Nat} : mN (sg X p K n f) = mN X + 1 := of_eq_true (eq_true rfl)
theorem sg_S {X : AMem} {p K n f : Nat} : mS (sg X p K n f) = mS X + n := of_eq_true (eq_true rfl)
theorem sg_T {X : AMem} {p K n f a : Nat} : mT (sg X p K n f) a = if a = mN X then (K, n) else mT X a := of_eq_true (eq_true rfl)
theorem sg_I {X : AMem} {p K n f a : Nat} : mI (sg X p K n f) a = if a = mN X then (fun _ => 0) else mI X a := of_eq_true (eq_true rfl)
theorem sg_L {X : AMem} {p K n f a : Nat} : mL (sg X p K n f) a = if a = mN X then (fun _ => 0) else mL X a := of_eq_true (eq_true rfl)
theorem sg_R {X : AMem} {p K n f a : Nat} (h1 : ¬ a = mN X) (h2 : ¬ a = p) : mR (sg X p K n f) a = mR X a := by
  unfold sg
  rw [mR_stR, va_up_ap, if_neg h2, mR_stN, va_up_ap, if_neg h1]
theorem sg_Rp {X : AMem} {p K n f g : Nat} (h1 : p < mN X) : mR (sg X p K n f) p g = if g = f then some (mN X) else mR X p g := by
  unfold sg
  rw [mR_stR, va_up_ap, if_pos rfl, va_up_ap, mR_stN, va_up_ap, if_neg (show ¬ p = mN X by omega)]
theorem k54 : inb 54 1001 = true := by decide
theorem k60 : inb 60 1001 = true := by decide
theorem k4 : inb 4 1001 = true := by decide
def shC4 (M : AMem) (p : Nat) : AMem := sg (sg (sg (sg M p 100 54 2) p 100 54 3) p 100 4 4) p 100 4 5
def shC (M : AMem) (p : Nat) (r c : Int32) : AMem := stI (stI (shC4 M p) p (upd (upd (mI (shC4 M p) p) 0 r) 1 c)) (p + 1) (fillF (mI (shC4 M p) (p + 1)) 0 (-1) 54)
theorem shC4_f {M : AMem} {p : Nat} (hN : mN M = p + 1) (ht : mT M p = (6, 0)) : mN (shC4 M p) = p + 5 ∧ mS (shC4 M p) = mS M + 116 ∧ (∀ a, a ≤ p → mT (shC4 M p) a = mT M a ∧ mI (shC4 M p) a = mI M a ∧ mL (shC4 M p) a = mL M a) ∧ (∀ a, a < p → mR (shC4 M p) a = mR M a) ∧ SH (shC4 M p) p ∧ mI (shC4 M p) (p + 1) = (fun _ => 0) ∧ mI (shC4 M p) (p + 2) = (fun _ => 0) ∧ mI (shC4 M p) (p + 3) = (fun _ => 0) ∧ mI (shC4 M p) (p + 4) = (fun _ => 0) := by
  have n1 : mN (sg M p 100 54 2) = p + 2 := by rw [sg_N, hN]
  have n2 : mN (sg (sg M p 100 54 2) p 100 54 3) = p + 3 := by rw [sg_N, n1]
  have n3 : mN (sg (sg (sg M p 100 54 2) p 100 54 3) p 100 4 4) = p + 4 := by rw [sg_N, n2]
  unfold SH shC4
  refine ⟨by rw [sg_N, n3], by rw [sg_S, sg_S, sg_S, sg_S], fun a ha => ⟨?_, ?_, ?_⟩, fun a ha => ?_, ⟨?_, ?_, ?_, ?_, ?_, ?_, ?_, ?_, ?_⟩, ?_, ?_, ?_, ?_⟩
  · rw [sg_T, sg_T, sg_T, sg_T, n3, n2, n1, hN, if_neg (by omega), if_neg (by omega), if_neg (by omega), if_neg (by omega)]
  · rw [sg_I, sg_I, sg_I, sg_I, n3, n2, n1, hN, if_neg (by omega), if_neg (by omega), if_neg (by omega), if_neg (by omega)]
  · rw [sg_L, sg_L, sg_L, sg_L, n3, n2, n1, hN, if_neg (by omega), if_neg (by omega), if_neg (by omega), if_neg (by omega)]
  · rw [sg_R (by omega) (by omega), sg_R (by omega) (by omega), sg_R (by omega) (by omega), sg_R (by omega) (by omega)]
  · rw [sg_T, sg_T, sg_T, sg_T, n3, n2, n1, hN, if_neg (by omega), if_neg (by omega), if_neg (by omega), if_neg (by omega), ht]
  · rw [sg_T, sg_T, sg_T, sg_T, n3, n2, n1, hN, if_neg (by omega), if_neg (by omega), if_neg (by omega), if_pos rfl]
  · rw [sg_T, sg_T, sg_T, n3, n2, n1, if_neg (by omega), if_neg (by omega), if_pos rfl]
  · rw [sg_T, sg_T, n3, n2, if_neg (by omega), if_pos rfl]
  · rw [sg_T, n3, if_pos rfl]
  · rw [sg_Rp (by omega), sg_Rp (by omega), sg_Rp (by omega), sg_Rp (by omega), if_neg (by decide), if_neg (by decide), if_neg (by decide), if_pos rfl, hN]
  · rw [sg_Rp (by omega), sg_Rp (by omega), sg_Rp (by omega), if_neg (by decide), if_neg (by decide), if_pos rfl, n1]
  · rw [sg_Rp (by omega), sg_Rp (by omega), if_neg (by decide), if_pos rfl, n2]
  · rw [sg_Rp (by omega), if_pos rfl, n3]
  · rw [sg_I, sg_I, sg_I, sg_I, n3, n2, n1, hN, if_neg (by omega), if_neg (by omega), if_neg (by omega), if_pos rfl]
  · rw [sg_I, sg_I, sg_I, n3, n2, n1, if_neg (by omega), if_neg (by omega), if_pos rfl]
  · rw [sg_I, sg_I, n3, n2, if_neg (by omega), if_pos rfl]
  · rw [sg_I, n3, if_pos rfl]
theorem s28_0 {p : Nat} {r c : Int32} {M : AMem} {Q : AR → Prop} (ht : mT M p = (6, 0)) (hN : p < mN M) : EvP 28 4 [(0, .ref p), (1, .int r), (2, .int c)] [] M Q = EvP 28 12 [(0, .ref p), (1, .int r), (2, .int c)] [] (sg M p 100 54 2) Q := by
  unfold sg
  simp [lv_args, sStep, amStep, a_nx, a_ii, a_jj, a_ji, a_ld, a_st, a_if, a_ald, a_c1, a_c2, lkp, lput, lput2, lins, oP_none, oP_next, oP_call, oP_ret, oP_thr, outP_ite, aft_ret, aft_void, aft_thr, fHnd, List.isEmpty_nil, List.filter_cons, List.filter_nil, Value.category, csum, List.map_cons, List.map_nil, List.sum_cons, List.sum_nil, List.cons_append, List.nil_append, Option.toList, vp_nar_int, narrow_b1, narrow_b0, nc115, vc115, fc115, nc111, vc111, fc111, nc100, vc100, fc100, nc109, vc109, fc109, nc120, vc120, fc120, nc119, vc119, fc119, nc116, vc116, fc116, nc45, vc45, fc45, nc32, vc32, fc32, nc102, vc102, fc102, nc106, vc106, fc106, fin3, rf_some, rf_none, upd_ap, va_up_ap, nar_bi, fits_bi, nvp_bi, bi_t, bi_f, fval, fty, ftabs, wrv_0, wrv_1, wrv_2, wrv_3, wrv_5, mT_stI, mI_stI, mL_stI, mD_stI, mR_stI, mN_stI, mS_stI, mT_stL, mI_stL, mL_stL, mD_stL, mR_stL, mN_stL, mS_stL, mT_stD, mI_stD, mL_stD, mD_stD, mR_stD, mN_stD, mS_stD, mT_stR, mI_stR, mL_stR, mD_stR, mR_stR, mN_stR, mS_stR, mT_stN, mI_stN, mL_stN, mD_stN, mR_stN, mN_stN, mS_stN, e28_0, e28_1, e28_4, e28_5, e28_7, e28_9, e28_13, e28_15, e28_17, e28_20, e28_21, e28_22, e28_24, e28_27, e28_28, e28_29, e28_31, e28_34, e28_35, e28_36, e28_39, e28_40, e28_41, e28_44, e28_45, e28_48, e28_49, e28_52, rt28, hn28, ht, show ¬ p = mN M by omega, k54, atc, show (54 : Int32).toNatClampNeg = 54 from rfl]
theorem s28_1 {p : Nat} {r c : Int32} {M : AMem} {Q : AR → Prop} (ht : mT M p = (6, 0)) (hN : p < mN M) : EvP 28 12 [(0, .ref p), (1, .int r), (2, .int c)] [] M Q = EvP 28 20 [(0, .ref p), (1, .int r), (2, .int c)] [] (sg M p 100 54 3) Q := by
  unfold sg
  simp [lv_args, sStep, amStep, a_nx, a_ii, a_jj, a_ji, a_ld, a_st, a_if, a_ald, a_c1, a_c2, lkp, lput, lput2, lins, oP_none, oP_next, oP_call, oP_ret, oP_thr, outP_ite, aft_ret, aft_void, aft_thr, fHnd, List.isEmpty_nil, List.filter_cons, List.filter_nil, Value.category, csum, List.map_cons, List.map_nil, List.sum_cons, List.sum_nil, List.cons_append, List.nil_append, Option.toList, vp_nar_int, narrow_b1, narrow_b0, nc115, vc115, fc115, nc111, vc111, fc111, nc100, vc100, fc100, nc109, vc109, fc109, nc120, vc120, fc120, nc119, vc119, fc119, nc116, vc116, fc116, nc45, vc45, fc45, nc32, vc32, fc32, nc102, vc102, fc102, nc106, vc106, fc106, fin3, rf_some, rf_none, upd_ap, va_up_ap, nar_bi, fits_bi, nvp_bi, bi_t, bi_f, fval, fty, ftabs, wrv_0, wrv_1, wrv_2, wrv_3, wrv_5, mT_stI, mI_stI, mL_stI, mD_stI, mR_stI, mN_stI, mS_stI, mT_stL, mI_stL, mL_stL, mD_stL, mR_stL, mN_stL, mS_stL, mT_stD, mI_stD, mL_stD, mD_stD, mR_stD, mN_stD, mS_stD, mT_stR, mI_stR, mL_stR, mD_stR, mR_stR, mN_stR, mS_stR, mT_stN, mI_stN, mL_stN, mD_stN, mR_stN, mN_stN, mS_stN, e28_0, e28_1, e28_4, e28_5, e28_7, e28_9, e28_12, e28_13, e28_15, e28_17, e28_21, e28_22, e28_24, e28_27, e28_28, e28_29, e28_31, e28_34, e28_35, e28_36, e28_39, e28_40, e28_41, e28_44, e28_45, e28_48, e28_49, e28_52, rt28, hn28, ht, show ¬ p = mN M by omega, k54, atc, show (54 : Int32).toNatClampNeg = 54 from rfl]
theorem s28_2 {p : Nat} {r c : Int32} {M : AMem} {Q : AR → Prop} (ht : mT M p = (6, 0)) (hN : p < mN M) : EvP 28 20 [(0, .ref p), (1, .int r), (2, .int c)] [] M Q = EvP 28 27 [(0, .ref p), (1, .int r), (2, .int c)] [] (sg M p 100 4 4) Q := by
  unfold sg
  simp [lv_args, sStep, amStep, a_nx, a_ii, a_jj, a_ji, a_ld, a_st, a_if, a_ald, a_c1, a_c2, lkp, lput, lput2, lins, oP_none, oP_next, oP_call, oP_ret, oP_thr, outP_ite, aft_ret, aft_void, aft_thr, fHnd, List.isEmpty_nil, List.filter_cons, List.filter_nil, Value.category, csum, List.map_cons, List.map_nil, List.sum_cons, List.sum_nil, List.cons_append, List.nil_append, Option.toList, vp_nar_int, narrow_b1, narrow_b0, nc115, vc115, fc115, nc111, vc111, fc111, nc100, vc100, fc100, nc109, vc109, fc109, nc120, vc120, fc120, nc119, vc119, fc119, nc116, vc116, fc116, nc45, vc45, fc45, nc32, vc32, fc32, nc102, vc102, fc102, nc106, vc106, fc106, fin3, rf_some, rf_none, upd_ap, va_up_ap, nar_bi, fits_bi, nvp_bi, bi_t, bi_f, fval, fty, ftabs, wrv_0, wrv_1, wrv_2, wrv_3, wrv_5, mT_stI, mI_stI, mL_stI, mD_stI, mR_stI, mN_stI, mS_stI, mT_stL, mI_stL, mL_stL, mD_stL, mR_stL, mN_stL, mS_stL, mT_stD, mI_stD, mL_stD, mD_stD, mR_stD, mN_stD, mS_stD, mT_stR, mI_stR, mL_stR, mD_stR, mR_stR, mN_stR, mS_stR, mT_stN, mI_stN, mL_stN, mD_stN, mR_stN, mN_stN, mS_stN, e28_0, e28_1, e28_4, e28_5, e28_7, e28_9, e28_12, e28_13, e28_15, e28_17, e28_20, e28_21, e28_22, e28_24, e28_28, e28_29, e28_31, e28_34, e28_35, e28_36, e28_39, e28_40, e28_41, e28_44, e28_45, e28_48, e28_49, e28_52, rt28, hn28, ht, show ¬ p = mN M by omega, k4, atc, show (4 : Int32).toNatClampNeg = 4 from rfl]
theorem s28_3 {p : Nat} {r c : Int32} {M : AMem} {Q : AR → Prop} (ht : mT M p = (6, 0)) (hN : p < mN M) : EvP 28 27 [(0, .ref p), (1, .int r), (2, .int c)] [] M Q = EvP 28 34 [(0, .ref p), (1, .int r), (2, .int c)] [] (sg M p 100 4 5) Q := by
  unfold sg
  simp [lv_args, sStep, amStep, a_nx, a_ii, a_jj, a_ji, a_ld, a_st, a_if, a_ald, a_c1, a_c2, lkp, lput, lput2, lins, oP_none, oP_next, oP_call, oP_ret, oP_thr, outP_ite, aft_ret, aft_void, aft_thr, fHnd, List.isEmpty_nil, List.filter_cons, List.filter_nil, Value.category, csum, List.map_cons, List.map_nil, List.sum_cons, List.sum_nil, List.cons_append, List.nil_append, Option.toList, vp_nar_int, narrow_b1, narrow_b0, nc115, vc115, fc115, nc111, vc111, fc111, nc100, vc100, fc100, nc109, vc109, fc109, nc120, vc120, fc120, nc119, vc119, fc119, nc116, vc116, fc116, nc45, vc45, fc45, nc32, vc32, fc32, nc102, vc102, fc102, nc106, vc106, fc106, fin3, rf_some, rf_none, upd_ap, va_up_ap, nar_bi, fits_bi, nvp_bi, bi_t, bi_f, fval, fty, ftabs, wrv_0, wrv_1, wrv_2, wrv_3, wrv_5, mT_stI, mI_stI, mL_stI, mD_stI, mR_stI, mN_stI, mS_stI, mT_stL, mI_stL, mL_stL, mD_stL, mR_stL, mN_stL, mS_stL, mT_stD, mI_stD, mL_stD, mD_stD, mR_stD, mN_stD, mS_stD, mT_stR, mI_stR, mL_stR, mD_stR, mR_stR, mN_stR, mS_stR, mT_stN, mI_stN, mL_stN, mD_stN, mR_stN, mN_stN, mS_stN, e28_0, e28_1, e28_4, e28_5, e28_7, e28_9, e28_12, e28_13, e28_15, e28_17, e28_20, e28_21, e28_22, e28_24, e28_27, e28_28, e28_29, e28_31, e28_35, e28_36, e28_39, e28_40, e28_41, e28_44, e28_45, e28_48, e28_49, e28_52, rt28, hn28, ht, show ¬ p = mN M by omega, k4, atc, show (4 : Int32).toNatClampNeg = 4 from rfl]
theorem s28_4 {p : Nat} {r c : Int32} {X : AMem} {Q : AR → Prop} (f5 : SH X p) : EvP 28 34 [(0, .ref p), (1, .int r), (2, .int c)] [] X Q = Q (stI (stI X p (upd (upd (mI X p) 0 r) 1 c)) (p + 1) (fillF (mI X (p + 1)) 0 (-1) 54), .inl none) := by
  have h169 := fun Q => @sp169 (p + 1) 54 (-1) (stI X p (upd (upd (mI X p) 0 r) 1 c)) Q (by rw [mT_stI]; exact f5.2.1) (by decide)
  have e1 : mI (stI X p (upd (upd (mI X p) 0 r) 1 c)) (p + 1) = mI X (p + 1) := by rw [mI_stI, va_up_ap, if_neg (by omega)]
  rw [e1] at h169
  have t0 := sh0 f5
  simp [lv_args, sStep, amStep, a_nx, a_ii, a_jj, a_ji, a_ld, a_st, a_if, a_ald, a_c1, a_c2, lkp, lput, lput2, lins, oP_none, oP_next, oP_call, oP_ret, oP_thr, outP_ite, aft_ret, aft_void, aft_thr, fHnd, List.isEmpty_nil, List.filter_cons, List.filter_nil, Value.category, csum, List.map_cons, List.map_nil, List.sum_cons, List.sum_nil, List.cons_append, List.nil_append, Option.toList, vp_nar_int, narrow_b1, narrow_b0, nc115, vc115, fc115, nc111, vc111, fc111, nc100, vc100, fc100, nc109, vc109, fc109, nc120, vc120, fc120, nc119, vc119, fc119, nc116, vc116, fc116, nc45, vc45, fc45, nc32, vc32, fc32, nc102, vc102, fc102, nc106, vc106, fc106, fin3, rf_some, rf_none, upd_ap, va_up_ap, nar_bi, fits_bi, nvp_bi, bi_t, bi_f, fval, fty, ftabs, wrv_0, wrv_1, wrv_2, wrv_3, wrv_5, mT_stI, mI_stI, mL_stI, mD_stI, mR_stI, mN_stI, mS_stI, mT_stL, mI_stL, mL_stL, mD_stL, mR_stL, mN_stL, mS_stL, mT_stD, mI_stD, mL_stD, mD_stD, mR_stD, mN_stD, mS_stD, mT_stR, mI_stR, mL_stR, mD_stR, mR_stR, mN_stR, mS_stR, mT_stN, mI_stN, mL_stN, mD_stN, mR_stN, mN_stN, mS_stN, e28_0, e28_1, e28_4, e28_5, e28_7, e28_9, e28_12, e28_13, e28_15, e28_17, e28_20, e28_21, e28_22, e28_24, e28_27, e28_28, e28_29, e28_31, e28_34, e28_35, e28_36, e28_39, e28_40, e28_41, e28_44, e28_45, e28_48, e28_49, e28_52, rt28, hn28, t0, sh5 f5, stI_stI, cl169, h169]
theorem s28_s {p : Nat} {r c : Int32} {M : AMem} {Q : AR → Prop} (ht : mT M p = (6, 0)) : CaP 28 [.ref p, .int r, .int c] M Q = EvP 28 4 [(0, .ref p), (1, .int r), (2, .int c)] [] M Q := by
  unfold CaP
  simp [lv_args, sStep, amStep, a_nx, a_ii, a_jj, a_ji, a_ld, a_st, a_if, a_ald, a_c1, a_c2, lkp, lput, lput2, lins, oP_none, oP_next, oP_call, oP_ret, oP_thr, outP_ite, aft_ret, aft_void, aft_thr, fHnd, List.isEmpty_nil, List.filter_cons, List.filter_nil, Value.category, csum, List.map_cons, List.map_nil, List.sum_cons, List.sum_nil, List.cons_append, List.nil_append, Option.toList, vp_nar_int, narrow_b1, narrow_b0, nc115, vc115, fc115, nc111, vc111, fc111, nc100, vc100, fc100, nc109, vc109, fc109, nc120, vc120, fc120, nc119, vc119, fc119, nc116, vc116, fc116, nc45, vc45, fc45, nc32, vc32, fc32, nc102, vc102, fc102, nc106, vc106, fc106, fin3, rf_some, rf_none, upd_ap, va_up_ap, nar_bi, fits_bi, nvp_bi, bi_t, bi_f, fval, fty, ftabs, wrv_0, wrv_1, wrv_2, wrv_3, wrv_5, mT_stI, mI_stI, mL_stI, mD_stI, mR_stI, mN_stI, mS_stI, mT_stL, mI_stL, mL_stL, mD_stL, mR_stL, mN_stL, mS_stL, mT_stD, mI_stD, mL_stD, mD_stD, mR_stD, mN_stD, mS_stD, mT_stR, mI_stR, mL_stR, mD_stR, mR_stR, mN_stR, mS_stR, mT_stN, mI_stN, mL_stN, mD_stN, mR_stN, mN_stN, mS_stN, e28_0, e28_1, e28_5, e28_7, e28_9, e28_12, e28_13, e28_15, e28_17, e28_20, e28_21, e28_22, e28_24, e28_27, e28_28, e28_29, e28_31, e28_34, e28_35, e28_36, e28_39, e28_40, e28_41, e28_44, e28_45, e28_48, e28_49, e28_52, rt28, hn28]
theorem sp28 {p : Nat} {r c : Int32} {M : AMem} {Q : AR → Prop} (hN : mN M = p + 1) (ht : mT M p = (6, 0)) : CaP 28 [.ref p, .int r, .int c] M Q = Q (shC M p r c, .inl none) := by
  obtain ⟨f1, f2, f3, f4, f5, f6⟩ := shC4_f hN ht
  have n1 : mN (sg M p 100 54 2) = p + 2 := by rw [sg_N, hN]
  have n2 : mN (sg (sg M p 100 54 2) p 100 54 3) = p + 3 := by rw [sg_N, n1]
  have n3 : mN (sg (sg (sg M p 100 54 2) p 100 54 3) p 100 4 4) = p + 4 := by rw [sg_N, n2]
  have t1 : mT (sg M p 100 54 2) p = (6, 0) := by rw [sg_T, if_neg (by omega), ht]
  have t2 : mT (sg (sg M p 100 54 2) p 100 54 3) p = (6, 0) := by rw [sg_T, if_neg (by omega), t1]
  have t3 : mT (sg (sg (sg M p 100 54 2) p 100 54 3) p 100 4 4) p = (6, 0) := by rw [sg_T, if_neg (by omega), t2]
  refine (s28_s ht).trans ((s28_0 ht (by omega)).trans ((s28_1 t1 (by omega)).trans ((s28_2 t2 (by omega)).trans ((s28_3 t3 (by omega)).trans ?_))))
  exact s28_4 (X := shC4 M p) f5
