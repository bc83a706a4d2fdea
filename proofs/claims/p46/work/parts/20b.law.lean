/-! ===== the law: places, puts, lay, counts ===== -/
/-- the sheet's cards and their counts, consistent -/
def CI (n : Nat) (P T : Nat → Int32) : Prop := (∀ j, j < 54 → isCN (P j)) ∧ (∀ j, n ≤ j → j < 54 → P j = -1) ∧ ∀ c, c < 54 → T c = nI (cnt P c 54)
theorem add_l {a n : Nat} {x : Int32} (hx : x = nI a) : x + nI n = nI (n + a) := by rw [hx, nI_add, Nat.add_comm]
section LC
variable {b B L R C : Nat} {xs : Nat → Int32} {M : AMem} {Q : AR → Prop} {o P T r u pl mk : Nat → Int32}
/-- what the law has after its array of places is made -/
def LPp (b B L : Nat) (xs : Nat → Int32) (R C : Nat) (o P T r u pl mk F : Nat → Int32) (N S : Nat) (M : AMem) : Prop := LB b B L xs R C o P T r u pl mk M ∧ mN M = N ∧ mS M ≤ S ∧ mT M (B + 25) = (100, R * C) ∧ ∀ j, j < R * C → mI M (B + 25) j = F j
theorem LB_pt {P' T' : Nat → Int32} (h : LB b B L xs R C o P T r u pl mk M) (hb : b < B) : LB b B L xs R C o P' T' r u pl mk (stI (stI M (B + 16) P') (B + 17) T') := by
  refine ⟨SF_I (SF_I h.1 (by omega) (by omega) (by omega) (by omega) (by omega)) (by omega) (by omega) (by omega) (by omega) (by omega), ?_⟩
  obtain ⟨g1, g2, g3, g4, g5, g6, g7⟩ := h.2
  refine ⟨?_, ?_, ?_, ?_, ?_, ?_, ?_⟩
  · rw [mI_stI, va_up_ap, if_neg (by omega), mI_stI, va_up_ap, if_neg (by omega)]; exact g1
  · rw [mI_stI, va_up_ap, if_neg (by omega), mI_stI, va_up_ap, if_neg (by omega)]; exact g2
  · rw [mI_stI, va_up_ap, if_neg (by omega), mI_stI, va_up_ap, if_neg (by omega)]; exact g3
  · rw [mI_stI, va_up_ap, if_neg (by omega), mI_stI, va_up_ap, if_pos rfl]
  · rw [mI_stI, va_up_ap, if_pos rfl]
  · rw [mI_stI, va_up_ap, if_neg (by omega), mI_stI, va_up_ap, if_neg (by omega)]; exact g6
  · rw [mI_stI, va_up_ap, if_neg (by omega), mI_stI, va_up_ap, if_neg (by omega)]; exact g7
theorem segB (hb : b < B) (h6 : R ≤ 6) (h9 : C ≤ 9) (h : LB b B L xs R C o P T r u pl mk M) (hN : mN M = B + 25) (k : ∀ M', LPp b B L xs R C o P T r u pl mk (fun _ => -1) (B + 26) (mS M + 54) M' → EvP 190 156 [(0, .ref b), (1, .ref B), (2, .int (nI R)), (3, .int (nI C)), (4, .int 1), (5, .ref (B + 25))] [] M' Q) :
    EvP 190 126 [(0, .ref b), (1, .ref B), (2, .int (nI R)), (3, .int (nI C)), (4, .int 1)] [] M Q := by
  have hRC54 : R * C ≤ 54 := Nat.le_trans (Nat.mul_le_mul h6 h9) (by decide)
  have hRC : nI R * nI C = nI (R * C) := pk_mul R C
  have A1 : EvP 190 126 [(0, .ref b), (1, .ref B), (2, .int (nI R)), (3, .int (nI C)), (4, .int 1)] [] M Q = EvP 190 136 [(0, .ref b), (1, .ref B), (2, .int (nI R)), (3, .int (nI C)), (4, .int 1), (5, .ref (B + 25)), (6, .int 0)] [] (stN M 100 (R * C) (R * C)) Q := by
    simp [lv_args, sStep, amStep, a_nx, a_ii, a_jj, a_ji, a_ld, a_st, a_if, a_ald, a_c1, a_c2, lkp, lput, lput2, lins, oP_none, oP_next, oP_call, oP_ret, oP_thr, outP_ite, aft_ret, aft_void, aft_thr, fHnd, List.isEmpty_nil, List.filter_cons, List.filter_nil, Value.category, csum, List.map_cons, List.map_nil, List.sum_cons, List.sum_nil, List.cons_append, List.nil_append, Option.toList, vp_nar_int, narrow_b1, narrow_b0, nc115, vc115, fc115, nc111, vc111, fc111, nc100, vc100, fc100, nc109, vc109, fc109, nc120, vc120, fc120, nc119, vc119, fc119, nc116, vc116, fc116, nc45, vc45, fc45, nc32, vc32, fc32, nc102, vc102, fc102, nc106, vc106, fc106, fin3, rf_some, rf_none, upd_ap, va_up_ap, nar_bi, fits_bi, nvp_bi, bi_t, bi_f, fval, fty, ftabs, wrv_0, wrv_1, wrv_2, wrv_3, wrv_5, mT_stI, mI_stI, mL_stI, mD_stI, mR_stI, mN_stI, mS_stI, mT_stL, mI_stL, mL_stL, mD_stL, mR_stL, mN_stL, mS_stL, mT_stD, mI_stD, mL_stD, mD_stD, mR_stD, mN_stD, mS_stD, mT_stR, mI_stR, mL_stR, mD_stR, mR_stR, mN_stR, mS_stR, mT_stN, mI_stN, mL_stN, mD_stN, mR_stN, mN_stN, mS_stN, e190_126, e190_127, e190_128, e190_129, e190_131, e190_133, e190_134, rt190, hn190, nI_a1, hRC, inb_nI (show R * C < 1001 by omega), nI_clamp (show R * C < 2 ^ 31 by omega), atc, hN]
  rw [A1]
  refine loopK (m := 190) (pc := 136) (Q := Q) (R * C) (fun k => [(0, .ref b), (1, .ref B), (2, .int (nI R)), (3, .int (nI C)), (4, .int 1), (5, .ref (B + 25)), (6, .int (nI k))]) (fun k M' => LB b B L xs R C o P T r u pl mk M' ∧ mN M' = B + 26 ∧ mS M' ≤ mS M + 54 ∧ mT M' (B + 25) = (100, R * C) ∧ ∀ j, j < k → mI M' (B + 25) j = -1) (fun k hk M' hI kk => ?_) (fun M' hI => ?_) _ ?_
  · obtain ⟨i1, i2, i3, i4, i5⟩ := hI
    rw [e190_136]
    simp [lv_args, sStep, amStep, a_nx, a_ii, a_jj, a_ji, a_ld, a_st, a_if, a_ald, a_c1, a_c2, lkp, lput, lput2, lins, oP_none, oP_next, oP_call, oP_ret, oP_thr, outP_ite, aft_ret, aft_void, aft_thr, fHnd, List.isEmpty_nil, List.filter_cons, List.filter_nil, Value.category, csum, List.map_cons, List.map_nil, List.sum_cons, List.sum_nil, List.cons_append, List.nil_append, Option.toList, vp_nar_int, narrow_b1, narrow_b0, nc115, vc115, fc115, nc111, vc111, fc111, nc100, vc100, fc100, nc109, vc109, fc109, nc120, vc120, fc120, nc119, vc119, fc119, nc116, vc116, fc116, nc45, vc45, fc45, nc32, vc32, fc32, nc102, vc102, fc102, nc106, vc106, fc106, fin3, rf_some, rf_none, upd_ap, va_up_ap, nar_bi, fits_bi, nvp_bi, bi_t, bi_f, fval, fty, ftabs, wrv_0, wrv_1, wrv_2, wrv_3, wrv_5, mT_stI, mI_stI, mL_stI, mD_stI, mR_stI, mN_stI, mS_stI, mT_stL, mI_stL, mL_stL, mD_stL, mR_stL, mN_stL, mS_stL, mT_stD, mI_stD, mL_stD, mD_stD, mR_stD, mN_stD, mS_stD, mT_stR, mI_stR, mL_stR, mD_stR, mR_stR, mN_stR, mS_stR, mT_stN, mI_stN, mL_stN, mD_stN, mR_stN, mN_stN, mS_stN, e190_138, e190_139, e190_140, e190_141, e190_144, e190_146, e190_148, e190_149, e190_150, e190_153, rt190, hn190, nI_a1, hRC, nI_ge hk (show R * C < 2 ^ 31 by omega), i4, inb_nI hk (show R * C < 2 ^ 31 by omega), nI_clamp (show k < 2 ^ 31 by omega), nI_1]
    refine kk _ ⟨LB_h (a := B + 25) i1 hb (by omega), i2, i3, i4, fun j hj => ?_⟩
    rw [mI_stI, va_up_ap, if_pos rfl, upd_ap]
    by_cases e : j = k
    · rw [if_pos e]
    · rw [if_neg e]; exact i5 j (by omega)
  · rw [e190_136]
    simp [lv_args, sStep, amStep, a_nx, a_ii, a_jj, a_ji, a_ld, a_st, a_if, a_ald, a_c1, a_c2, lkp, lput, lput2, lins, oP_none, oP_next, oP_call, oP_ret, oP_thr, outP_ite, aft_ret, aft_void, aft_thr, fHnd, List.isEmpty_nil, List.filter_cons, List.filter_nil, Value.category, csum, List.map_cons, List.map_nil, List.sum_cons, List.sum_nil, List.cons_append, List.nil_append, Option.toList, vp_nar_int, narrow_b1, narrow_b0, nc115, vc115, fc115, nc111, vc111, fc111, nc100, vc100, fc100, nc109, vc109, fc109, nc120, vc120, fc120, nc119, vc119, fc119, nc116, vc116, fc116, nc45, vc45, fc45, nc32, vc32, fc32, nc102, vc102, fc102, nc106, vc106, fc106, fin3, rf_some, rf_none, upd_ap, va_up_ap, nar_bi, fits_bi, nvp_bi, bi_t, bi_f, fval, fty, ftabs, wrv_0, wrv_1, wrv_2, wrv_3, wrv_5, mT_stI, mI_stI, mL_stI, mD_stI, mR_stI, mN_stI, mS_stI, mT_stL, mI_stL, mL_stL, mD_stL, mR_stL, mN_stL, mS_stL, mT_stD, mI_stD, mL_stD, mD_stD, mR_stD, mN_stD, mS_stD, mT_stR, mI_stR, mL_stR, mD_stR, mR_stR, mN_stR, mS_stR, mT_stN, mI_stN, mL_stN, mD_stN, mR_stN, mN_stN, mS_stN, e190_138, e190_139, e190_140, e190_141, e190_144, e190_146, e190_148, e190_149, e190_150, e190_153, rt190, hn190, nI_a1, hRC, Int32.le_refl]
    exact EvP_drop [(0, .ref b), (1, .ref B), (2, .int (nI R)), (3, .int (nI C)), (4, .int 1), (5, .ref (B + 25))] (by simp [gdL]) (by simp) (k M' hI)
  · refine ⟨LB_N h hb, by rw [mN_stN, hN], by rw [mS_stN]; omega, by rw [mT_stN, va_up_ap, if_pos hN.symm], fun j hj => absurd hj (Nat.not_lt_zero j)⟩
theorem segC {S : Nat} (hb : b < B) (hL : L ≤ 260) (h1 : 1 ≤ R) (h6 : R ≤ 6) (h2 : 1 ≤ C) (h9 : C ≤ 9) (hC : CI (R * C) P T) (h : LPp b B L xs R C o P T r u pl mk P (B + 26) S M) (k : ∀ P' T' M', CI (R * C) P' T' → LPp b B L xs R C o P' T' r u pl mk P' (B + 26) S M' → EvP 190 241 [(0, .ref b), (1, .ref B), (2, .int (nI R)), (3, .int (nI C)), (4, .int 1), (5, .ref (B + 25))] [] M' Q) :
    EvP 190 156 [(0, .ref b), (1, .ref B), (2, .int (nI R)), (3, .int (nI C)), (4, .int 1), (5, .ref (B + 25))] [] M Q := by
  have hRC54 : R * C ≤ 54 := Nat.le_trans (Nat.mul_le_mul h6 h9) (by decide)
  have hRC1 : 1 ≤ R * C := Nat.mul_le_mul h1 h2
  have hRC : nI R * nI C = nI (R * C) := pk_mul R C
  have hC0 : ¬ nI C = 0 := nI_ne0 h2 (by omega)
  have A1 : EvP 190 156 [(0, .ref b), (1, .ref B), (2, .int (nI R)), (3, .int (nI C)), (4, .int 1), (5, .ref (B + 25))] [] M Q = EvP 190 159 [(0, .ref b), (1, .ref B), (2, .int (nI R)), (3, .int (nI C)), (4, .int 1), (5, .ref (B + 25)), (6, .int 0)] [] M Q := by
    simp [lv_args, sStep, amStep, a_nx, a_ii, a_jj, a_ji, a_ld, a_st, a_if, a_ald, a_c1, a_c2, lkp, lput, lput2, lins, oP_none, oP_next, oP_call, oP_ret, oP_thr, outP_ite, aft_ret, aft_void, aft_thr, fHnd, List.isEmpty_nil, List.filter_cons, List.filter_nil, Value.category, csum, List.map_cons, List.map_nil, List.sum_cons, List.sum_nil, List.cons_append, List.nil_append, Option.toList, vp_nar_int, narrow_b1, narrow_b0, nc115, vc115, fc115, nc111, vc111, fc111, nc100, vc100, fc100, nc109, vc109, fc109, nc120, vc120, fc120, nc119, vc119, fc119, nc116, vc116, fc116, nc45, vc45, fc45, nc32, vc32, fc32, nc102, vc102, fc102, nc106, vc106, fc106, fin3, rf_some, rf_none, upd_ap, va_up_ap, nar_bi, fits_bi, nvp_bi, bi_t, bi_f, fval, fty, ftabs, wrv_0, wrv_1, wrv_2, wrv_3, wrv_5, mT_stI, mI_stI, mL_stI, mD_stI, mR_stI, mN_stI, mS_stI, mT_stL, mI_stL, mL_stL, mD_stL, mR_stL, mN_stL, mS_stL, mT_stD, mI_stD, mL_stD, mD_stD, mR_stD, mN_stD, mS_stD, mT_stR, mI_stR, mL_stR, mD_stR, mR_stR, mN_stR, mS_stR, mT_stN, mI_stN, mL_stN, mD_stN, mR_stN, mN_stN, mS_stN, e190_156, e190_157, rt190, hn190, nI_a1]
  rw [A1]
  refine loopK (m := 190) (pc := 159) (Q := Q) 8 (fun n => [(0, .ref b), (1, .ref B), (2, .int (nI R)), (3, .int (nI C)), (4, .int 1), (5, .ref (B + 25)), (6, .int (nI n))]) (fun n M' => ∃ P' T', CI (R * C) P' T' ∧ LPp b B L xs R C o P' T' r u pl mk P' (B + 26) S M') (fun n hn M' hI kk => ?_) (fun M' hI => ?_) _ ⟨P, T, hC, h⟩
  · obtain ⟨P', T', ⟨c1, c2, c3⟩, i1, i2, i3, i4, i5⟩ := hI
    obtain ⟨⟨w, -, hb1, hb2, hR', hC', -⟩, -, -, -, hP', hT', -⟩ := id i1
    have n8 : ¬ (8 : Int32) ≤ nI n := nI_ge (b := 8) hn (by decide)
    have a10 : (10 : Int32) + nI n = nI (n + 10) := add_l rfl
    have a20 : (20 : Int32) + nI n = nI (n + 20) := add_l rfl
    obtain ⟨z, hz, r1⟩ : ∃ z, z < R * C ∧ ∀ Q, CaP 189 [.ref b, .int (nI (n + 10)), .int (nI (R * C))] M' Q = Q (M', .inl (some (.int (nI z)))) := ⟨_, inN_lt hRC1, fun Q => sp189 (i := n + 10) (n := R * C) hb1 (by omega) (by omega) hRC1 (by omega)⟩
    obtain ⟨y, hy, r2⟩ : ∃ y, y < 55 ∧ ∀ Q, CaP 189 [.ref b, .int (nI (n + 20)), .int 55] M' Q = Q (M', .inl (some (.int (nI y)))) := ⟨_, inN_lt (by decide), fun Q => sp189 (i := n + 20) (n := 55) hb1 (by omega) (by omega) (by decide) (by decide)⟩
    obtain ⟨x, hxe, hx⟩ : ∃ x, nI y - 1 = x ∧ isCN x := by
      refine ⟨_, rfl, ?_⟩
      rcases Nat.eq_zero_or_pos y with e | e
      · subst e; exact Or.inl rfl
      · exact Or.inr ⟨y - 1, by omega, nI_pred1 e⟩
    have hzr : z / C < R := Nat.div_lt_of_lt_mul (by rw [Nat.mul_comm]; exact hz)
    have hzc : z % C < C := Nat.mod_lt _ h2
    have hzz : C * (z / C) + z % C = z := Nat.div_add_mod z C
    have d1 : nI z / nI C = nI (z / C) := pk_div (by omega) h2 (by omega)
    have d2 : nI z - nI (z / C) * nI C = nI (z % C) := by rw [← d1]; exact pk_rem (by omega) h2 (by omega)
    obtain ⟨M2, hM2, p3⟩ : ∃ M2, M2 = stI (stI M' (B + 16) (upd P' z x)) (B + 17) (tmF T' (P' z) x) ∧ ∀ Q, CaP 172 [.ref B, .int 0, .int (nI (z / C)), .int (nI (z % C)), .int x] M' Q = Q (M2, .inl (some (.int (P' z)))) := by
      refine ⟨_, rfl, fun Q => ?_⟩
      have := @w172_ok B 0 (nI (z / C)) (nI (z % C)) x _ M' _ Q w.1 (fun Q => d45 w hR' hC' h6 h9 hzr hzc (by rw [hP']; exact c1) hx)
      rw [hzz, hP', hT'] at this
      exact this
    have q1 : LB b B L xs R C o (upd P' z x) (tmF T' (P' z) x) r u pl mk M2 := by rw [hM2]; exact LB_pt i1 hb
    have q2 : mT M2 (B + 25) = (100, R * C) := by rw [hM2, mT_stI, mT_stI]; exact i4
    have q3 : mI M2 (B + 25) = mI M' (B + 25) := by rw [hM2, mI_stI, va_up_ap, if_neg (by omega), mI_stI, va_up_ap, if_neg (by omega)]
    have q4 : mN M2 = B + 26 := by rw [hM2, mN_stI, mN_stI]; exact i2
    have q5 : mS M2 ≤ S := by rw [hM2, mS_stI, mS_stI]; exact i3
    have q6 : mI M2 (B + 25) z = P' z := by rw [q3]; exact i5 z hz
    rw [e190_159]
    simp [lv_args, sStep, amStep, a_nx, a_ii, a_jj, a_ji, a_ld, a_st, a_if, a_ald, a_c1, a_c2, lkp, lput, lput2, lins, oP_none, oP_next, oP_call, oP_ret, oP_thr, outP_ite, aft_ret, aft_void, aft_thr, fHnd, List.isEmpty_nil, List.filter_cons, List.filter_nil, Value.category, csum, List.map_cons, List.map_nil, List.sum_cons, List.sum_nil, List.cons_append, List.nil_append, Option.toList, vp_nar_int, narrow_b1, narrow_b0, nc115, vc115, fc115, nc111, vc111, fc111, nc100, vc100, fc100, nc109, vc109, fc109, nc120, vc120, fc120, nc119, vc119, fc119, nc116, vc116, fc116, nc45, vc45, fc45, nc32, vc32, fc32, nc102, vc102, fc102, nc106, vc106, fc106, fin3, rf_some, rf_none, upd_ap, va_up_ap, nar_bi, fits_bi, nvp_bi, bi_t, bi_f, fval, fty, ftabs, wrv_0, wrv_1, wrv_2, wrv_3, wrv_5, mT_stI, mI_stI, mL_stI, mD_stI, mR_stI, mN_stI, mS_stI, mT_stL, mI_stL, mL_stL, mD_stL, mR_stL, mN_stL, mS_stL, mT_stD, mI_stD, mL_stD, mD_stD, mR_stD, mN_stD, mS_stD, mT_stR, mI_stR, mL_stR, mD_stR, mR_stR, mN_stR, mS_stR, mT_stN, mI_stN, mL_stN, mD_stN, mR_stN, mN_stN, mS_stN, e190_161, e190_163, e190_166, e190_167, e190_169, e190_171, e190_172, e190_173, e190_174, e190_175, e190_178, e190_180, e190_181, e190_183, e190_185, e190_186, e190_188, e190_191, e190_192, e190_193, e190_195, e190_197, e190_198, e190_199, e190_201, e190_202, e190_203, e190_205, e190_206, e190_207, e190_209, e190_212, e190_214, e190_216, e190_217, e190_220, e190_221, e190_224, e190_225, e190_226, e190_228, e190_230, e190_232, e190_234, e190_235, e190_238, rt190, hn190, nI_a1, n8, a10, a20, hRC, cl189, r1, r2, hxe, hC0, d1, d2, cl172, p3, q2, inb_nI hz (show R * C < 2 ^ 31 by omega), nI_clamp (show z < 2 ^ 31 by omega), q6, nI_1]
    refine EvP_drop [(0, .ref b), (1, .ref B), (2, .int (nI R)), (3, .int (nI C)), (4, .int 1), (5, .ref (B + 25)), (6, .int (nI (n + 1)))] (by simp [gdL]) (by simp) (kk _ ⟨upd P' z x, tmF T' (P' z) x, ⟨fun j hj => ?_, fun j hj hj2 => ?_, fun c hc => ?_⟩, LB_h (a := B + 25) q1 hb (by omega), by rw [mN_stI]; exact q4, by rw [mS_stI]; exact q5, by rw [mT_stI]; exact q2, fun j hj => ?_⟩)
    · rw [upd_ap]
      by_cases e : j = z
      · rw [if_pos e]; exact hx
      · rw [if_neg e]; exact c1 j hj
    · rw [upd_ap, if_neg (by omega)]; exact c2 j hj hj2
    · exact tm_cnt (by omega) c3 (c1 z (by omega)) hx hc
    · rw [mI_stI, va_up_ap, if_pos rfl, upd_ap, upd_ap, q3]
      by_cases e : j = z
      · rw [if_pos e, if_pos e]
      · rw [if_neg e, if_neg e]; exact i5 j hj
  · obtain ⟨P', T', hCI, hLP⟩ := hI
    rw [e190_159]
    have n8 : (8 : Int32) ≤ nI 8 := Int32.le_refl 8
    simp [lv_args, sStep, amStep, a_nx, a_ii, a_jj, a_ji, a_ld, a_st, a_if, a_ald, a_c1, a_c2, lkp, lput, lput2, lins, oP_none, oP_next, oP_call, oP_ret, oP_thr, outP_ite, aft_ret, aft_void, aft_thr, fHnd, List.isEmpty_nil, List.filter_cons, List.filter_nil, Value.category, csum, List.map_cons, List.map_nil, List.sum_cons, List.sum_nil, List.cons_append, List.nil_append, Option.toList, vp_nar_int, narrow_b1, narrow_b0, nc115, vc115, fc115, nc111, vc111, fc111, nc100, vc100, fc100, nc109, vc109, fc109, nc120, vc120, fc120, nc119, vc119, fc119, nc116, vc116, fc116, nc45, vc45, fc45, nc32, vc32, fc32, nc102, vc102, fc102, nc106, vc106, fc106, fin3, rf_some, rf_none, upd_ap, va_up_ap, nar_bi, fits_bi, nvp_bi, bi_t, bi_f, fval, fty, ftabs, wrv_0, wrv_1, wrv_2, wrv_3, wrv_5, mT_stI, mI_stI, mL_stI, mD_stI, mR_stI, mN_stI, mS_stI, mT_stL, mI_stL, mL_stL, mD_stL, mR_stL, mN_stL, mS_stL, mT_stD, mI_stD, mL_stD, mD_stD, mR_stD, mN_stD, mS_stD, mT_stR, mI_stR, mL_stR, mD_stR, mR_stR, mN_stR, mS_stR, mT_stN, mI_stN, mL_stN, mD_stN, mR_stN, mN_stN, mS_stN, e190_161, e190_163, e190_166, e190_167, e190_169, e190_171, e190_172, e190_173, e190_174, e190_175, e190_178, e190_180, e190_181, e190_183, e190_185, e190_186, e190_188, e190_191, e190_192, e190_193, e190_195, e190_197, e190_198, e190_199, e190_201, e190_202, e190_203, e190_205, e190_206, e190_207, e190_209, e190_212, e190_214, e190_216, e190_217, e190_220, e190_221, e190_224, e190_225, e190_226, e190_228, e190_230, e190_232, e190_234, e190_235, e190_238, rt190, hn190, nI_a1, n8]
    exact EvP_drop [(0, .ref b), (1, .ref B), (2, .int (nI R)), (3, .int (nI C)), (4, .int 1), (5, .ref (B + 25))] (by simp [gdL]) (by simp) (k P' T' M' hCI hLP)
theorem segD {S : Nat} (hb : b < B) (hL : L ≤ 260) (h1 : 1 ≤ R) (h6 : R ≤ 6) (h2 : 1 ≤ C) (h9 : C ≤ 9) (hC : CI (R * C) P T) (h : LPp b B L xs R C o P T r u pl mk P (B + 26) S M) (k : ∀ P' T' M', CI (R * C) P' T' → LPp b B L xs R C o P' T' r u pl mk P' (B + 26) S M' → EvP 190 325 [(0, .ref b), (1, .ref B), (2, .int (nI R)), (3, .int (nI C)), (4, .int 1), (5, .ref (B + 25))] [] M' Q) :
    EvP 190 241 [(0, .ref b), (1, .ref B), (2, .int (nI R)), (3, .int (nI C)), (4, .int 1), (5, .ref (B + 25))] [] M Q := by
  have hRC54 : R * C ≤ 54 := Nat.le_trans (Nat.mul_le_mul h6 h9) (by decide)
  have hRC : nI R * nI C = nI (R * C) := pk_mul R C
  have hS := h.1.1
  obtain ⟨v, hv, r1⟩ : ∃ v, v < 2 ∧ ∀ Q, CaP 189 [.ref b, .int 2, .int 2] M Q = Q (M, .inl (some (.int (nI v)))) := ⟨_, inN_lt (by decide), fun Q => sp189 (i := 2) (n := 2) hS.2.2.1 (by omega) (by decide) (by decide) (by decide)⟩
  obtain ⟨c, hc, r2⟩ : ∃ c, c < 54 ∧ ∀ Q, CaP 189 [.ref b, .int 3, .int 54] M Q = Q (M, .inl (some (.int (nI c)))) := ⟨_, inN_lt (by decide), fun Q => sp189 (i := 3) (n := 54) hS.2.2.1 (by omega) (by decide) (by decide) (by decide)⟩
  by_cases hv0 : v = 0
  · subst hv0
    have A1 : EvP 190 241 [(0, .ref b), (1, .ref B), (2, .int (nI R)), (3, .int (nI C)), (4, .int 1), (5, .ref (B + 25))] [] M Q = EvP 190 265 [(0, .ref b), (1, .ref B), (2, .int (nI R)), (3, .int (nI C)), (4, .int 1), (5, .ref (B + 25)), (6, .int (nI c)), (7, .int 0), (8, .int 0)] [] M Q := by
      simp [lv_args, sStep, amStep, a_nx, a_ii, a_jj, a_ji, a_ld, a_st, a_if, a_ald, a_c1, a_c2, lkp, lput, lput2, lins, oP_none, oP_next, oP_call, oP_ret, oP_thr, outP_ite, aft_ret, aft_void, aft_thr, fHnd, List.isEmpty_nil, List.filter_cons, List.filter_nil, Value.category, csum, List.map_cons, List.map_nil, List.sum_cons, List.sum_nil, List.cons_append, List.nil_append, Option.toList, vp_nar_int, narrow_b1, narrow_b0, nc115, vc115, fc115, nc111, vc111, fc111, nc100, vc100, fc100, nc109, vc109, fc109, nc120, vc120, fc120, nc119, vc119, fc119, nc116, vc116, fc116, nc45, vc45, fc45, nc32, vc32, fc32, nc102, vc102, fc102, nc106, vc106, fc106, fin3, rf_some, rf_none, upd_ap, va_up_ap, nar_bi, fits_bi, nvp_bi, bi_t, bi_f, fval, fty, ftabs, wrv_0, wrv_1, wrv_2, wrv_3, wrv_5, mT_stI, mI_stI, mL_stI, mD_stI, mR_stI, mN_stI, mS_stI, mT_stL, mI_stL, mL_stL, mD_stL, mR_stL, mN_stL, mS_stL, mT_stD, mI_stD, mL_stD, mD_stD, mR_stD, mN_stD, mS_stD, mT_stR, mI_stR, mL_stR, mD_stR, mR_stR, mN_stR, mS_stR, mT_stN, mI_stN, mL_stN, mD_stN, mR_stN, mN_stN, mS_stN, e190_241, e190_242, e190_243, e190_244, e190_247, e190_250, e190_251, e190_252, e190_254, e190_257, e190_259, e190_260, e190_262, e190_263, rt190, hn190, nI_a1, cl189, r1, r2, nI_0]
    rw [A1]
    refine loopK (m := 190) (pc := 265) (Q := Q) (R * C) (fun n => [(0, .ref b), (1, .ref B), (2, .int (nI R)), (3, .int (nI C)), (4, .int 1), (5, .ref (B + 25)), (6, .int (nI c)), (7, .int (nI (layF P 0 (nI c) n).2)), (8, .int (nI n))]) (fun n M' => LPp b B L xs R C o P T r u pl mk (layF P 0 (nI c) n).1 (B + 26) S M') (fun n hn M' hI kk => ?_) (fun M' hI => ?_) _ h
    · obtain ⟨i1, i2, i3, i4, i5⟩ := hI
      have hPn : mI M' (B + 25) n = P n := by rw [i5 n hn]; exact layF_hi0 (Nat.le_refl n)
      have hlay : layF P 0 (nI c) (n + 1) = if P n = -1 then (upd (layF P 0 (nI c) n).1 n (rem54 (nI c + nI (layF P 0 (nI c) n).2)), (layF P 0 (nI c) n).2 + 1) else layF P 0 (nI c) n := by
        show (if P (0 + n) = -1 then (upd (layF P 0 (nI c) n).1 (0 + n) _, _) else _) = _
        rw [Nat.zero_add]
      rw [e190_265]
      rcases hC.1 n (by omega) with hp | ⟨d, hd, hp⟩
      · rw [if_pos hp] at hlay
        have er : ∀ z : Int32, z - z / 54 * 54 = rem54 z := fun _ => rfl
        rw [hp] at hPn
        simp [lv_args, sStep, amStep, a_nx, a_ii, a_jj, a_ji, a_ld, a_st, a_if, a_ald, a_c1, a_c2, lkp, lput, lput2, lins, oP_none, oP_next, oP_call, oP_ret, oP_thr, outP_ite, aft_ret, aft_void, aft_thr, fHnd, List.isEmpty_nil, List.filter_cons, List.filter_nil, Value.category, csum, List.map_cons, List.map_nil, List.sum_cons, List.sum_nil, List.cons_append, List.nil_append, Option.toList, vp_nar_int, narrow_b1, narrow_b0, nc115, vc115, fc115, nc111, vc111, fc111, nc100, vc100, fc100, nc109, vc109, fc109, nc120, vc120, fc120, nc119, vc119, fc119, nc116, vc116, fc116, nc45, vc45, fc45, nc32, vc32, fc32, nc102, vc102, fc102, nc106, vc106, fc106, fin3, rf_some, rf_none, upd_ap, va_up_ap, nar_bi, fits_bi, nvp_bi, bi_t, bi_f, fval, fty, ftabs, wrv_0, wrv_1, wrv_2, wrv_3, wrv_5, mT_stI, mI_stI, mL_stI, mD_stI, mR_stI, mN_stI, mS_stI, mT_stL, mI_stL, mL_stL, mD_stL, mR_stL, mN_stL, mS_stL, mT_stD, mI_stD, mL_stD, mD_stD, mR_stD, mN_stD, mS_stD, mT_stR, mI_stR, mL_stR, mD_stR, mR_stR, mN_stR, mS_stR, mT_stN, mI_stN, mL_stN, mD_stN, mR_stN, mN_stN, mS_stN, e190_267, e190_268, e190_269, e190_270, e190_273, e190_275, e190_277, e190_278, e190_281, e190_283, e190_285, e190_287, e190_289, e190_290, e190_292, e190_293, e190_294, e190_297, e190_300, rt190, hn190, nI_a1, hRC, nI_ge hn (show R * C < 2 ^ 31 by omega), i4, inb_nI hn (show R * C < 2 ^ 31 by omega), nI_clamp (show n < 2 ^ 31 by omega), hPn, er, nI_1]
        rw [hlay] at kk
        refine kk _ ⟨LB_h (a := B + 25) i1 hb (by omega), i2, i3, i4, fun j hj => ?_⟩
        rw [mI_stI, va_up_ap, if_pos rfl, upd_ap]
        show _ = upd (layF P 0 (nI c) n).1 n _ j
        rw [upd_ap]
        by_cases e : j = n
        · rw [if_pos e, if_pos e]
        · rw [if_neg e, if_neg e]; exact i5 j hj
      · rw [if_neg (by rw [hp]; exact nI_nm1 hd)] at hlay
        rw [hp] at hPn
        simp [lv_args, sStep, amStep, a_nx, a_ii, a_jj, a_ji, a_ld, a_st, a_if, a_ald, a_c1, a_c2, lkp, lput, lput2, lins, oP_none, oP_next, oP_call, oP_ret, oP_thr, outP_ite, aft_ret, aft_void, aft_thr, fHnd, List.isEmpty_nil, List.filter_cons, List.filter_nil, Value.category, csum, List.map_cons, List.map_nil, List.sum_cons, List.sum_nil, List.cons_append, List.nil_append, Option.toList, vp_nar_int, narrow_b1, narrow_b0, nc115, vc115, fc115, nc111, vc111, fc111, nc100, vc100, fc100, nc109, vc109, fc109, nc120, vc120, fc120, nc119, vc119, fc119, nc116, vc116, fc116, nc45, vc45, fc45, nc32, vc32, fc32, nc102, vc102, fc102, nc106, vc106, fc106, fin3, rf_some, rf_none, upd_ap, va_up_ap, nar_bi, fits_bi, nvp_bi, bi_t, bi_f, fval, fty, ftabs, wrv_0, wrv_1, wrv_2, wrv_3, wrv_5, mT_stI, mI_stI, mL_stI, mD_stI, mR_stI, mN_stI, mS_stI, mT_stL, mI_stL, mL_stL, mD_stL, mR_stL, mN_stL, mS_stL, mT_stD, mI_stD, mL_stD, mD_stD, mR_stD, mN_stD, mS_stD, mT_stR, mI_stR, mL_stR, mD_stR, mR_stR, mN_stR, mS_stR, mT_stN, mI_stN, mL_stN, mD_stN, mR_stN, mN_stN, mS_stN, e190_267, e190_268, e190_269, e190_270, e190_273, e190_275, e190_277, e190_278, e190_281, e190_283, e190_285, e190_287, e190_289, e190_290, e190_292, e190_293, e190_294, e190_297, e190_300, rt190, hn190, nI_a1, hRC, nI_ge hn (show R * C < 2 ^ 31 by omega), i4, inb_nI hn (show R * C < 2 ^ 31 by omega), nI_clamp (show n < 2 ^ 31 by omega), hPn, nI_pos' (show d < 2 ^ 31 by omega), nI_1]
        rw [hlay] at kk
        exact kk _ ⟨i1, i2, i3, i4, i5⟩
    · obtain ⟨i1, i2, i3, i4, i5⟩ := hI
      obtain ⟨⟨w, -, -, -, hR', hC', -⟩, -, -, -, hP', hT', -⟩ := id i1
      obtain ⟨t1, t2⟩ := layF_in hc hC.1 hC.2.2 (R * C) hRC54
      obtain ⟨M2, hM2, p3⟩ : ∃ M2, M2 = stI (stI M' (B + 16) (layF P 0 (nI c) (R * C)).1) (B + 17) (tlF P T (nI c) (R * C)) ∧ ∀ Q, CaP 174 [.ref B, .int 0, .int (nI c)] M' Q = Q (M2, .inl (some (.int (nI (layF P 0 (nI c) (R * C)).2)))) := by
        refine ⟨_, rfl, fun Q => ?_⟩
        have := @w174_ok B 0 (nI c) _ M' _ Q w.1 (fun Q => d47 w hR' hC' hRC54 hc (by rw [hP']; exact hC.1))
        rw [hP', hT'] at this
        exact this
      rw [e190_265]
      simp [lv_args, sStep, amStep, a_nx, a_ii, a_jj, a_ji, a_ld, a_st, a_if, a_ald, a_c1, a_c2, lkp, lput, lput2, lins, oP_none, oP_next, oP_call, oP_ret, oP_thr, outP_ite, aft_ret, aft_void, aft_thr, fHnd, List.isEmpty_nil, List.filter_cons, List.filter_nil, Value.category, csum, List.map_cons, List.map_nil, List.sum_cons, List.sum_nil, List.cons_append, List.nil_append, Option.toList, vp_nar_int, narrow_b1, narrow_b0, nc115, vc115, fc115, nc111, vc111, fc111, nc100, vc100, fc100, nc109, vc109, fc109, nc120, vc120, fc120, nc119, vc119, fc119, nc116, vc116, fc116, nc45, vc45, fc45, nc32, vc32, fc32, nc102, vc102, fc102, nc106, vc106, fc106, fin3, rf_some, rf_none, upd_ap, va_up_ap, nar_bi, fits_bi, nvp_bi, bi_t, bi_f, fval, fty, ftabs, wrv_0, wrv_1, wrv_2, wrv_3, wrv_5, mT_stI, mI_stI, mL_stI, mD_stI, mR_stI, mN_stI, mS_stI, mT_stL, mI_stL, mL_stL, mD_stL, mR_stL, mN_stL, mS_stL, mT_stD, mI_stD, mL_stD, mD_stD, mR_stD, mN_stD, mS_stD, mT_stR, mI_stR, mL_stR, mD_stR, mR_stR, mN_stR, mS_stR, mT_stN, mI_stN, mL_stN, mD_stN, mR_stN, mN_stN, mS_stN, e190_267, e190_268, e190_269, e190_270, e190_273, e190_275, e190_277, e190_278, e190_281, e190_283, e190_285, e190_287, e190_289, e190_290, e190_292, e190_293, e190_294, e190_297, e190_300, e190_303, e190_305, e190_306, e190_307, e190_309, e190_312, e190_314, e190_317, e190_318, e190_321, e190_322, e190_323, rt190, hn190, nI_a1, hRC, Int32.le_refl, cl174, p3]
      refine EvP_drop [(0, .ref b), (1, .ref B), (2, .int (nI R)), (3, .int (nI C)), (4, .int 1), (5, .ref (B + 25))] (by simp [gdL]) (by simp) (k (layF P 0 (nI c) (R * C)).1 (tlF P T (nI c) (R * C)) M2 ⟨t1, fun j hj hj2 => ?_, t2⟩ ?_)
      · rw [layF_hi0 hj]; exact hC.2.1 j hj hj2
      · rw [hM2]
        refine ⟨LB_pt i1 hb, by rw [mN_stI, mN_stI]; exact i2, by rw [mS_stI, mS_stI]; exact i3, by rw [mT_stI, mT_stI]; exact i4, fun j hj => ?_⟩
        rw [mI_stI, va_up_ap, if_neg (by omega), mI_stI, va_up_ap, if_neg (by omega)]
        exact i5 j hj
  · have hv1 : v = 1 := by omega
    subst hv1
    have n1 : nI 1 = 1 := rfl
    have A1 : EvP 190 241 [(0, .ref b), (1, .ref B), (2, .int (nI R)), (3, .int (nI C)), (4, .int 1), (5, .ref (B + 25))] [] M Q = EvP 190 325 [(0, .ref b), (1, .ref B), (2, .int (nI R)), (3, .int (nI C)), (4, .int 1), (5, .ref (B + 25))] [] M Q := by
      simp [lv_args, sStep, amStep, a_nx, a_ii, a_jj, a_ji, a_ld, a_st, a_if, a_ald, a_c1, a_c2, lkp, lput, lput2, lins, oP_none, oP_next, oP_call, oP_ret, oP_thr, outP_ite, aft_ret, aft_void, aft_thr, fHnd, List.isEmpty_nil, List.filter_cons, List.filter_nil, Value.category, csum, List.map_cons, List.map_nil, List.sum_cons, List.sum_nil, List.cons_append, List.nil_append, Option.toList, vp_nar_int, narrow_b1, narrow_b0, nc115, vc115, fc115, nc111, vc111, fc111, nc100, vc100, fc100, nc109, vc109, fc109, nc120, vc120, fc120, nc119, vc119, fc119, nc116, vc116, fc116, nc45, vc45, fc45, nc32, vc32, fc32, nc102, vc102, fc102, nc106, vc106, fc106, fin3, rf_some, rf_none, upd_ap, va_up_ap, nar_bi, fits_bi, nvp_bi, bi_t, bi_f, fval, fty, ftabs, wrv_0, wrv_1, wrv_2, wrv_3, wrv_5, mT_stI, mI_stI, mL_stI, mD_stI, mR_stI, mN_stI, mS_stI, mT_stL, mI_stL, mL_stL, mD_stL, mR_stL, mN_stL, mS_stL, mT_stD, mI_stD, mL_stD, mD_stD, mR_stD, mN_stD, mS_stD, mT_stR, mI_stR, mL_stR, mD_stR, mR_stR, mN_stR, mS_stR, mT_stN, mI_stN, mL_stN, mD_stN, mR_stN, mN_stN, mS_stN, e190_241, e190_242, e190_243, e190_244, e190_247, e190_250, e190_251, e190_252, e190_254, e190_257, e190_259, e190_260, e190_262, e190_263, rt190, hn190, nI_a1, cl189, r1, n1]
    rw [A1]
    exact k P T M hC h
/-- .. and of its counts -/
def LQq (b B L : Nat) (xs : Nat → Int32) (R C : Nat) (o P T r u pl mk K : Nat → Int32) (N S : Nat) (M : AMem) : Prop := LB b B L xs R C o P T r u pl mk M ∧ mN M = N ∧ mS M ≤ S ∧ mT M (B + 26) = (100, 54) ∧ ∀ c, c < 54 → mI M (B + 26) c = K c
theorem segE {S : Nat} (hb : b < B) (h6 : R ≤ 6) (h2 : 1 ≤ C) (h9 : C ≤ 9) (hC : CI (R * C) P T) (h : LPp b B L xs R C o P T r u pl mk P (B + 26) S M) (k : ∀ M', LQq b B L xs R C o P T r u pl mk T (B + 27) (S + 54) M' → EvP 190 399 [(0, .ref b), (1, .ref B), (4, .int 1), (6, .ref (B + 26))] [] M' Q) :
    EvP 190 325 [(0, .ref b), (1, .ref B), (2, .int (nI R)), (3, .int (nI C)), (4, .int 1), (5, .ref (B + 25))] [] M Q := by
  have hRC54 : R * C ≤ 54 := Nat.le_trans (Nat.mul_le_mul h6 h9) (by decide)
  have hRC : nI R * nI C = nI (R * C) := pk_mul R C
  have hC0 : ¬ nI C = 0 := nI_ne0 h2 (by omega)
  obtain ⟨g1, g2, g3, g4, g5⟩ := h
  have A1 : EvP 190 325 [(0, .ref b), (1, .ref B), (2, .int (nI R)), (3, .int (nI C)), (4, .int 1), (5, .ref (B + 25))] [] M Q = EvP 190 334 [(0, .ref b), (1, .ref B), (2, .int (nI R)), (3, .int (nI C)), (4, .int 1), (5, .ref (B + 25)), (6, .ref (B + 26)), (7, .int 0)] [] (stN M 100 54 54) Q := by
    simp [lv_args, sStep, amStep, a_nx, a_ii, a_jj, a_ji, a_ld, a_st, a_if, a_ald, a_c1, a_c2, lkp, lput, lput2, lins, oP_none, oP_next, oP_call, oP_ret, oP_thr, outP_ite, aft_ret, aft_void, aft_thr, fHnd, List.isEmpty_nil, List.filter_cons, List.filter_nil, Value.category, csum, List.map_cons, List.map_nil, List.sum_cons, List.sum_nil, List.cons_append, List.nil_append, Option.toList, vp_nar_int, narrow_b1, narrow_b0, nc115, vc115, fc115, nc111, vc111, fc111, nc100, vc100, fc100, nc109, vc109, fc109, nc120, vc120, fc120, nc119, vc119, fc119, nc116, vc116, fc116, nc45, vc45, fc45, nc32, vc32, fc32, nc102, vc102, fc102, nc106, vc106, fc106, fin3, rf_some, rf_none, upd_ap, va_up_ap, nar_bi, fits_bi, nvp_bi, bi_t, bi_f, fval, fty, ftabs, wrv_0, wrv_1, wrv_2, wrv_3, wrv_5, mT_stI, mI_stI, mL_stI, mD_stI, mR_stI, mN_stI, mS_stI, mT_stL, mI_stL, mL_stL, mD_stL, mR_stL, mN_stL, mS_stL, mT_stD, mI_stD, mL_stD, mD_stD, mR_stD, mN_stD, mS_stD, mT_stR, mI_stR, mL_stR, mD_stR, mR_stR, mN_stR, mS_stR, mT_stN, mI_stN, mL_stN, mD_stN, mR_stN, mN_stN, mS_stN, e190_325, e190_327, e190_329, e190_331, e190_332, rt190, hn190, nI_a1, ia54, ic54, atc, g2]
  rw [A1]
  have hP0 : ∀ j, j < 54 → isCN (P j) := hC.1
  refine loopK (m := 190) (pc := 334) (Q := Q) (R * C) (fun n => [(0, .ref b), (1, .ref B), (2, .int (nI R)), (3, .int (nI C)), (4, .int 1), (5, .ref (B + 25)), (6, .ref (B + 26)), (7, .int (nI n))]) (fun n M' => LPp b B L xs R C o P T r u pl mk P (B + 27) (S + 54) M' ∧ mT M' (B + 26) = (100, 54) ∧ ∀ c, c < 54 → mI M' (B + 26) c = nI (cnt P c n)) (fun n hn M' hI kk => ?_) (fun M' hI => ?_) _ ?_
  · obtain ⟨⟨i1, i2, i3, i4, i5⟩, i6, i7⟩ := hI
    obtain ⟨⟨w, -, -, -, hR', hC', -⟩, -, -, -, hP', hT', -⟩ := id i1
    have hzr : n / C < R := Nat.div_lt_of_lt_mul (by rw [Nat.mul_comm]; exact hn)
    have hzc : n % C < C := Nat.mod_lt _ h2
    have hzz : C * (n / C) + n % C = n := Nat.div_add_mod n C
    have d1 : nI n / nI C = nI (n / C) := pk_div (by omega) h2 (by omega)
    have d2 : nI n - nI (n / C) * nI C = nI (n % C) := by rw [← d1]; exact pk_rem (by omega) h2 (by omega)
    have p3 : ∀ Q, CaP 173 [.ref B, .int 0, .int (nI (n / C)), .int (nI (n % C))] M' Q = Q (M', .inl (some (.int (P n)))) := fun Q => by
      have := @w173_ok B 0 (nI (n / C)) (nI (n % C)) _ M' _ Q w.1 (fun Q => d46 w hR' hC' h6 h9 hzr hzc)
      rw [hzz, hP'] at this
      exact this
    have h5n := i5 n hn
    rw [e190_334]
    rcases hP0 n (by omega) with hp | ⟨d, hd, hp⟩
    · rw [hp] at p3 h5n
      simp [lv_args, sStep, amStep, a_nx, a_ii, a_jj, a_ji, a_ld, a_st, a_if, a_ald, a_c1, a_c2, lkp, lput, lput2, lins, oP_none, oP_next, oP_call, oP_ret, oP_thr, outP_ite, aft_ret, aft_void, aft_thr, fHnd, List.isEmpty_nil, List.filter_cons, List.filter_nil, Value.category, csum, List.map_cons, List.map_nil, List.sum_cons, List.sum_nil, List.cons_append, List.nil_append, Option.toList, vp_nar_int, narrow_b1, narrow_b0, nc115, vc115, fc115, nc111, vc111, fc111, nc100, vc100, fc100, nc109, vc109, fc109, nc120, vc120, fc120, nc119, vc119, fc119, nc116, vc116, fc116, nc45, vc45, fc45, nc32, vc32, fc32, nc102, vc102, fc102, nc106, vc106, fc106, fin3, rf_some, rf_none, upd_ap, va_up_ap, nar_bi, fits_bi, nvp_bi, bi_t, bi_f, fval, fty, ftabs, wrv_0, wrv_1, wrv_2, wrv_3, wrv_5, mT_stI, mI_stI, mL_stI, mD_stI, mR_stI, mN_stI, mS_stI, mT_stL, mI_stL, mL_stL, mD_stL, mR_stL, mN_stL, mS_stL, mT_stD, mI_stD, mL_stD, mD_stD, mR_stD, mN_stD, mS_stD, mT_stR, mI_stR, mL_stR, mD_stR, mR_stR, mN_stR, mS_stR, mT_stN, mI_stN, mL_stN, mD_stN, mR_stN, mN_stN, mS_stN, e190_336, e190_337, e190_338, e190_339, e190_342, e190_344, e190_345, e190_346, e190_348, e190_349, e190_350, e190_352, e190_353, e190_354, e190_357, e190_359, e190_361, e190_362, e190_365, e190_366, e190_369, e190_370, e190_371, e190_373, e190_375, e190_377, e190_378, e190_381, e190_383, e190_385, e190_387, e190_388, e190_389, e190_390, e190_391, e190_392, e190_393, e190_396, rt190, hn190, nI_a1, hRC, nI_ge hn (show R * C < 2 ^ 31 by omega), hC0, d1, d2, cl173, p3, i4, inb_nI hn (show R * C < 2 ^ 31 by omega), nI_clamp (show n < 2 ^ 31 by omega), h5n, nI_1]
      refine kk _ ⟨⟨i1, i2, i3, i4, i5⟩, i6, fun c hc => ?_⟩
      rw [i7 c hc]
      show _ = nI (cnt P c n + if P n = nI c then 1 else 0)
      rw [hp, if_neg (fun e => nI_nm1 hc e.symm)]
      rfl
    · rw [hp] at p3 h5n
      have h7d := i7 d hd
      simp [lv_args, sStep, amStep, a_nx, a_ii, a_jj, a_ji, a_ld, a_st, a_if, a_ald, a_c1, a_c2, lkp, lput, lput2, lins, oP_none, oP_next, oP_call, oP_ret, oP_thr, outP_ite, aft_ret, aft_void, aft_thr, fHnd, List.isEmpty_nil, List.filter_cons, List.filter_nil, Value.category, csum, List.map_cons, List.map_nil, List.sum_cons, List.sum_nil, List.cons_append, List.nil_append, Option.toList, vp_nar_int, narrow_b1, narrow_b0, nc115, vc115, fc115, nc111, vc111, fc111, nc100, vc100, fc100, nc109, vc109, fc109, nc120, vc120, fc120, nc119, vc119, fc119, nc116, vc116, fc116, nc45, vc45, fc45, nc32, vc32, fc32, nc102, vc102, fc102, nc106, vc106, fc106, fin3, rf_some, rf_none, upd_ap, va_up_ap, nar_bi, fits_bi, nvp_bi, bi_t, bi_f, fval, fty, ftabs, wrv_0, wrv_1, wrv_2, wrv_3, wrv_5, mT_stI, mI_stI, mL_stI, mD_stI, mR_stI, mN_stI, mS_stI, mT_stL, mI_stL, mL_stL, mD_stL, mR_stL, mN_stL, mS_stL, mT_stD, mI_stD, mL_stD, mD_stD, mR_stD, mN_stD, mS_stD, mT_stR, mI_stR, mL_stR, mD_stR, mR_stR, mN_stR, mS_stR, mT_stN, mI_stN, mL_stN, mD_stN, mR_stN, mN_stN, mS_stN, e190_336, e190_337, e190_338, e190_339, e190_342, e190_344, e190_345, e190_346, e190_348, e190_349, e190_350, e190_352, e190_353, e190_354, e190_357, e190_359, e190_361, e190_362, e190_365, e190_366, e190_369, e190_370, e190_371, e190_373, e190_375, e190_377, e190_378, e190_381, e190_383, e190_385, e190_387, e190_388, e190_389, e190_390, e190_391, e190_392, e190_393, e190_396, rt190, hn190, nI_a1, hRC, nI_ge hn (show R * C < 2 ^ 31 by omega), hC0, d1, d2, cl173, p3, i4, inb_nI hn (show R * C < 2 ^ 31 by omega), nI_clamp (show n < 2 ^ 31 by omega), h5n, Int32.not_lt.mpr (nI_pos' (show d < 2 ^ 31 by omega)), i6, inb_nI hd, nI_clamp (show d < 2 ^ 31 by omega), h7d, nI_1]
      refine kk _ ⟨⟨LB_h (a := B + 26) i1 hb (by omega), i2, i3, i4, fun j hj => ?_⟩, i6, fun c hc => ?_⟩
      · rw [mI_stI, va_up_ap, if_neg (by omega)]; exact i5 j hj
      · rw [mI_stI, va_up_ap, if_pos rfl, upd_ap]
        show _ = nI (cnt P c n + if P n = nI c then 1 else 0)
        rw [hp]
        by_cases e : c = d
        · rw [if_pos e, e, if_pos rfl]
        · rw [if_neg e, if_neg (fun h => e ((nI_eq (by omega) (by omega)).mp h).symm)]
          exact i7 c hc
  · obtain ⟨⟨i1, i2, i3, i4, i5⟩, i6, i7⟩ := hI
    rw [e190_334]
    simp [lv_args, sStep, amStep, a_nx, a_ii, a_jj, a_ji, a_ld, a_st, a_if, a_ald, a_c1, a_c2, lkp, lput, lput2, lins, oP_none, oP_next, oP_call, oP_ret, oP_thr, outP_ite, aft_ret, aft_void, aft_thr, fHnd, List.isEmpty_nil, List.filter_cons, List.filter_nil, Value.category, csum, List.map_cons, List.map_nil, List.sum_cons, List.sum_nil, List.cons_append, List.nil_append, Option.toList, vp_nar_int, narrow_b1, narrow_b0, nc115, vc115, fc115, nc111, vc111, fc111, nc100, vc100, fc100, nc109, vc109, fc109, nc120, vc120, fc120, nc119, vc119, fc119, nc116, vc116, fc116, nc45, vc45, fc45, nc32, vc32, fc32, nc102, vc102, fc102, nc106, vc106, fc106, fin3, rf_some, rf_none, upd_ap, va_up_ap, nar_bi, fits_bi, nvp_bi, bi_t, bi_f, fval, fty, ftabs, wrv_0, wrv_1, wrv_2, wrv_3, wrv_5, mT_stI, mI_stI, mL_stI, mD_stI, mR_stI, mN_stI, mS_stI, mT_stL, mI_stL, mL_stL, mD_stL, mR_stL, mN_stL, mS_stL, mT_stD, mI_stD, mL_stD, mD_stD, mR_stD, mN_stD, mS_stD, mT_stR, mI_stR, mL_stR, mD_stR, mR_stR, mN_stR, mS_stR, mT_stN, mI_stN, mL_stN, mD_stN, mR_stN, mN_stN, mS_stN, e190_336, e190_337, e190_338, e190_339, e190_342, e190_344, e190_345, e190_346, e190_348, e190_349, e190_350, e190_352, e190_353, e190_354, e190_357, e190_359, e190_361, e190_362, e190_365, e190_366, e190_369, e190_370, e190_371, e190_373, e190_375, e190_377, e190_378, e190_381, e190_383, e190_385, e190_387, e190_388, e190_389, e190_390, e190_391, e190_392, e190_393, e190_396, rt190, hn190, nI_a1, hRC, Int32.le_refl]
    refine EvP_drop [(0, .ref b), (1, .ref B), (4, .int 1), (6, .ref (B + 26))] (by simp [gdL]) (by simp) (k M' ⟨i1, i2, i3, i6, fun c hc => ?_⟩)
    rw [i7 c hc, hC.2.2 c hc, cnt_m1 hc hRC54 (fun j hj hj2 => hC.2.1 j hj hj2)]
  · refine ⟨⟨LB_N g1 hb, by rw [mN_stN, g2], by rw [mS_stN]; omega, by rw [mT_stN, va_up_ap, if_neg (by omega)]; exact g4, fun j hj => by rw [mI_stN, va_up_ap, if_neg (by omega)]; exact g5 j hj⟩, by rw [mT_stN, va_up_ap, if_pos g2.symm], fun c hc => ?_⟩
    rw [mI_stN, va_up_ap, if_pos g2.symm]
    rfl
end LC
