/-! ===== the law: even, passes, off, piles ===== -/
def prE (T : Nat → Int32) (a c : Nat) : Bool := decide (T a = 0) || decide (T c = 0) || decide (T a = T c)
def evL (T : Nat → Int32) : Nat → Bool := allB (fun a => allB (prE T a) 54)
theorem allB_t {ok : Nat → Bool} {n : Nat} : allB ok n = true ↔ ∀ k, k < n → ok k = true := by
  induction n with
  | zero => exact ⟨fun _ k hk => absurd hk (Nat.not_lt_zero k), fun _ => rfl⟩
  | succ n ih =>
    show (allB ok n && ok n) = true ↔ _
    rw [Bool.and_eq_true, ih]
    exact ⟨fun h k hk => by rcases Nat.lt_or_eq_of_le (Nat.le_of_lt_succ hk) with h1 | h1; exact h.1 k h1; rw [h1]; exact h.2, fun h => ⟨fun k hk => h k (by omega), h n (by omega)⟩⟩
theorem ev_inv {T : Nat → Int32} (hT : ∀ c, c < 54 → ∃ t, t < 100 ∧ T c = nI t) : ∀ n, n ≤ 54 → ((evF T n).1 = true ↔ ∀ i, i < n → ∀ j, j < n → T i = 0 ∨ T j = 0 ∨ T i = T j) ∧ (((evF T n).2 = 0 ∧ ∀ i, i < n → T i = 0) ∨ ∃ i, i < n ∧ T i = (evF T n).2 ∧ ¬ T i = 0) := by
  intro n
  induction n with
  | zero => exact fun _ => ⟨⟨fun _ i hi => absurd hi (Nat.not_lt_zero i), fun _ => rfl⟩, Or.inl ⟨rfl, fun i hi => absurd hi (Nat.not_lt_zero i)⟩⟩
  | succ n ih =>
    intro hn
    obtain ⟨h1, h2⟩ := ih (by omega)
    obtain ⟨t, ht, hTn⟩ := hT n (by omega)
    have hpos : (0 < T n) = ¬ (T n = 0) := by
      rw [hTn, lt0 (by omega), eq0 (by omega)]
      exact propext Nat.pos_iff_ne_zero
    have e1 : (evF T (n + 1)).1 = ((evF T n).1 && (decide (T n = 0) || decide ((evF T n).2 = 0) || decide (T n = (evF T n).2))) := rfl
    have e2 : (evF T (n + 1)).2 = if 0 < T n then T n else (evF T n).2 := rfl
    rw [e1, e2]
    simp only [hpos]
    by_cases hz : T n = 0
    · rw [if_neg (fun h => h hz), hz]
      refine ⟨?_, ?_⟩
      · simp only [decide_true, Bool.true_or, Bool.and_true]
        rw [h1]
        refine ⟨fun h i hi j hj => ?_, fun h i hi j hj => h i (by omega) j (by omega)⟩
        rcases Nat.lt_or_eq_of_le (Nat.le_of_lt_succ hi) with a | a
        · rcases Nat.lt_or_eq_of_le (Nat.le_of_lt_succ hj) with c | c
          · exact h i a j c
          · rw [c]; exact Or.inr (Or.inl hz)
        · rw [a]; exact Or.inl hz
      · rcases h2 with ⟨a, c⟩ | ⟨i, a, c, d⟩
        · refine Or.inl ⟨a, fun i hi => ?_⟩
          rcases Nat.lt_or_eq_of_le (Nat.le_of_lt_succ hi) with e | e
          · exact c i e
          · rw [e]; exact hz
        · exact Or.inr ⟨i, by omega, c, d⟩
    · rw [if_pos hz]
      refine ⟨?_, Or.inr ⟨n, Nat.lt_succ_self n, rfl, hz⟩⟩
      rcases h2 with ⟨a, c⟩ | ⟨i0, a, c, d⟩
      · rw [a]
        simp only [decide_true, Bool.or_true, Bool.true_or, Bool.and_true]
        rw [h1]
        refine ⟨fun h i hi j hj => ?_, fun h i hi j hj => h i (by omega) j (by omega)⟩
        rcases Nat.lt_or_eq_of_le (Nat.le_of_lt_succ hi) with e | e
        · exact Or.inl (c i e)
        · rcases Nat.lt_or_eq_of_le (Nat.le_of_lt_succ hj) with f | f
          · exact Or.inr (Or.inl (c j f))
          · rw [e, f]; exact Or.inr (Or.inr rfl)
      · have d2 : ¬ (evF T n).2 = 0 := by rw [← c]; exact d
        simp only [hz, d2, decide_false, Bool.false_or, Bool.and_eq_true, decide_eq_true_eq]
        rw [h1]
        refine ⟨fun ⟨h, hq⟩ i hi j hj => ?_, fun h => ⟨fun i hi j hj => h i (by omega) j (by omega), ?_⟩⟩
        · have key : ∀ i, i < n → T i = 0 ∨ T i = T n := fun i hi => by
            rcases h i hi i0 a with e | e | e
            · exact Or.inl e
            · exact absurd e d
            · exact Or.inr (by rw [e, c, hq])
          rcases Nat.lt_or_eq_of_le (Nat.le_of_lt_succ hi) with e | e
          · rcases Nat.lt_or_eq_of_le (Nat.le_of_lt_succ hj) with f | f
            · exact h i e j f
            · rw [f]
              rcases key i e with g | g
              · exact Or.inl g
              · exact Or.inr (Or.inr g)
          · rw [e]
            rcases Nat.lt_or_eq_of_le (Nat.le_of_lt_succ hj) with f | f
            · rcases key j f with g | g
              · exact Or.inr (Or.inl g)
              · exact Or.inr (Or.inr g.symm)
            · rw [f]; exact Or.inr (Or.inr rfl)
        · rcases h i0 (by omega) n (Nat.lt_succ_self n) with e | e | e
          · exact absurd e d
          · exact absurd e hz
          · rw [← e, c]
theorem ev_all {T : Nat → Int32} (hT : ∀ c, c < 54 → ∃ t, t < 100 ∧ T c = nI t) : (evF T 54).1 = evL T 54 := by
  rw [Bool.eq_iff_iff, (ev_inv hT 54 (Nat.le_refl _)).1]
  unfold evL
  rw [allB_t]
  refine ⟨fun h a ha => allB_t.mpr fun c hc => ?_, fun h i hi j hj => ?_⟩
  · have := h a ha c hc
    unfold prE
    simp only [Bool.or_eq_true, decide_eq_true_eq]
    rcases this with e | e | e
    · exact Or.inl (Or.inl e)
    · exact Or.inl (Or.inr e)
    · exact Or.inr e
  · have := allB_t.mp (h i hi) j hj
    unfold prE at this
    simp only [Bool.or_eq_true, decide_eq_true_eq] at this
    rcases this with (e | e) | e
    · exact Or.inl e
    · exact Or.inr (Or.inl e)
    · exact Or.inr (Or.inr e)
theorem CI_T {n : Nat} {P T : Nat → Int32} (h : CI n P T) : ∀ c, c < 54 → ∃ t, t < 100 ∧ T c = nI t := fun c hc => ⟨cnt P c 54, by have := @cnt_le P c 54; omega, h.2.2 c hc⟩
section LD
variable {b B L R C : Nat} {xs : Nat → Int32} {M : AMem} {Q : AR → Prop} {o P T r u pl mk : Nat → Int32}
theorem segF {N S : Nat} (hT : ∀ c, c < 54 → ∃ t, t < 100 ∧ T c = nI t) (h : LQq b B L xs R C o P T r u pl mk T N S M) (k : EvP 190 521 [(0, .ref b), (1, .ref B), (4, .int 1), (6, .ref (B + 26))] [] M Q) :
    EvP 190 399 [(0, .ref b), (1, .ref B), (4, .int 1), (6, .ref (B + 26))] [] M Q := by
  obtain ⟨g1, g2, g3, g4, g5⟩ := h
  obtain ⟨⟨w, -⟩, -, -, -, hP', hT', -⟩ := id g1
  have i54 : Int32.ofNat 54 = 54 := rfl
  have A1 : EvP 190 399 [(0, .ref b), (1, .ref B), (4, .int 1), (6, .ref (B + 26))] [] M Q = EvP 190 414 [(0, .ref b), (1, .ref B), (4, .int 1), (6, .ref (B + 26)), (7, .int 1), (8, .ref (B + 26)), (9, .int 54), (10, .int 0)] [] M Q := by
    simp [lv_args, sStep, amStep, a_nx, a_ii, a_jj, a_ji, a_ld, a_st, a_if, a_ald, a_c1, a_c2, lkp, lput, lput2, lins, oP_none, oP_next, oP_call, oP_ret, oP_thr, outP_ite, aft_ret, aft_void, aft_thr, fHnd, List.isEmpty_nil, List.filter_cons, List.filter_nil, Value.category, csum, List.map_cons, List.map_nil, List.sum_cons, List.sum_nil, List.cons_append, List.nil_append, Option.toList, vp_nar_int, narrow_b1, narrow_b0, nc115, vc115, fc115, nc111, vc111, fc111, nc100, vc100, fc100, nc109, vc109, fc109, nc120, vc120, fc120, nc119, vc119, fc119, nc116, vc116, fc116, nc45, vc45, fc45, nc32, vc32, fc32, nc102, vc102, fc102, nc106, vc106, fc106, fin3, rf_some, rf_none, upd_ap, va_up_ap, nar_bi, fits_bi, nvp_bi, bi_t, bi_f, fval, fty, ftabs, wrv_0, wrv_1, wrv_2, wrv_3, wrv_5, mT_stI, mI_stI, mL_stI, mD_stI, mR_stI, mN_stI, mS_stI, mT_stL, mI_stL, mL_stL, mD_stL, mR_stL, mN_stL, mS_stL, mT_stD, mI_stD, mL_stD, mD_stD, mR_stD, mN_stD, mS_stD, mT_stR, mI_stR, mL_stR, mD_stR, mR_stR, mN_stR, mS_stR, mT_stN, mI_stN, mL_stN, mD_stN, mR_stN, mN_stN, mS_stN, e190_399, e190_400, e190_402, e190_404, e190_406, e190_408, e190_409, e190_411, e190_412, rt190, hn190, nI_a1, g4, i54]
  rw [A1]
  refine loopK (m := 190) (pc := 414) (Q := Q) 54 (fun i => [(0, .ref b), (1, .ref B), (4, .int 1), (6, .ref (B + 26)), (7, .int (bi (evL T i))), (8, .ref (B + 26)), (9, .int 54), (10, .int (nI i))]) (fun _ M' => M' = M) (fun i hi M' hM kk => ?_) (fun M' hM => ?_) M rfl
  · subst hM
    have h5 := g5 i hi
    have A2 : EvP 190 414 [(0, .ref b), (1, .ref B), (4, .int 1), (6, .ref (B + 26)), (7, .int (bi (evL T i))), (8, .ref (B + 26)), (9, .int 54), (10, .int (nI i))] [] M' Q = EvP 190 440 [(0, .ref b), (1, .ref B), (4, .int 1), (6, .ref (B + 26)), (7, .int (bi (evL T i))), (8, .ref (B + 26)), (9, .int 54), (10, .int (nI i)), (11, .int (T i)), (12, .ref (B + 26)), (13, .int 54), (14, .int 0)] [] M' Q := by
      simp [lv_args, sStep, amStep, a_nx, a_ii, a_jj, a_ji, a_ld, a_st, a_if, a_ald, a_c1, a_c2, lkp, lput, lput2, lins, oP_none, oP_next, oP_call, oP_ret, oP_thr, outP_ite, aft_ret, aft_void, aft_thr, fHnd, List.isEmpty_nil, List.filter_cons, List.filter_nil, Value.category, csum, List.map_cons, List.map_nil, List.sum_cons, List.sum_nil, List.cons_append, List.nil_append, Option.toList, vp_nar_int, narrow_b1, narrow_b0, nc115, vc115, fc115, nc111, vc111, fc111, nc100, vc100, fc100, nc109, vc109, fc109, nc120, vc120, fc120, nc119, vc119, fc119, nc116, vc116, fc116, nc45, vc45, fc45, nc32, vc32, fc32, nc102, vc102, fc102, nc106, vc106, fc106, fin3, rf_some, rf_none, upd_ap, va_up_ap, nar_bi, fits_bi, nvp_bi, bi_t, bi_f, fval, fty, ftabs, wrv_0, wrv_1, wrv_2, wrv_3, wrv_5, mT_stI, mI_stI, mL_stI, mD_stI, mR_stI, mN_stI, mS_stI, mT_stL, mI_stL, mL_stL, mD_stL, mR_stL, mN_stL, mS_stL, mT_stD, mI_stD, mL_stD, mD_stD, mR_stD, mN_stD, mS_stD, mT_stR, mI_stR, mL_stR, mD_stR, mR_stR, mN_stR, mS_stR, mT_stN, mI_stN, mL_stN, mD_stN, mR_stN, mN_stN, mS_stN, e190_414, e190_416, e190_418, e190_421, e190_423, e190_425, e190_426, e190_428, e190_430, e190_432, e190_434, e190_435, e190_437, e190_438, rt190, hn190, nI_a1, ge54 hi, g4, i54, inb_nI hi, nI_clamp (show i < 2 ^ 31 by omega), h5]
    have key : EvP 190 440 [(0, .ref b), (1, .ref B), (4, .int 1), (6, .ref (B + 26)), (7, .int (bi (evL T i))), (8, .ref (B + 26)), (9, .int 54), (10, .int (nI i)), (11, .int (T i)), (12, .ref (B + 26)), (13, .int 54), (14, .int 0)] [] M' Q := by
      have e0 : bi (evL T i) = bi (evL T i && allB (prE T i) 0) := by simp [allB]
      rw [e0]
      refine loopK (m := 190) (pc := 440) (Q := Q) 54 (fun j => [(0, .ref b), (1, .ref B), (4, .int 1), (6, .ref (B + 26)), (7, .int (bi (evL T i && allB (prE T i) j))), (8, .ref (B + 26)), (9, .int 54), (10, .int (nI i)), (11, .int (T i)), (12, .ref (B + 26)), (13, .int 54), (14, .int (nI j))]) (fun _ M'' => M'' = M') (fun j hj M'' hM2 kk2 => ?_) (fun M'' hM2 => ?_) M' rfl
      · subst hM2
        have h5j := g5 j hj
        have ea : allB (prE T i) (j + 1) = (allB (prE T i) j && prE T i j) := rfl
        have kk3 := kk2 M'' rfl
        rw [ea, ← Bool.and_assoc] at kk3
        rw [e190_440]
        by_cases c1 : T i = 0
        · have ep : prE T i j = true := by simp [prE, c1]
          rw [ep, Bool.and_true] at kk3
          simp [lv_args, sStep, amStep, a_nx, a_ii, a_jj, a_ji, a_ld, a_st, a_if, a_ald, a_c1, a_c2, lkp, lput, lput2, lins, oP_none, oP_next, oP_call, oP_ret, oP_thr, outP_ite, aft_ret, aft_void, aft_thr, fHnd, List.isEmpty_nil, List.filter_cons, List.filter_nil, Value.category, csum, List.map_cons, List.map_nil, List.sum_cons, List.sum_nil, List.cons_append, List.nil_append, Option.toList, vp_nar_int, narrow_b1, narrow_b0, nc115, vc115, fc115, nc111, vc111, fc111, nc100, vc100, fc100, nc109, vc109, fc109, nc120, vc120, fc120, nc119, vc119, fc119, nc116, vc116, fc116, nc45, vc45, fc45, nc32, vc32, fc32, nc102, vc102, fc102, nc106, vc106, fc106, fin3, rf_some, rf_none, upd_ap, va_up_ap, nar_bi, fits_bi, nvp_bi, bi_t, bi_f, fval, fty, ftabs, wrv_0, wrv_1, wrv_2, wrv_3, wrv_5, mT_stI, mI_stI, mL_stI, mD_stI, mR_stI, mN_stI, mS_stI, mT_stL, mI_stL, mL_stL, mD_stL, mR_stL, mN_stL, mS_stL, mT_stD, mI_stD, mL_stD, mD_stD, mR_stD, mN_stD, mS_stD, mT_stR, mI_stR, mL_stR, mD_stR, mR_stR, mN_stR, mS_stR, mT_stN, mI_stN, mL_stN, mD_stN, mR_stN, mN_stN, mS_stN, e190_442, e190_444, e190_447, e190_449, e190_451, e190_452, e190_454, e190_456, e190_458, e190_461, e190_463, e190_466, e190_468, e190_470, e190_473, e190_474, e190_477, e190_478, e190_479, e190_481, e190_484, rt190, hn190, nI_a1, ge54 hj, g4, inb_nI hj, nI_clamp (show j < 2 ^ 31 by omega), h5j, c1, bi_and1, nI_1]
          rw [c1] at kk3
          exact EvP_drop [(0, .ref b), (1, .ref B), (4, .int 1), (6, .ref (B + 26)), (7, .int (bi (evL T i && allB (prE T i) j))), (8, .ref (B + 26)), (9, .int 54), (10, .int (nI i)), (11, .int 0), (12, .ref (B + 26)), (13, .int 54), (14, .int (nI (j + 1)))] (by simp [gdL]) (by simp) kk3
        · by_cases c2 : T j = 0
          · have ep : prE T i j = true := by simp [prE, c2]
            rw [ep, Bool.and_true] at kk3
            simp [lv_args, sStep, amStep, a_nx, a_ii, a_jj, a_ji, a_ld, a_st, a_if, a_ald, a_c1, a_c2, lkp, lput, lput2, lins, oP_none, oP_next, oP_call, oP_ret, oP_thr, outP_ite, aft_ret, aft_void, aft_thr, fHnd, List.isEmpty_nil, List.filter_cons, List.filter_nil, Value.category, csum, List.map_cons, List.map_nil, List.sum_cons, List.sum_nil, List.cons_append, List.nil_append, Option.toList, vp_nar_int, narrow_b1, narrow_b0, nc115, vc115, fc115, nc111, vc111, fc111, nc100, vc100, fc100, nc109, vc109, fc109, nc120, vc120, fc120, nc119, vc119, fc119, nc116, vc116, fc116, nc45, vc45, fc45, nc32, vc32, fc32, nc102, vc102, fc102, nc106, vc106, fc106, fin3, rf_some, rf_none, upd_ap, va_up_ap, nar_bi, fits_bi, nvp_bi, bi_t, bi_f, fval, fty, ftabs, wrv_0, wrv_1, wrv_2, wrv_3, wrv_5, mT_stI, mI_stI, mL_stI, mD_stI, mR_stI, mN_stI, mS_stI, mT_stL, mI_stL, mL_stL, mD_stL, mR_stL, mN_stL, mS_stL, mT_stD, mI_stD, mL_stD, mD_stD, mR_stD, mN_stD, mS_stD, mT_stR, mI_stR, mL_stR, mD_stR, mR_stR, mN_stR, mS_stR, mT_stN, mI_stN, mL_stN, mD_stN, mR_stN, mN_stN, mS_stN, e190_442, e190_444, e190_447, e190_449, e190_451, e190_452, e190_454, e190_456, e190_458, e190_461, e190_463, e190_466, e190_468, e190_470, e190_473, e190_474, e190_477, e190_478, e190_479, e190_481, e190_484, rt190, hn190, nI_a1, ge54 hj, g4, inb_nI hj, nI_clamp (show j < 2 ^ 31 by omega), h5j, c1, c2, bi_and1, nI_1]
            exact EvP_drop [(0, .ref b), (1, .ref B), (4, .int 1), (6, .ref (B + 26)), (7, .int (bi (evL T i && allB (prE T i) j))), (8, .ref (B + 26)), (9, .int 54), (10, .int (nI i)), (11, .int (T i)), (12, .ref (B + 26)), (13, .int 54), (14, .int (nI (j + 1)))] (by simp [gdL]) (by simp) kk3
          · by_cases c3 : T i = T j
            · have ep : prE T i j = true := by simp [prE, c3]
              rw [ep, Bool.and_true] at kk3
              rw [c3] at c1 kk3 ⊢
              simp [lv_args, sStep, amStep, a_nx, a_ii, a_jj, a_ji, a_ld, a_st, a_if, a_ald, a_c1, a_c2, lkp, lput, lput2, lins, oP_none, oP_next, oP_call, oP_ret, oP_thr, outP_ite, aft_ret, aft_void, aft_thr, fHnd, List.isEmpty_nil, List.filter_cons, List.filter_nil, Value.category, csum, List.map_cons, List.map_nil, List.sum_cons, List.sum_nil, List.cons_append, List.nil_append, Option.toList, vp_nar_int, narrow_b1, narrow_b0, nc115, vc115, fc115, nc111, vc111, fc111, nc100, vc100, fc100, nc109, vc109, fc109, nc120, vc120, fc120, nc119, vc119, fc119, nc116, vc116, fc116, nc45, vc45, fc45, nc32, vc32, fc32, nc102, vc102, fc102, nc106, vc106, fc106, fin3, rf_some, rf_none, upd_ap, va_up_ap, nar_bi, fits_bi, nvp_bi, bi_t, bi_f, fval, fty, ftabs, wrv_0, wrv_1, wrv_2, wrv_3, wrv_5, mT_stI, mI_stI, mL_stI, mD_stI, mR_stI, mN_stI, mS_stI, mT_stL, mI_stL, mL_stL, mD_stL, mR_stL, mN_stL, mS_stL, mT_stD, mI_stD, mL_stD, mD_stD, mR_stD, mN_stD, mS_stD, mT_stR, mI_stR, mL_stR, mD_stR, mR_stR, mN_stR, mS_stR, mT_stN, mI_stN, mL_stN, mD_stN, mR_stN, mN_stN, mS_stN, e190_442, e190_444, e190_447, e190_449, e190_451, e190_452, e190_454, e190_456, e190_458, e190_461, e190_463, e190_466, e190_468, e190_470, e190_473, e190_474, e190_477, e190_478, e190_479, e190_481, e190_484, rt190, hn190, nI_a1, ge54 hj, g4, inb_nI hj, nI_clamp (show j < 2 ^ 31 by omega), h5j, c1, bi_and1, nI_1]
              exact EvP_drop [(0, .ref b), (1, .ref B), (4, .int 1), (6, .ref (B + 26)), (7, .int (bi (evL T i && allB (prE T i) j))), (8, .ref (B + 26)), (9, .int 54), (10, .int (nI i)), (11, .int (T j)), (12, .ref (B + 26)), (13, .int 54), (14, .int (nI (j + 1)))] (by simp [gdL]) (by simp) kk3
            · have ep : prE T i j = false := by simp [prE, c1, c2, c3]
              rw [ep, Bool.and_false] at kk3
              simp [lv_args, sStep, amStep, a_nx, a_ii, a_jj, a_ji, a_ld, a_st, a_if, a_ald, a_c1, a_c2, lkp, lput, lput2, lins, oP_none, oP_next, oP_call, oP_ret, oP_thr, outP_ite, aft_ret, aft_void, aft_thr, fHnd, List.isEmpty_nil, List.filter_cons, List.filter_nil, Value.category, csum, List.map_cons, List.map_nil, List.sum_cons, List.sum_nil, List.cons_append, List.nil_append, Option.toList, vp_nar_int, narrow_b1, narrow_b0, nc115, vc115, fc115, nc111, vc111, fc111, nc100, vc100, fc100, nc109, vc109, fc109, nc120, vc120, fc120, nc119, vc119, fc119, nc116, vc116, fc116, nc45, vc45, fc45, nc32, vc32, fc32, nc102, vc102, fc102, nc106, vc106, fc106, fin3, rf_some, rf_none, upd_ap, va_up_ap, nar_bi, fits_bi, nvp_bi, bi_t, bi_f, fval, fty, ftabs, wrv_0, wrv_1, wrv_2, wrv_3, wrv_5, mT_stI, mI_stI, mL_stI, mD_stI, mR_stI, mN_stI, mS_stI, mT_stL, mI_stL, mL_stL, mD_stL, mR_stL, mN_stL, mS_stL, mT_stD, mI_stD, mL_stD, mD_stD, mR_stD, mN_stD, mS_stD, mT_stR, mI_stR, mL_stR, mD_stR, mR_stR, mN_stR, mS_stR, mT_stN, mI_stN, mL_stN, mD_stN, mR_stN, mN_stN, mS_stN, e190_442, e190_444, e190_447, e190_449, e190_451, e190_452, e190_454, e190_456, e190_458, e190_461, e190_463, e190_466, e190_468, e190_470, e190_473, e190_474, e190_477, e190_478, e190_479, e190_481, e190_484, rt190, hn190, nI_a1, ge54 hj, g4, inb_nI hj, nI_clamp (show j < 2 ^ 31 by omega), h5j, c1, c2, c3, bi_and0, nI_1]
              exact EvP_drop [(0, .ref b), (1, .ref B), (4, .int 1), (6, .ref (B + 26)), (7, .int 0), (8, .ref (B + 26)), (9, .int 54), (10, .int (nI i)), (11, .int (T i)), (12, .ref (B + 26)), (13, .int 54), (14, .int (nI (j + 1)))] (by simp [gdL]) (by simp) kk3
      · subst hM2
        rw [e190_440]
        simp [lv_args, sStep, amStep, a_nx, a_ii, a_jj, a_ji, a_ld, a_st, a_if, a_ald, a_c1, a_c2, lkp, lput, lput2, lins, oP_none, oP_next, oP_call, oP_ret, oP_thr, outP_ite, aft_ret, aft_void, aft_thr, fHnd, List.isEmpty_nil, List.filter_cons, List.filter_nil, Value.category, csum, List.map_cons, List.map_nil, List.sum_cons, List.sum_nil, List.cons_append, List.nil_append, Option.toList, vp_nar_int, narrow_b1, narrow_b0, nc115, vc115, fc115, nc111, vc111, fc111, nc100, vc100, fc100, nc109, vc109, fc109, nc120, vc120, fc120, nc119, vc119, fc119, nc116, vc116, fc116, nc45, vc45, fc45, nc32, vc32, fc32, nc102, vc102, fc102, nc106, vc106, fc106, fin3, rf_some, rf_none, upd_ap, va_up_ap, nar_bi, fits_bi, nvp_bi, bi_t, bi_f, fval, fty, ftabs, wrv_0, wrv_1, wrv_2, wrv_3, wrv_5, mT_stI, mI_stI, mL_stI, mD_stI, mR_stI, mN_stI, mS_stI, mT_stL, mI_stL, mL_stL, mD_stL, mR_stL, mN_stL, mS_stL, mT_stD, mI_stD, mL_stD, mD_stD, mR_stD, mN_stD, mS_stD, mT_stR, mI_stR, mL_stR, mD_stR, mR_stR, mN_stR, mS_stR, mT_stN, mI_stN, mL_stN, mD_stN, mR_stN, mN_stN, mS_stN, e190_442, e190_444, e190_447, e190_449, e190_451, e190_452, e190_454, e190_456, e190_458, e190_461, e190_463, e190_466, e190_468, e190_470, e190_473, e190_474, e190_477, e190_478, e190_479, e190_481, e190_484, e190_487, e190_490, rt190, hn190, nI_a1, nI54, Int32.le_refl, nI_1]
        exact EvP_drop [(0, .ref b), (1, .ref B), (4, .int 1), (6, .ref (B + 26)), (7, .int (bi (evL T (i + 1)))), (8, .ref (B + 26)), (9, .int 54), (10, .int (nI (i + 1)))] (by simp [gdL]) (by simp [evL, allB]) (kk M'' rfl)
    rw [A2]
    exact key
  · subst hM
    have x1 : ∀ Q, CaP 188 [.ref B, .int 0] M' Q = Q (M', .inl (some (.int (bi (evL T 54))))) := fun Q => by
      rw [w188_ok w.1 (fun Q => d48 w (by rw [hT']; exact hT)), hT', ev_all hT]
    rw [e190_414]
    cases he : evL T 54 <;> rw [he] at x1 <;> simp only [bi_t, bi_f] at x1 <;>
    simp [lv_args, sStep, amStep, a_nx, a_ii, a_jj, a_ji, a_ld, a_st, a_if, a_ald, a_c1, a_c2, lkp, lput, lput2, lins, oP_none, oP_next, oP_call, oP_ret, oP_thr, outP_ite, aft_ret, aft_void, aft_thr, fHnd, List.isEmpty_nil, List.filter_cons, List.filter_nil, Value.category, csum, List.map_cons, List.map_nil, List.sum_cons, List.sum_nil, List.cons_append, List.nil_append, Option.toList, vp_nar_int, narrow_b1, narrow_b0, nc115, vc115, fc115, nc111, vc111, fc111, nc100, vc100, fc100, nc109, vc109, fc109, nc120, vc120, fc120, nc119, vc119, fc119, nc116, vc116, fc116, nc45, vc45, fc45, nc32, vc32, fc32, nc102, vc102, fc102, nc106, vc106, fc106, fin3, rf_some, rf_none, upd_ap, va_up_ap, nar_bi, fits_bi, nvp_bi, bi_t, bi_f, fval, fty, ftabs, wrv_0, wrv_1, wrv_2, wrv_3, wrv_5, mT_stI, mI_stI, mL_stI, mD_stI, mR_stI, mN_stI, mS_stI, mT_stL, mI_stL, mL_stL, mD_stL, mR_stL, mN_stL, mS_stL, mT_stD, mI_stD, mL_stD, mD_stD, mR_stD, mN_stD, mS_stD, mT_stR, mI_stR, mL_stR, mD_stR, mR_stR, mN_stR, mS_stR, mT_stN, mI_stN, mL_stN, mD_stN, mR_stN, mN_stN, mS_stN, e190_416, e190_418, e190_421, e190_423, e190_425, e190_426, e190_428, e190_430, e190_432, e190_434, e190_435, e190_437, e190_438, e190_440, e190_442, e190_444, e190_447, e190_449, e190_451, e190_452, e190_454, e190_456, e190_458, e190_461, e190_463, e190_466, e190_468, e190_470, e190_473, e190_474, e190_477, e190_478, e190_479, e190_481, e190_484, e190_487, e190_490, e190_493, e190_495, e190_496, e190_497, e190_500, e190_502, e190_505, e190_506, e190_509, e190_510, e190_513, e190_514, e190_517, e190_518, e190_519, rt190, hn190, nI_a1, nI54, Int32.le_refl, cl188, x1, he] <;>
    exact EvP_drop [(0, .ref b), (1, .ref B), (4, .int 1), (6, .ref (B + 26))] (by simp [gdL]) (by simp) k
end LD
