/-! ===== the law: what holds all the way ===== -/
theorem nI_a1 {a : Nat} : 1 + nI a = nI (a + 1) := by rw [Int32.add_comm]; exact nI_1 a
def SF (b B L : Nat) (xs : Nat → Int32) (R C : Nat) (M : AMem) : Prop := WS B M ∧ (∀ i, i < 12 → mR M (B + 8) i = none) ∧ mT M b = (200, L) ∧ mI M b = xs ∧ mI M (B + 15) 0 = nI R ∧ mI M (B + 15) 1 = nI C ∧ mI M (B + 5) 2 = 0 ∧ mI M (B + 7) = (fun _ => 0) ∧ mI M (B + 13) = (fun _ => 0)
def DV (B : Nat) (M : AMem) (o P T r u pl mk : Nat → Int32) : Prop := mI M B = o ∧ mI M (B + 3) = pl ∧ mI M (B + 4) = mk ∧ mI M (B + 16) = P ∧ mI M (B + 17) = T ∧ mI M (B + 18) = r ∧ mI M (B + 19) = u
section LH
variable {b B L R C : Nat} {xs : Nat → Int32} {M : AMem} {o P T r u pl mk : Nat → Int32}
theorem SF_I {a : Nat} {f : Nat → Int32} (h : SF b B L xs R C M) (h1 : ¬ a = b) (h2 : ¬ a = B + 15) (h3 : ¬ a = B + 5) (h4 : ¬ a = B + 7) (h5 : ¬ a = B + 13) : SF b B L xs R C (stI M a f) := by
  obtain ⟨g1, g2, g3, g4, g5, g6, g7, g8, g9⟩ := h
  refine ⟨by rw [WS_stI]; exact g1, fun i hi => by rw [mR_stI]; exact g2 i hi, by rw [mT_stI]; exact g3, ?_, ?_, ?_, ?_, ?_, ?_⟩
  · rw [mI_stI, va_up_ap, if_neg (fun e => h1 e.symm)]; exact g4
  · rw [mI_stI, va_up_ap, if_neg (fun e => h2 e.symm)]; exact g5
  · rw [mI_stI, va_up_ap, if_neg (fun e => h2 e.symm)]; exact g6
  · rw [mI_stI, va_up_ap, if_neg (fun e => h3 e.symm)]; exact g7
  · rw [mI_stI, va_up_ap, if_neg (fun e => h4 e.symm)]; exact g8
  · rw [mI_stI, va_up_ap, if_neg (fun e => h5 e.symm)]; exact g9
theorem SF_N {k n sl : Nat} (h : SF b B L xs R C M) (hb : b < B) : SF b B L xs R C (stN M k n sl) := by
  obtain ⟨g1, g2, g3, g4, g5, g6, g7, g8, g9⟩ := h
  have hN := g1.2.2.2.2
  refine ⟨WS_N g1, fun i hi => ?_, ?_, ?_, ?_, ?_, ?_, ?_, ?_⟩
  · rw [mR_stN, va_up_ap, if_neg (by omega)]; exact g2 i hi
  · rw [mT_stN, va_up_ap, if_neg (by omega)]; exact g3
  · rw [mI_stN, va_up_ap, if_neg (by omega)]; exact g4
  · rw [mI_stN, va_up_ap, if_neg (by omega)]; exact g5
  · rw [mI_stN, va_up_ap, if_neg (by omega)]; exact g6
  · rw [mI_stN, va_up_ap, if_neg (by omega)]; exact g7
  · rw [mI_stN, va_up_ap, if_neg (by omega)]; exact g8
  · rw [mI_stN, va_up_ap, if_neg (by omega)]; exact g9
theorem SF_Rh {a : Nat} {f : Nat → Option Nat} (h : SF b B L xs R C M) (ha : B + 20 ≤ a) : SF b B L xs R C (stR M a f) := by
  obtain ⟨g1, g2, g3, g4, g5, g6, g7, g8, g9⟩ := h
  refine ⟨WS_Rh g1 ha, fun i hi => ?_, by rw [mT_stR]; exact g3, by rw [mI_stR]; exact g4, by rw [mI_stR]; exact g5, by rw [mI_stR]; exact g6, by rw [mI_stR]; exact g7, by rw [mI_stR]; exact g8, by rw [mI_stR]; exact g9⟩
  rw [mR_stR, va_up_ap, if_neg (by omega)]; exact g2 i hi
theorem DV_h {a : Nat} {f : Nat → Int32} (h : DV B M o P T r u pl mk) (ha : B + 20 ≤ a) : DV B (stI M a f) o P T r u pl mk := by
  obtain ⟨g1, g2, g3, g4, g5, g6, g7⟩ := h
  refine ⟨?_, ?_, ?_, ?_, ?_, ?_, ?_⟩
  · rw [mI_stI, va_up_ap, if_neg (by omega)]; exact g1
  · rw [mI_stI, va_up_ap, if_neg (by omega)]; exact g2
  · rw [mI_stI, va_up_ap, if_neg (by omega)]; exact g3
  · rw [mI_stI, va_up_ap, if_neg (by omega)]; exact g4
  · rw [mI_stI, va_up_ap, if_neg (by omega)]; exact g5
  · rw [mI_stI, va_up_ap, if_neg (by omega)]; exact g6
  · rw [mI_stI, va_up_ap, if_neg (by omega)]; exact g7
theorem DV_N {k n sl : Nat} (h : DV B M o P T r u pl mk) (hN : B + 20 ≤ mN M) : DV B (stN M k n sl) o P T r u pl mk := by
  obtain ⟨g1, g2, g3, g4, g5, g6, g7⟩ := h
  refine ⟨?_, ?_, ?_, ?_, ?_, ?_, ?_⟩
  · rw [mI_stN, va_up_ap, if_neg (by omega)]; exact g1
  · rw [mI_stN, va_up_ap, if_neg (by omega)]; exact g2
  · rw [mI_stN, va_up_ap, if_neg (by omega)]; exact g3
  · rw [mI_stN, va_up_ap, if_neg (by omega)]; exact g4
  · rw [mI_stN, va_up_ap, if_neg (by omega)]; exact g5
  · rw [mI_stN, va_up_ap, if_neg (by omega)]; exact g6
  · rw [mI_stN, va_up_ap, if_neg (by omega)]; exact g7
theorem DV_R {a : Nat} {f : Nat → Option Nat} : DV B (stR M a f) o P T r u pl mk = DV B M o P T r u pl mk := of_eq_true (eq_true rfl)
/-- both -/
def LB (b B L : Nat) (xs : Nat → Int32) (R C : Nat) (o P T r u pl mk : Nat → Int32) (M : AMem) : Prop := SF b B L xs R C M ∧ DV B M o P T r u pl mk
theorem LB_h {a : Nat} {f : Nat → Int32} (h : LB b B L xs R C o P T r u pl mk M) (hb : b < B) (ha : B + 20 ≤ a) : LB b B L xs R C o P T r u pl mk (stI M a f) := ⟨SF_I h.1 (by omega) (by omega) (by omega) (by omega) (by omega), DV_h h.2 ha⟩
theorem LB_N {k n sl : Nat} (h : LB b B L xs R C o P T r u pl mk M) (hb : b < B) : LB b B L xs R C o P T r u pl mk (stN M k n sl) := ⟨SF_N h.1 hb, DV_N h.2 h.1.1.2.2.2.2⟩
theorem LB_R {a : Nat} {f : Nat → Option Nat} (h : LB b B L xs R C o P T r u pl mk M) (ha : B + 20 ≤ a) : LB b B L xs R C o P T r u pl mk (stR M a f) := ⟨SF_Rh h.1 ha, by rw [DV_R]; exact h.2⟩
end LH
def o0 : Nat → Int32 := upd (upd (fun _ => 0) 2 10) 1 1
theorem ev0 : (evF (fun _ => 0) 54).1 = true := by decide +kernel
theorem t0x : ∀ c, c < 54 → ∃ t, t < 100 ∧ (fun _ => (0 : Int32)) c = nI t := fun _ _ => ⟨0, by decide, rfl⟩
set_option maxHeartbeats 2000000 in
/-- the first sheet, and what is refused -/
theorem segA {b B L : Nat} {M : AMem} {Q : AR → Prop} (hb : b < B) (hN : mN M = B) (hS : mS M = 0) (hT : mT M b = (200, L)) (hL : L ≤ 260) (k : ∀ (R C : Nat) (P : Nat → Int32) (M' : AMem), 1 ≤ R → R ≤ 6 → 1 ≤ C → C ≤ 9 → (∀ j, j < 54 → P j = -1) → LB b B L (mI M b) R C o0 P (fun _ => 0) (fun _ => 0) (fun _ => 0) (fun _ => 0) (fun _ => 0) M' → mN M' = B + 25 → mS M' ≤ 500 →
    EvP 190 126 [(0, .ref b), (1, .ref B), (2, .int (nI R)), (3, .int (nI C)), (4, .int 1)] [] M' Q) : EvP 190 0 [(0, .ref b)] [] M Q := by
  rw [st190 hN hS]
  obtain ⟨m1, m2, m3, m4, m5, m6, m7, m8⟩ := @M0_f B b 322 M hb
  generalize MX B M 14 rs0 10 0 322 = M0 at m1 m2 m3 m4 m5 m6 m7 m8
  have hT0 : mT M0 b = (200, L) := m4.trans hT
  obtain ⟨R0, hR0, r1⟩ : ∃ R0, R0 < 6 ∧ ∀ Q, CaP 189 [.ref b, .int 0, .int 6] M0 Q = Q (M0, .inl (some (.int (nI R0)))) := ⟨_, inN_lt (by decide), fun Q => sp189 (i := 0) (n := 6) hT0 (by omega) (by decide) (by decide) (by decide)⟩
  obtain ⟨C0, hC0, r2⟩ : ∃ R0, R0 < 9 ∧ ∀ Q, CaP 189 [.ref b, .int 1, .int 9] M0 Q = Q (M0, .inl (some (.int (nI R0)))) := ⟨_, inN_lt (by decide), fun Q => sp189 (i := 1) (n := 9) hT0 (by omega) (by decide) (by decide) (by decide)⟩
  have A1 : EvP 190 8 [(0, .ref b), (1, .ref B)] [] M0 Q = EvP 190 28 [(0, .ref b), (1, .ref B), (2, .int (nI (R0 + 1))), (3, .int (nI (C0 + 1)))] [] M0 Q := by
    simp [lv_args, sStep, amStep, a_nx, a_ii, a_jj, a_ji, a_ld, a_st, a_if, a_ald, a_c1, a_c2, lkp, lput, lput2, lins, oP_none, oP_next, oP_call, oP_ret, oP_thr, outP_ite, aft_ret, aft_void, aft_thr, fHnd, List.isEmpty_nil, List.filter_cons, List.filter_nil, Value.category, csum, List.map_cons, List.map_nil, List.sum_cons, List.sum_nil, List.cons_append, List.nil_append, Option.toList, vp_nar_int, narrow_b1, narrow_b0, nc115, vc115, fc115, nc111, vc111, fc111, nc100, vc100, fc100, nc109, vc109, fc109, nc120, vc120, fc120, nc119, vc119, fc119, nc116, vc116, fc116, nc45, vc45, fc45, nc32, vc32, fc32, nc102, vc102, fc102, nc106, vc106, fc106, fin3, rf_some, rf_none, upd_ap, va_up_ap, nar_bi, fits_bi, nvp_bi, bi_t, bi_f, fval, fty, ftabs, wrv_0, wrv_1, wrv_2, wrv_3, wrv_5, mT_stI, mI_stI, mL_stI, mD_stI, mR_stI, mN_stI, mS_stI, mT_stL, mI_stL, mL_stL, mD_stL, mR_stL, mN_stL, mS_stL, mT_stD, mI_stD, mL_stD, mD_stD, mR_stD, mN_stD, mS_stD, mT_stR, mI_stR, mL_stR, mD_stR, mR_stR, mN_stR, mS_stR, mT_stN, mI_stN, mL_stN, mD_stN, mR_stN, mN_stN, mS_stN, e190_8, e190_9, e190_10, e190_11, e190_13, e190_16, e190_17, e190_18, e190_19, e190_20, e190_21, e190_23, e190_26, e190_27, rt190, hn190, nI_a1, cl189, r1, r2]
  rw [A1]
  obtain ⟨R, hR, hR1, hR6⟩ : ∃ R, R = R0 + 1 ∧ 1 ≤ R ∧ R ≤ 6 := ⟨_, rfl, by omega, by omega⟩
  obtain ⟨C, hC, hC1, hC9⟩ : ∃ R, R = C0 + 1 ∧ 1 ≤ R ∧ R ≤ 9 := ⟨_, rfl, by omega, by omega⟩
  rw [← hR, ← hC]
  have s1 : ST B (stN M0 0 0 6) := ST_N m1
  have x1 := fun Q => @w171_t0 B 7 1 M0 _ Q m1 (fun Q => d44x m1)
  obtain ⟨M2, e44, f1, f2, f3, f4, f5, f6, f7, f8, f9, f10, f11⟩ := @d44 B R C (stN M0 0 0 6) s1 (fun i hi => by rw [mR_stN, va_up_ap, if_neg (by omega)]; exact m6 1 (Or.inl rfl) i) (fun i hi => by rw [mR_stN, va_up_ap, if_neg (by omega)]; exact m6 12 (Or.inr (Or.inr rfl)) i) (by rw [mN_stN, m2]) (by rw [mI_stN, va_up_ap, if_neg (by omega), m7]; rfl) hR1 hR6 hC1 hC9
  have x2 := fun Q => @w171_ok B (nI R) (nI C) 0 (stN M0 0 0 6) M2 Q s1 e44
  have x3 : ∀ Q, CaP 188 [.ref B, .int 0] M2 Q = Q (M2, .inl (some (.int 1))) := fun Q => by
    rw [w188_ok f1.1 (fun Q => d48 f1 (by rw [f9]; exact t0x)), f9, ev0]
    rfl
  have x4 := fun Q => @w188_t2 B 1 M2 _ Q f1.1 (fun Q => d48x f1)
  have q : ∀ (M' : AMem), WS B M' → mI M' (B + 15) 0 = nI R → mI M' (B + 15) 1 = nI C → WS B (stN M' 0 0 6) ∧ mI (stN M' 0 0 6) (B + 15) 0 = nI R ∧ mI (stN M' 0 0 6) (B + 15) 1 = nI C := fun M' a1 a2 a3 => by
    have hn := a1.2.2.2.2
    refine ⟨WS_N a1, ?_, ?_⟩
    · rw [mI_stN, va_up_ap, if_neg (by omega)]; exact a2
    · rw [mI_stN, va_up_ap, if_neg (by omega)]; exact a3
  obtain ⟨g1, g2, g3⟩ := q M2 f1 f6 f7
  obtain ⟨j1, j2, j3⟩ := q _ g1 g2 g3
  obtain ⟨l1, l2, l3⟩ := q _ j1 j2 j3
  obtain ⟨n1, n2, n3⟩ := q _ l1 l2 l3
  have x5 := fun Q => @w172_t0 B 0 (nI R) 0 1 (stN M2 0 0 6) _ Q g1.1 (fun Q => d45x g1 g2 g3 hR6 hR1)
  have x6 := fun Q => @w172_t0 B 0 0 0 54 (stN (stN M2 0 0 6) 0 0 6) _ Q j1.1 (fun Q => d45y j1 j2 j3 hR6 hR1 hC9 hC1)
  have x7 := fun Q => @w173_t0 B 0 0 (nI C) (stN (stN (stN M2 0 0 6) 0 0 6) 0 0 6) _ Q l1.1 (fun Q => d46x l1 l2 l3 hR6 hR1 hC9 hC1)
  have x8 := fun Q => @w174_t0 B 0 54 (stN (stN (stN (stN M2 0 0 6) 0 0 6) 0 0 6) 0 0 6) _ Q n1.1 (fun Q => d47x n1)
  have A2 : EvP 190 28 [(0, .ref b), (1, .ref B), (2, .int (nI R)), (3, .int (nI C))] [] M0 Q = EvP 190 126 [(0, .ref b), (1, .ref B), (2, .int (nI R)), (3, .int (nI C)), (4, .int 1)] [] (stN (stN (stN (stN (stN M2 0 0 6) 0 0 6) 0 0 6) 0 0 6) 0 0 6) Q := by
    simp [lv_args, sStep, amStep, a_nx, a_ii, a_jj, a_ji, a_ld, a_st, a_if, a_ald, a_c1, a_c2, lkp, lput, lput2, lins, oP_none, oP_next, oP_call, oP_ret, oP_thr, outP_ite, aft_ret, aft_void, aft_thr, fHnd, List.isEmpty_nil, List.filter_cons, List.filter_nil, Value.category, csum, List.map_cons, List.map_nil, List.sum_cons, List.sum_nil, List.cons_append, List.nil_append, Option.toList, vp_nar_int, narrow_b1, narrow_b0, nc115, vc115, fc115, nc111, vc111, fc111, nc100, vc100, fc100, nc109, vc109, fc109, nc120, vc120, fc120, nc119, vc119, fc119, nc116, vc116, fc116, nc45, vc45, fc45, nc32, vc32, fc32, nc102, vc102, fc102, nc106, vc106, fc106, fin3, rf_some, rf_none, upd_ap, va_up_ap, nar_bi, fits_bi, nvp_bi, bi_t, bi_f, fval, fty, ftabs, wrv_0, wrv_1, wrv_2, wrv_3, wrv_5, mT_stI, mI_stI, mL_stI, mD_stI, mR_stI, mN_stI, mS_stI, mT_stL, mI_stL, mL_stL, mD_stL, mR_stL, mN_stL, mS_stL, mT_stD, mI_stD, mL_stD, mD_stD, mR_stD, mN_stD, mS_stD, mT_stR, mI_stR, mL_stR, mD_stR, mR_stR, mN_stR, mS_stR, mT_stN, mI_stN, mL_stN, mD_stN, mR_stN, mN_stN, mS_stN, e190_28, e190_29, e190_31, e190_32, e190_35, e190_37, e190_40, e190_41, e190_42, e190_43, e190_46, e190_49, e190_50, e190_51, e190_54, e190_55, e190_58, e190_59, e190_60, e190_63, e190_65, e190_68, e190_69, e190_70, e190_71, e190_72, e190_73, e190_76, e190_78, e190_81, e190_82, e190_83, e190_84, e190_85, e190_87, e190_90, e190_92, e190_95, e190_96, e190_97, e190_98, e190_99, e190_102, e190_104, e190_107, e190_108, e190_109, e190_111, e190_114, e190_116, e190_119, e190_120, e190_123, e190_124, rt190, hn190, nI_a1, cl171, cl188, cl172, cl173, cl174, x1, x2, x3, x4, x5, x6, x7, x8, jv1, jv2]
  rw [A2]
  have hm : ∀ a, a < B + 14 → ¬ a = B → mI M2 a = mI M0 a := fun a ha hb => by rw [(f4 a (by omega)).2.1 hb, mI_stN, va_up_ap, if_neg (by omega)]
  have hm0 : mI M2 B = o0 := by rw [f5, mI_stN, va_up_ap, if_neg (by omega), m7]; rfl
  have hSF : LB b B L (mI M b) R C o0 (mI M2 (B + 16)) (fun _ => 0) (fun _ => 0) (fun _ => 0) (fun _ => 0) (fun _ => 0) M2 := by
    refine ⟨⟨f1, fun i hi => ?_, ?_, ?_, f6, f7, ?_, ?_, ?_⟩, hm0, ?_, ?_, rfl, f9, f10, f11⟩
    · rw [(f4 _ (by omega)).2.2 (by omega), mR_stN, va_up_ap, if_neg (by omega)]; exact m6 8 (Or.inr (Or.inl rfl)) i
    · rw [(f4 _ (by omega)).1, mT_stN, va_up_ap, if_neg (by omega)]; exact hT0
    · rw [hm b (by omega) (by omega), m5]
    · rw [hm _ (by omega) (by omega), m8 5 (by decide) (by decide)]
    · rw [hm _ (by omega) (by omega), m8 7 (by decide) (by decide)]
    · rw [hm _ (by omega) (by omega), m8 13 (by decide) (by decide)]
    · rw [hm _ (by omega) (by omega), m8 3 (by decide) (by decide)]
    · rw [hm _ (by omega) (by omega), m8 4 (by decide) (by decide)]
  refine k R C (mI M2 (B + 16)) _ hR1 hR6 hC1 hC9 f8 (LB_N (LB_N (LB_N (LB_N (LB_N hSF hb) hb) hb) hb) hb) ?_ ?_
  · simp only [mN_stN, f2]
  · simp only [mS_stN, f3, m3]; decide
