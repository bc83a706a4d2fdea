/-! ===== the law: the print itself ===== -/
def dlF (z : Bool) (T : Nat → Int32) (m : Int32) (c : Nat) : Int32 := if z = true then 0 else m * T c
theorem suA_f {T : Nat → Int32} {m : Int32} {k : Nat} : suA false T m k = sumF (fun c => m * T c) k := rfl
theorem suA_t {T : Nat → Int32} {m : Int32} : ∀ k, suA true T m k = 0 := fun _ => rfl
theorem moA_t {T pl mk : Nat → Int32} {m : Int32} {c : Nat} : moA true T pl mk m c = false := rfl
/-- what a print leaves -/
def KP (b B L : Nat) (xs : Nat → Int32) (R C : Nat) (o P T r u pl mk : Nat → Int32) (M : AMem) (ism z : Bool) (x : Int32) (m : Int32) (M' : AMem) : Prop := ∃ o' pl' mk', LB b B L xs R C o' P T r u pl' mk' M' ∧ o' 2 = o 2 ∧ o' 3 = o 3 ∧ o' 4 = o 4 ∧ o' 5 = o 5 + x ∧ o' 10 = o 10 ∧ (∀ c, c < 54 → pl' c = if ism = true then pl c else pl c + dlF z T m c) ∧ (∀ c, c < 54 → mk' c = if ism = true then mk c + dlF z T m c else mk c) ∧ mN M ≤ mN M' ∧ mN M' ≤ mN M + 1 ∧ mS M' ≤ mS M + 6 ∧ ∀ a, B + 20 ≤ a → a < mN M → mI M' a = mI M a ∧ mT M' a = mT M a ∧ mR M' a = mR M a
section LL
variable {b B L R C : Nat} {xs : Nat → Int32} {M : AMem} {Q : AR → Prop} {o P T r u pl mk : Nat → Int32}
theorem add_z {x : Int32} : x + 0 = x := Int32.add_zero x
theorem segK3 {to kn nn : Int32} {m : Nat} (hb : b < B) (hm1 : 1 ≤ m) (hm2 : m ≤ 99) (hT : ∀ c, c < 54 → ∃ t, t < 100 ∧ T c = nI t) (hD : BD pl mk) (h : LB b B L xs R C o P T r u pl mk M) {s : Bool} (hs : decide (o 2 < ocO r u 4) = s) (k : ∀ M', KP b B L xs R C o P T r u pl mk M (isM (o 3) (o 4)) (s || anyB (moA s T pl mk (nI m)) 54) (if s = true then nI m else 0) (nI m) M' → EvP 190 1194 [(0, .ref b), (1, .ref B), (4, .int 1), (6, .ref (B + 26)), (9, .int (ocO r u 4)), (10, .ref (B + 35)), (11, .int (o 5 + if s = true then nI m else 0)), (12, .int to), (13, .int kn), (14, .int nn), (18, .int (nI m)), (19, .int (bi (isM (o 3) (o 4)))), (20, .int (bi s)), (21, .int (bi (anyB (moA s T pl mk (nI m)) 54))), (23, .int 0)] [] M' Q) :
    EvP 190 1143 [(0, .ref b), (1, .ref B), (4, .int 1), (6, .ref (B + 26)), (9, .int (ocO r u 4)), (10, .ref (B + 35)), (11, .int (o 5)), (12, .int to), (13, .int kn), (14, .int nn), (18, .int (nI m)), (19, .int (bi (isM (o 3) (o 4)))), (20, .int (bi s)), (21, .int (bi (anyB (moA s T pl mk (nI m)) 54))), (22, .int (suA s T (nI m) 54))] [] M Q := by
  obtain ⟨⟨w, -⟩, ho, hpl, hmk, hP', hT', hr', hu'⟩ := id h
  have inm : inR (nI m) 1 99 = true := in1R (N := 99) hm1 hm2 (by decide)
  have hN := w.2.2.2.2
  cases s
  · have ho2 : ¬ mI M B 2 < ocO (mI M (B + 18)) (mI M (B + 19)) 4 := by rw [ho, hr', hu']; exact of_decide_eq_false hs
    have hal : allB (fun c => !decide (9999 < mI M (B + 3) c + mI M (B + 4) c + mI M (B + 17) c * nI m)) 54 = !anyB (moA false T pl mk (nI m)) 54 := by
      rw [all_any, hpl, hmk, hT']
      congr 1
      rw [Bool.eq_iff_iff, anyB_iff, anyB_iff]
      have hq : ∀ c, c < 54 → decide (9999 < pl c + mk c + T c * nI m) = moA false T pl mk (nI m) c := fun c hc => by
        unfold moA
        rw [Int32.mul_comm (T c)]
        obtain ⟨t, ht, e⟩ := hT c hc
        obtain ⟨x, y, e1, e2, e3⟩ := hD c hc
        rcases Nat.eq_zero_or_pos t with z | z
        · have hn : ¬ (9999 : Int32) < nI (x + y + m * 0) := by rw [gt9 (by omega)]; omega
          rw [e, e1, e2, z, pk_mul, nI_add, nI_add, decide_eq_false hn]
          rfl
        · have : (0 : Int32) < nI t := by rw [lt0 (by omega)]; exact z
          rw [e, decide_eq_true this]
          rfl
      exact ⟨fun ⟨c, hc, h9⟩ => ⟨c, hc, by rw [← hq c hc]; exact h9⟩, fun ⟨c, hc, h9⟩ => ⟨c, hc, by rw [hq c hc]; exact h9⟩⟩
    cases hA : anyB (moA false T pl mk (nI m)) 54
    · rw [hA] at hal k
      have hsum : sumF (fun c => mI M (B + 17) c * nI m) 54 = suA false T (nI m) 54 := by
        rw [hT', suA_f]
        exact sumF_ext 54 fun c _ => Int32.mul_comm _ _
      obtain ⟨M2, hM2, x1⟩ : ∃ M2, M2 = stI M (B + (if isM (o 3) (o 4) = true then 4 else 3)) (addF (mI M (B + (if isM (o 3) (o 4) = true then 4 else 3))) (fun c => mI M (B + 17) c * nI m) 54) ∧ ∀ Q, CaP 179 [.ref B, .int 0, .int (nI m)] M Q = Q (M2, .inl (some (.int (suA false T (nI m) 54)))) := by
        refine ⟨_, rfl, fun Q => ?_⟩
        have := @w179_ok B 0 (nI m) _ M _ Q w.1 (fun Q => d53 (b := isM (o 3) (o 4)) w inm ho2 hal (by rw [ho]; exact isM_in))
        rw [hsum] at this
        exact this
      have A1 : EvP 190 1143 [(0, .ref b), (1, .ref B), (4, .int 1), (6, .ref (B + 26)), (9, .int (ocO r u 4)), (10, .ref (B + 35)), (11, .int (o 5)), (12, .int to), (13, .int kn), (14, .int nn), (18, .int (nI m)), (19, .int (bi (isM (o 3) (o 4)))), (20, .int (bi false)), (21, .int (bi false)), (22, .int (suA false T (nI m) 54))] [] M Q = EvP 190 1194 [(0, .ref b), (1, .ref B), (4, .int 1), (6, .ref (B + 26)), (9, .int (ocO r u 4)), (10, .ref (B + 35)), (11, .int (o 5)), (12, .int to), (13, .int kn), (14, .int nn), (18, .int (nI m)), (19, .int (bi (isM (o 3) (o 4)))), (20, .int (bi false)), (21, .int (bi false)), (22, .int (suA false T (nI m) 54)), (23, .int 0)] [] M2 Q := by
        simp [lv_args, sStep, amStep, a_nx, a_ii, a_jj, a_ji, a_ld, a_st, a_if, a_ald, a_c1, a_c2, lkp, lput, lput2, lins, oP_none, oP_next, oP_call, oP_ret, oP_thr, outP_ite, aft_ret, aft_void, aft_thr, fHnd, List.isEmpty_nil, List.filter_cons, List.filter_nil, Value.category, csum, List.map_cons, List.map_nil, List.sum_cons, List.sum_nil, List.cons_append, List.nil_append, Option.toList, vp_nar_int, narrow_b1, narrow_b0, nc115, vc115, fc115, nc111, vc111, fc111, nc100, vc100, fc100, nc109, vc109, fc109, nc120, vc120, fc120, nc119, vc119, fc119, nc116, vc116, fc116, nc45, vc45, fc45, nc32, vc32, fc32, nc102, vc102, fc102, nc106, vc106, fc106, fin3, rf_some, rf_none, upd_ap, va_up_ap, nar_bi, fits_bi, nvp_bi, bi_t, bi_f, fval, fty, ftabs, wrv_0, wrv_1, wrv_2, wrv_3, wrv_5, mT_stI, mI_stI, mL_stI, mD_stI, mR_stI, mN_stI, mS_stI, mT_stL, mI_stL, mL_stL, mD_stL, mR_stL, mN_stL, mS_stL, mT_stD, mI_stD, mL_stD, mD_stD, mR_stD, mN_stD, mS_stD, mT_stR, mI_stR, mL_stR, mD_stR, mR_stR, mN_stR, mS_stR, mT_stN, mI_stN, mL_stN, mD_stN, mR_stN, mN_stN, mS_stN, e190_1143, e190_1145, e190_1146, e190_1147, e190_1149, e190_1152, e190_1154, e190_1157, e190_1159, e190_1162, e190_1164, e190_1167, e190_1168, e190_1171, e190_1172, e190_1173, e190_1175, e190_1177, e190_1179, e190_1182, e190_1184, e190_1187, e190_1188, e190_1189, e190_1191, e190_1192, rt190, hn190, nI_a1, bi_f, cl179, x1, add_z]
      rw [A1]
      have kk := k M2 ?_
      · simp only [Bool.false_eq_true, if_false, add_z] at kk
        exact EvP_drop _ (by simp [gdL]) (by simp) kk
      · have hadd : ∀ (f : Nat → Int32) c, c < 54 → addF f (fun c => T c * nI m) 54 c = f c + dlF (false || false) T (nI m) c := fun f c hc => by
          unfold addF dlF
          rw [if_pos hc, Int32.mul_comm]
          rfl
        cases hi : isM (o 3) (o 4)
        · rw [hi, hT'] at hM2
          simp only [Bool.false_eq_true, if_false] at hM2
          rw [hpl] at hM2
          refine ⟨o, addF pl (fun c => T c * nI m) 54, mk, by rw [hM2]; exact LB_p3 h hb, rfl, rfl, rfl, add_z.symm, rfl, hadd pl, fun _ _ => rfl, by rw [hM2, mN_stI]; exact Nat.le_refl _, by rw [hM2, mN_stI]; omega, by rw [hM2, mS_stI]; omega, fun a h1 h2 => ?_⟩
          rw [hM2, mI_stI, va_up_ap, if_neg (by omega), mT_stI, mR_stI]
          exact ⟨rfl, rfl, rfl⟩
        · rw [hi, hT'] at hM2
          simp only [if_true] at hM2
          rw [hmk] at hM2
          refine ⟨o, pl, addF mk (fun c => T c * nI m) 54, by rw [hM2]; exact LB_p4 h hb, rfl, rfl, rfl, add_z.symm, rfl, fun _ _ => rfl, hadd mk, by rw [hM2, mN_stI]; exact Nat.le_refl _, by rw [hM2, mN_stI]; omega, by rw [hM2, mS_stI]; omega, fun a h1 h2 => ?_⟩
          rw [hM2, mI_stI, va_up_ap, if_neg (by omega), mT_stI, mR_stI]
          exact ⟨rfl, rfl, rfl⟩
    · rw [hA] at hal k
      have x1 : ∀ Q, CaP 179 [.ref B, .int 0, .int (nI m)] M Q = Q (stN M 0 0 6, .inl (some (.int (-900003)))) := fun Q => @w179_t1 B 0 (nI m) M _ Q w.1 (fun Q => d53m w inm ho2 hal)
      have A1 : EvP 190 1143 [(0, .ref b), (1, .ref B), (4, .int 1), (6, .ref (B + 26)), (9, .int (ocO r u 4)), (10, .ref (B + 35)), (11, .int (o 5)), (12, .int to), (13, .int kn), (14, .int nn), (18, .int (nI m)), (19, .int (bi (isM (o 3) (o 4)))), (20, .int (bi false)), (21, .int (bi true)), (22, .int (suA false T (nI m) 54))] [] M Q = EvP 190 1194 [(0, .ref b), (1, .ref B), (4, .int 1), (6, .ref (B + 26)), (9, .int (ocO r u 4)), (10, .ref (B + 35)), (11, .int (o 5)), (12, .int to), (13, .int kn), (14, .int nn), (18, .int (nI m)), (19, .int (bi (isM (o 3) (o 4)))), (20, .int (bi false)), (21, .int (bi true)), (22, .int (suA false T (nI m) 54)), (23, .int 0)] [] (stN M 0 0 6) Q := by
        simp [lv_args, sStep, amStep, a_nx, a_ii, a_jj, a_ji, a_ld, a_st, a_if, a_ald, a_c1, a_c2, lkp, lput, lput2, lins, oP_none, oP_next, oP_call, oP_ret, oP_thr, outP_ite, aft_ret, aft_void, aft_thr, fHnd, List.isEmpty_nil, List.filter_cons, List.filter_nil, Value.category, csum, List.map_cons, List.map_nil, List.sum_cons, List.sum_nil, List.cons_append, List.nil_append, Option.toList, vp_nar_int, narrow_b1, narrow_b0, nc115, vc115, fc115, nc111, vc111, fc111, nc100, vc100, fc100, nc109, vc109, fc109, nc120, vc120, fc120, nc119, vc119, fc119, nc116, vc116, fc116, nc45, vc45, fc45, nc32, vc32, fc32, nc102, vc102, fc102, nc106, vc106, fc106, fin3, rf_some, rf_none, upd_ap, va_up_ap, nar_bi, fits_bi, nvp_bi, bi_t, bi_f, fval, fty, ftabs, wrv_0, wrv_1, wrv_2, wrv_3, wrv_5, mT_stI, mI_stI, mL_stI, mD_stI, mR_stI, mN_stI, mS_stI, mT_stL, mI_stL, mL_stL, mD_stL, mR_stL, mN_stL, mS_stL, mT_stD, mI_stD, mL_stD, mD_stD, mR_stD, mN_stD, mS_stD, mT_stR, mI_stR, mL_stR, mD_stR, mR_stR, mN_stR, mS_stR, mT_stN, mI_stN, mL_stN, mD_stN, mR_stN, mN_stN, mS_stN, e190_1143, e190_1145, e190_1146, e190_1147, e190_1149, e190_1152, e190_1154, e190_1157, e190_1159, e190_1162, e190_1164, e190_1167, e190_1168, e190_1171, e190_1172, e190_1173, e190_1175, e190_1177, e190_1179, e190_1182, e190_1184, e190_1187, e190_1188, e190_1189, e190_1191, e190_1192, rt190, hn190, nI_a1, bi_f, bi_t, cl179, x1, add_z]
      rw [A1]
      have kk := k (stN M 0 0 6) ?_
      · simp only [Bool.false_eq_true, if_false, add_z] at kk
        exact EvP_drop _ (by simp [gdL]) (by simp) kk
      · have hz : ∀ (f : Nat → Int32) c, f c + dlF (false || true) T (nI m) c = f c := fun f c => add_z
        refine ⟨o, pl, mk, LB_N h hb, rfl, rfl, rfl, add_z.symm, rfl, fun c _ => ?_, fun c _ => ?_, by rw [mN_stN]; omega, by rw [mN_stN]; omega, by rw [mS_stN]; omega, fun a h1 h2 => ?_⟩
        · rw [hz]; split <;> rfl
        · rw [hz]; split <;> rfl
        · rw [mI_stN, mT_stN, mR_stN, va_up_ap, va_up_ap, va_up_ap, if_neg (by omega), if_neg (by omega), if_neg (by omega)]
          exact ⟨rfl, rfl, rfl⟩
  · have ho2 : mI M B 2 < ocO (mI M (B + 18)) (mI M (B + 19)) 4 := by rw [ho, hr', hu']; exact of_decide_eq_true hs
    have hA : anyB (moA true T pl mk (nI m)) 54 = false := anyB_ff.mpr fun _ _ => moA_t
    rw [hA] at k ⊢
    have x1 : ∀ Q, CaP 179 [.ref B, .int 0, .int (nI m)] M Q = Q (stI M B (upd o 5 (o 5 + nI m)), .inl (some (.int 0))) := fun Q => by
      have := @w179_ok B 0 (nI m) _ M _ Q w.1 (fun Q => d53s w inm ho2)
      rw [ho] at this
      exact this
    have A1 : EvP 190 1143 [(0, .ref b), (1, .ref B), (4, .int 1), (6, .ref (B + 26)), (9, .int (ocO r u 4)), (10, .ref (B + 35)), (11, .int (o 5)), (12, .int to), (13, .int kn), (14, .int nn), (18, .int (nI m)), (19, .int (bi (isM (o 3) (o 4)))), (20, .int (bi true)), (21, .int (bi false)), (22, .int (suA true T (nI m) 54))] [] M Q = EvP 190 1194 [(0, .ref b), (1, .ref B), (4, .int 1), (6, .ref (B + 26)), (9, .int (ocO r u 4)), (10, .ref (B + 35)), (11, .int (o 5 + nI m)), (12, .int to), (13, .int kn), (14, .int nn), (18, .int (nI m)), (19, .int (bi (isM (o 3) (o 4)))), (20, .int (bi true)), (21, .int (bi false)), (22, .int (suA true T (nI m) 54)), (23, .int 0)] [] (stI M B (upd o 5 (o 5 + nI m))) Q := by
      simp [lv_args, sStep, amStep, a_nx, a_ii, a_jj, a_ji, a_ld, a_st, a_if, a_ald, a_c1, a_c2, lkp, lput, lput2, lins, oP_none, oP_next, oP_call, oP_ret, oP_thr, outP_ite, aft_ret, aft_void, aft_thr, fHnd, List.isEmpty_nil, List.filter_cons, List.filter_nil, Value.category, csum, List.map_cons, List.map_nil, List.sum_cons, List.sum_nil, List.cons_append, List.nil_append, Option.toList, vp_nar_int, narrow_b1, narrow_b0, nc115, vc115, fc115, nc111, vc111, fc111, nc100, vc100, fc100, nc109, vc109, fc109, nc120, vc120, fc120, nc119, vc119, fc119, nc116, vc116, fc116, nc45, vc45, fc45, nc32, vc32, fc32, nc102, vc102, fc102, nc106, vc106, fc106, fin3, rf_some, rf_none, upd_ap, va_up_ap, nar_bi, fits_bi, nvp_bi, bi_t, bi_f, fval, fty, ftabs, wrv_0, wrv_1, wrv_2, wrv_3, wrv_5, mT_stI, mI_stI, mL_stI, mD_stI, mR_stI, mN_stI, mS_stI, mT_stL, mI_stL, mL_stL, mD_stL, mR_stL, mN_stL, mS_stL, mT_stD, mI_stD, mL_stD, mD_stD, mR_stD, mN_stD, mS_stD, mT_stR, mI_stR, mL_stR, mD_stR, mR_stR, mN_stR, mS_stR, mT_stN, mI_stN, mL_stN, mD_stN, mR_stN, mN_stN, mS_stN, e190_1143, e190_1145, e190_1146, e190_1147, e190_1149, e190_1152, e190_1154, e190_1157, e190_1159, e190_1162, e190_1164, e190_1167, e190_1168, e190_1171, e190_1172, e190_1173, e190_1175, e190_1177, e190_1179, e190_1182, e190_1184, e190_1187, e190_1188, e190_1189, e190_1191, e190_1192, rt190, hn190, nI_a1, bi_f, bi_t, cl179, x1, suA_t 54]
    rw [A1]
    have kk := k (stI M B (upd o 5 (o 5 + nI m))) ?_
    · simp only [if_true] at kk
      exact EvP_drop _ (by simp [gdL]) (by simp) kk
    · have hz : ∀ (f : Nat → Int32) c, f c + dlF (true || false) T (nI m) c = f c := fun f c => add_z
      refine ⟨upd o 5 (o 5 + nI m), pl, mk, LB_o h hb, rfl, rfl, rfl, rfl, rfl, fun c _ => ?_, fun c _ => ?_, by rw [mN_stI]; omega, by rw [mN_stI]; omega, by rw [mS_stI]; omega, fun a h1 h2 => ?_⟩
      · rw [hz]; split <;> rfl
      · rw [hz]; split <;> rfl
      · rw [mI_stI, va_up_ap, if_neg (by omega), mT_stI, mR_stI]
        exact ⟨rfl, rfl, rfl⟩
end LL
