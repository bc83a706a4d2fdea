/-! ===== the law: the rows of a print ===== -/
theorem nI_mul {m t : Nat} : nI m * nI t = nI (m * t) := pk_mul m t
theorem moA_n {z : Bool} {T pl mk : Nat → Int32} {m : Nat} {c t x y : Nat} (hm : m ≤ 99) (ht : t ≤ 54) (hT : T c = nI t) (e1 : pl c = nI x) (e2 : mk c = nI y) (e3 : x + y ≤ 9999) (hz : z = false → moA false T pl mk (nI m) c = false) : ∃ d, dlF z T (nI m) c = nI d ∧ x + y + d ≤ 9999 := by
  cases z
  · refine ⟨m * t, by unfold dlF; rw [hT, if_neg (by decide), nI_mul], ?_⟩
    have h := hz rfl
    unfold moA at h
    rw [hT, e1, e2, nI_mul, nI_add, nI_add] at h
    rcases Nat.eq_zero_or_pos t with e | e
    · rw [e]; omega
    · have h1 : (0 : Int32) < nI t := by rw [lt0 (by omega)]; exact e
      have hmt : m * t ≤ 99 * 54 := Nat.mul_le_mul hm ht
      rw [decide_eq_true h1, Bool.not_false, Bool.true_and, Bool.true_and, decide_eq_false_iff_not, gt9 (by omega)] at h
      omega
  · exact ⟨0, by unfold dlF; rw [if_pos rfl]; rfl, by omega⟩
/-- a print keeps the piles' bound -/
theorem KP_BD {T pl mk pl' mk' : Nat → Int32} {ism s : Bool} {m : Nat} (hm : m ≤ 99) (hT : ∀ c, c < 54 → ∃ t, t ≤ 54 ∧ T c = nI t) (hD : BD pl mk) (h1 : ∀ c, c < 54 → pl' c = if ism = true then pl c else pl c + dlF (s || anyB (moA s T pl mk (nI m)) 54) T (nI m) c) (h2 : ∀ c, c < 54 → mk' c = if ism = true then mk c + dlF (s || anyB (moA s T pl mk (nI m)) 54) T (nI m) c else mk c) : BD pl' mk' := by
  intro c hc
  obtain ⟨x, y, e1, e2, e3⟩ := hD c hc
  obtain ⟨t, ht, e4⟩ := hT c hc
  obtain ⟨d, e5, e6⟩ := @moA_n (s || anyB (moA s T pl mk (nI m)) 54) T pl mk m c t x y hm ht e4 e1 e2 e3 (fun hz => by
    obtain ⟨hz1, hz2⟩ := Bool.or_eq_false_iff.mp hz
    subst hz1
    exact anyB_ff.mp hz2 c hc)
  rw [h1 c hc, h2 c hc, e5, e1, e2, nI_add, nI_add]
  cases ism
  · exact ⟨x + d, y, if_neg (by decide), if_neg (by decide), by omega⟩
  · exact ⟨x, y + d, if_pos rfl, if_pos rfl, by omega⟩
section LM
variable {b B L R C : Nat} {xs : Nat → Int32} {M : AMem} {Q : AR → Prop} {o P T r u pl mk pl' mk' : Nat → Int32}
/-- the rows below j brought up to date -/
def PLu (B j : Nat) (pl mk pl' mk' : Nat → Int32) (M : AMem) : Prop := ∀ c, c < 54 → mI M (B + 36 + c) 0 = (if c < j then pl' c else pl c) ∧ mI M (B + 36 + c) 1 = (if c < j then mk' c else mk c)
theorem segK4 {off sp to kn nn : Int32} {m : Nat} {ism s A : Bool} (hb : b < B) (h : LB b B L xs R C o P T r u pl' mk' M) (hN : B + 90 ≤ mN M) (h26 : mT M (B + 26) = (100, 54)) (hK : ∀ c, c < 54 → mI M (B + 26) c = T c) (hZ : PZ B M) (hV : PLs B pl mk M) (hpl : ∀ c, c < 54 → pl' c = if ism = true then pl c else pl c + dlF (s || A) T (nI m) c) (hmk : ∀ c, c < 54 → mk' c = if ism = true then mk c + dlF (s || A) T (nI m) c else mk c)
    (k : ∀ M', LB b B L xs R C o P T r u pl' mk' M' → mN M' = mN M → mS M' = mS M → mT M' (B + 26) = (100, 54) → (∀ c, c < 54 → mI M' (B + 26) c = T c) → PZ B M' → PLs B pl' mk' M' → EvP 190 1292 [(0, .ref b), (1, .ref B), (4, .int 1), (6, .ref (B + 26)), (9, .int off), (10, .ref (B + 35)), (11, .int sp), (12, .int to), (13, .int kn), (14, .int nn)] [] M' Q) :
    EvP 190 1194 [(0, .ref b), (1, .ref B), (4, .int 1), (6, .ref (B + 26)), (9, .int off), (10, .ref (B + 35)), (11, .int sp), (12, .int to), (13, .int kn), (14, .int nn), (18, .int (nI m)), (19, .int (bi ism)), (20, .int (bi s)), (21, .int (bi A)), (23, .int 0)] [] M Q := by
  have L0 : EvP 190 1194 [(0, .ref b), (1, .ref B), (4, .int 1), (6, .ref (B + 26)), (9, .int off), (10, .ref (B + 35)), (11, .int sp), (12, .int to), (13, .int kn), (14, .int nn), (18, .int (nI m)), (19, .int (bi ism)), (20, .int (bi s)), (21, .int (bi A)), (23, .int (nI 0))] [] M Q := by
    refine loopK (m := 190) (pc := 1194) (Q := Q) 54 (fun j => [(0, .ref b), (1, .ref B), (4, .int 1), (6, .ref (B + 26)), (9, .int off), (10, .ref (B + 35)), (11, .int sp), (12, .int to), (13, .int kn), (14, .int nn), (18, .int (nI m)), (19, .int (bi ism)), (20, .int (bi s)), (21, .int (bi A)), (23, .int (nI j))]) (fun j M' => LB b B L xs R C o P T r u pl' mk' M' ∧ mN M' = mN M ∧ mS M' = mS M ∧ mT M' (B + 26) = (100, 54) ∧ (∀ c, c < 54 → mI M' (B + 26) c = T c) ∧ PZ B M' ∧ PLu B j pl mk pl' mk' M') (fun j hj M' hI kk => ?_) (fun M' hI => ?_) M ⟨h, rfl, rfl, h26, hK, hZ, fun c hc => by rw [if_neg (Nat.not_lt_zero c), if_neg (Nat.not_lt_zero c)]; exact hV c hc⟩
    · obtain ⟨i1, i2, i3, i4, i5, i6, i7⟩ := hI
      obtain ⟨p1, p2⟩ := id i6
      obtain ⟨r1, r2⟩ := p2 j hj
      obtain ⟨v1, v2⟩ := i7 j hj
      rw [if_neg (Nat.lt_irrefl j)] at v1 v2
      have h5 := i5 j hj
      have hp := hpl j hj
      have hm := hmk j hj
      have cj := nI_clamp (show j < 2 ^ 31 by omega)
      obtain ⟨f, hf, hf0, hf1⟩ : ∃ f, f = upd (mI M' (B + 36 + j)) (if ism = true then 1 else 0) (if ism = true then mk j + dlF (s || A) T (nI m) j else pl j + dlF (s || A) T (nI m) j) ∧ f 0 = pl' j ∧ f 1 = mk' j := by
        refine ⟨_, rfl, ?_, ?_⟩
        · rw [hp, upd_ap]
          cases ism
          · rfl
          · exact v1
        · rw [hm, upd_ap]
          cases ism
          · exact v2
          · rfl
      have j1 : LB b B L xs R C o P T r u pl' mk' (stI M' (B + 36 + j) f) := LB_h (a := B + 36 + j) i1 hb (by omega)
      have A1 : EvP 190 1194 [(0, .ref b), (1, .ref B), (4, .int 1), (6, .ref (B + 26)), (9, .int off), (10, .ref (B + 35)), (11, .int sp), (12, .int to), (13, .int kn), (14, .int nn), (18, .int (nI m)), (19, .int (bi ism)), (20, .int (bi s)), (21, .int (bi A)), (23, .int (nI j))] [] M' Q = EvP 190 1242 [(0, .ref b), (1, .ref B), (4, .int 1), (6, .ref (B + 26)), (9, .int off), (10, .ref (B + 35)), (11, .int sp), (12, .int to), (13, .int kn), (14, .int nn), (18, .int (nI m)), (19, .int (bi ism)), (20, .int (bi s)), (21, .int (bi A)), (23, .int (nI j))] [] (stI M' (B + 36 + j) f) Q := by
        rw [hf]
        cases ism <;> cases s <;> cases A <;>
        simp [lv_args, sStep, amStep, a_nx, a_ii, a_jj, a_ji, a_ld, a_st, a_if, a_ald, a_c1, a_c2, lkp, lput, lput2, lins, oP_none, oP_next, oP_call, oP_ret, oP_thr, outP_ite, aft_ret, aft_void, aft_thr, fHnd, List.isEmpty_nil, List.filter_cons, List.filter_nil, Value.category, csum, List.map_cons, List.map_nil, List.sum_cons, List.sum_nil, List.cons_append, List.nil_append, Option.toList, vp_nar_int, narrow_b1, narrow_b0, nc115, vc115, fc115, nc111, vc111, fc111, nc100, vc100, fc100, nc109, vc109, fc109, nc120, vc120, fc120, nc119, vc119, fc119, nc116, vc116, fc116, nc45, vc45, fc45, nc32, vc32, fc32, nc102, vc102, fc102, nc106, vc106, fc106, fin3, rf_some, rf_none, upd_ap, va_up_ap, nar_bi, fits_bi, nvp_bi, bi_t, bi_f, fval, fty, ftabs, wrv_0, wrv_1, wrv_2, wrv_3, wrv_5, mT_stI, mI_stI, mL_stI, mD_stI, mR_stI, mN_stI, mS_stI, mT_stL, mI_stL, mL_stL, mD_stL, mR_stL, mN_stL, mS_stL, mT_stD, mI_stD, mL_stD, mD_stD, mR_stD, mN_stD, mS_stD, mT_stR, mI_stR, mL_stR, mD_stR, mR_stR, mN_stR, mS_stR, mT_stN, mI_stN, mL_stN, mD_stN, mR_stN, mN_stN, mS_stN, e190_1194, e190_1196, e190_1198, e190_1201, e190_1203, e190_1205, e190_1206, e190_1208, e190_1211, e190_1212, e190_1215, e190_1216, e190_1217, e190_1218, e190_1220, e190_1223, e190_1225, e190_1228, e190_1229, e190_1232, e190_1234, e190_1236, e190_1238, e190_1239, e190_1240, e190_1241, rt190, hn190, nI_a1, bi_f, bi_t, ge54 hj, p1, inb_nI hj, cj, r1, r2, ib02, ib12, ic0, ic1, v1, v2, i4, h5, dlF]
      rw [A1]
      have i6' : PZ B (stI M' (B + 36 + j) f) := by rw [PZ_stI]; exact i6
      have i4' : mT (stI M' (B + 36 + j) f) (B + 26) = (100, 54) := by rw [mT_stI]; exact i4
      have w0 : mI (stI M' (B + 36 + j) f) (B + 36 + j) = f := by rw [mI_stI, va_up_ap, if_pos rfl]
      have i5' : ∀ c, c < 54 → mI (stI M' (B + 36 + j) f) (B + 26) c = T c := fun c hc => by rw [mI_stI, va_up_ap, if_neg (by omega)]; exact i5 c hc
      have i7' : PLu B (j + 1) pl mk pl' mk' (stI M' (B + 36 + j) f) := fun c hc => by
        by_cases e : c = j
        · rw [e, w0, hf0, hf1, if_pos (by omega), if_pos (by omega)]
          exact ⟨rfl, rfl⟩
        · obtain ⟨y1, y2⟩ := i7 c hc
          rw [mI_stI, va_up_ap, if_neg (by omega), y1, y2]
          by_cases e2 : c < j
          · rw [if_pos e2, if_pos e2, if_pos (by omega), if_pos (by omega)]
            exact ⟨rfl, rfl⟩
          · rw [if_neg e2, if_neg e2, if_neg (by omega), if_neg (by omega)]
            exact ⟨rfl, rfl⟩
      have kk3 := kk _ ⟨j1, by rw [mN_stI]; exact i2, by rw [mS_stI]; exact i3, i4', i5', i6', i7'⟩
      generalize stI M' (B + 36 + j) f = M2 at j1 i6' w0 kk3 ⊢
      obtain ⟨⟨w, -⟩, -, q1, q2, -⟩ := id j1
      obtain ⟨p1, p2⟩ := i6'
      obtain ⟨r1, r2⟩ := p2 j hj
      have x1 : ∀ Q, CaP 180 [.ref B, .int (nI j), .int 0] M2 Q = Q (M2, .inl (some (.int (pl' j)))) := fun Q => by
        have := @w180_ok B (nI j) 0 _ M2 _ Q w.1 (fun Q => d55p w.1 hj)
        rw [q1] at this
        exact this
      have x2 : ∀ Q, CaP 180 [.ref B, .int (nI j), .int 1] M2 Q = Q (M2, .inl (some (.int (mk' j)))) := fun Q => by
        have := @w180_ok B (nI j) 1 _ M2 _ Q w.1 (fun Q => d55m w.1 hj)
        rw [q2] at this
        exact this
      simp [lv_args, sStep, amStep, a_nx, a_ii, a_jj, a_ji, a_ld, a_st, a_if, a_ald, a_c1, a_c2, lkp, lput, lput2, lins, oP_none, oP_next, oP_call, oP_ret, oP_thr, outP_ite, aft_ret, aft_void, aft_thr, fHnd, List.isEmpty_nil, List.filter_cons, List.filter_nil, Value.category, csum, List.map_cons, List.map_nil, List.sum_cons, List.sum_nil, List.cons_append, List.nil_append, Option.toList, vp_nar_int, narrow_b1, narrow_b0, nc115, vc115, fc115, nc111, vc111, fc111, nc100, vc100, fc100, nc109, vc109, fc109, nc120, vc120, fc120, nc119, vc119, fc119, nc116, vc116, fc116, nc45, vc45, fc45, nc32, vc32, fc32, nc102, vc102, fc102, nc106, vc106, fc106, fin3, rf_some, rf_none, upd_ap, va_up_ap, nar_bi, fits_bi, nvp_bi, bi_t, bi_f, fval, fty, ftabs, wrv_0, wrv_1, wrv_2, wrv_3, wrv_5, mT_stI, mI_stI, mL_stI, mD_stI, mR_stI, mN_stI, mS_stI, mT_stL, mI_stL, mL_stL, mD_stL, mR_stL, mN_stL, mS_stL, mT_stD, mI_stD, mL_stD, mD_stD, mR_stD, mN_stD, mS_stD, mT_stR, mI_stR, mL_stR, mD_stR, mR_stR, mN_stR, mS_stR, mT_stN, mI_stN, mL_stN, mD_stN, mR_stN, mN_stN, mS_stN, e190_1242, e190_1244, e190_1245, e190_1247, e190_1248, e190_1251, e190_1253, e190_1255, e190_1256, e190_1257, e190_1258, e190_1261, e190_1262, e190_1264, e190_1265, e190_1268, e190_1270, e190_1272, e190_1273, e190_1274, e190_1275, e190_1278, e190_1279, e190_1282, e190_1283, e190_1284, e190_1286, e190_1289, rt190, hn190, nI_a1, cl180, x1, x2, p1, inb_nI hj, cj, r1, r2, ib02, ib12, ic0, ic1, w0, hf0, hf1, nI_1]
      exact kk3
    · obtain ⟨i1, i2, i3, i4, i5, i6, i7⟩ := hI
      rw [e190_1194]
      simp [lv_args, sStep, amStep, a_nx, a_ii, a_jj, a_ji, a_ld, a_st, a_if, a_ald, a_c1, a_c2, lkp, lput, lput2, lins, oP_none, oP_next, oP_call, oP_ret, oP_thr, outP_ite, aft_ret, aft_void, aft_thr, fHnd, List.isEmpty_nil, List.filter_cons, List.filter_nil, Value.category, csum, List.map_cons, List.map_nil, List.sum_cons, List.sum_nil, List.cons_append, List.nil_append, Option.toList, vp_nar_int, narrow_b1, narrow_b0, nc115, vc115, fc115, nc111, vc111, fc111, nc100, vc100, fc100, nc109, vc109, fc109, nc120, vc120, fc120, nc119, vc119, fc119, nc116, vc116, fc116, nc45, vc45, fc45, nc32, vc32, fc32, nc102, vc102, fc102, nc106, vc106, fc106, fin3, rf_some, rf_none, upd_ap, va_up_ap, nar_bi, fits_bi, nvp_bi, bi_t, bi_f, fval, fty, ftabs, wrv_0, wrv_1, wrv_2, wrv_3, wrv_5, mT_stI, mI_stI, mL_stI, mD_stI, mR_stI, mN_stI, mS_stI, mT_stL, mI_stL, mL_stL, mD_stL, mR_stL, mN_stL, mS_stL, mT_stD, mI_stD, mL_stD, mD_stD, mR_stD, mN_stD, mS_stD, mT_stR, mI_stR, mL_stR, mD_stR, mR_stR, mN_stR, mS_stR, mT_stN, mI_stN, mL_stN, mD_stN, mR_stN, mN_stN, mS_stN, e190_1196, e190_1198, e190_1201, e190_1203, e190_1205, e190_1206, e190_1208, e190_1211, e190_1212, e190_1215, e190_1216, e190_1217, e190_1218, e190_1220, e190_1223, e190_1225, e190_1228, e190_1229, e190_1232, e190_1234, e190_1236, e190_1238, e190_1239, e190_1240, e190_1241, e190_1242, e190_1244, e190_1245, e190_1247, e190_1248, e190_1251, e190_1253, e190_1255, e190_1256, e190_1257, e190_1258, e190_1261, e190_1262, e190_1264, e190_1265, e190_1268, e190_1270, e190_1272, e190_1273, e190_1274, e190_1275, e190_1278, e190_1279, e190_1282, e190_1283, e190_1284, e190_1286, e190_1289, rt190, hn190, nI_a1, nI54, Int32.le_refl]
      refine EvP_drop [(0, .ref b), (1, .ref B), (4, .int 1), (6, .ref (B + 26)), (9, .int off), (10, .ref (B + 35)), (11, .int sp), (12, .int to), (13, .int kn), (14, .int nn)] (by simp [gdL]) (by simp) (k M' i1 i2 i3 i4 i5 i6 fun c hc => ?_)
      have := i7 c hc
      rw [if_pos hc, if_pos hc] at this
      exact this
  rw [nI_0] at L0
  exact L0
end LM
