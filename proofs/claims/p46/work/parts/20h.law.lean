/-! ===== the law: the eight prints together ===== -/
section LN
variable {b B L R C : Nat} {xs : Nat → Int32} {M : AMem} {Q : AR → Prop} {o P T r u pl mk : Nat → Int32}
/-- what stands at the head of the prints -/
def KI (b B L : Nat) (xs : Nat → Int32) (R C : Nat) (P T r u : Nat → Int32) (S0 n : Nat) (ls : ALs) (M : AMem) : Prop := ∃ o pl mk, ls = [(0, .ref b), (1, .ref B), (4, .int 1), (6, .ref (B + 26)), (9, .int (ocO r u 4)), (10, .ref (B + 35)), (11, .int (o 5)), (12, .int (o 2)), (13, .int (amt (o 3) + amt (o 4))), (14, .int (nI n))] ∧ LB b B L xs R C o P T r u pl mk M ∧ B + 90 ≤ mN M ∧ mN M ≤ B + 90 + n ∧ mS M ≤ S0 + 6 * n ∧ mT M (B + 26) = (100, 54) ∧ (∀ c, c < 54 → mI M (B + 26) c = T c) ∧ PZ B M ∧ PLs B pl mk M ∧ BD pl mk ∧ o 10 = 0
theorem segK {S : Nat} (hb : b < B) (hL : L ≤ 260) (hT : ∀ c, c < 54 → ∃ t, t ≤ 54 ∧ T c = nI t) (h : LQq b B L xs R C o P T r u pl mk T (B + 90) S M) (hZ : PZ B M) (hV : ∀ c, c < 54 → mI M (B + 36 + c) = fun _ => 0) (ho2 : o 2 = 10) (ho3 : o 3 = 0) (ho4 : o 4 = 0) (ho5 : o 5 = 0) (hoA : o 10 = 0) (hpl : ∀ c, c < 54 → pl c = 0) (hmk : ∀ c, c < 54 → mk c = 0)
    (k : ∀ o' pl' mk' M', LB b B L xs R C o' P T r u pl' mk' M' → B + 90 ≤ mN M' → mN M' ≤ B + 98 → mS M' ≤ S + 48 → PZ B M' → PLs B pl' mk' M' → BD pl' mk' → o' 10 = 0 → EvP 190 1298 [(0, .ref b), (1, .ref B), (4, .int 1), (10, .ref (B + 35)), (11, .int (o' 5))] [] M' Q) :
    EvP 190 865 [(0, .ref b), (1, .ref B), (4, .int 1), (6, .ref (B + 26)), (9, .int (ocO r u 4)), (10, .ref (B + 35)), (11, .int 0), (12, .int 10), (13, .int 0), (14, .int 0)] [] M Q := by
  have hT2 : ∀ c, c < 54 → ∃ t, t < 100 ∧ T c = nI t := fun c hc => by
    obtain ⟨t, h1, h2⟩ := hT c hc
    exact ⟨t, by omega, h2⟩
  obtain ⟨g1, g2, g3, g4, g5⟩ := h
  have a0 : amt (0 : Int32) + amt 0 = 0 := by decide
  refine loopM (m := 190) (pc := 865) (Q := Q) 8 (KI b B L xs R C P T r u S) (fun n hn ls M' hI kk => ?_) (fun ls M' hI => ?_) _ M ⟨o, pl, mk, by rw [ho2, ho3, ho4, ho5, a0, nI_0], g1, by omega, by omega, by omega, g4, g5, hZ, fun c hc => by rw [hV c hc, hpl c hc, hmk c hc]; exact ⟨rfl, rfl⟩, fun c hc => ⟨0, 0, hpl c hc, hmk c hc, by decide⟩, hoA⟩
  · obtain ⟨o1, pl1, mk1, rfl, i1, i2, i3, i4, i5, i6, i7, i8, i9, i10⟩ := hI
    refine segK1 hb hL hn i1 fun nx m rr uu hnx hm1 hm2 r6 u6 => ?_
    have j1 : LB b B L xs R C (oN o1 (nI nx) rr uu) P T r u pl1 mk1 (stI M' B (oN o1 (nI nx) rr uu)) := LB_o i1 hb
    have q : ∀ a, B + 20 ≤ a → mI (stI M' B (oN o1 (nI nx) rr uu)) a = mI M' a := fun a ha => by rw [mI_stI, va_up_ap, if_neg (by omega)]
    have j5 : mT (stI M' B (oN o1 (nI nx) rr uu)) (B + 26) = (100, 54) := by rw [mT_stI]; exact i5
    have j6 : ∀ c, c < 54 → mI (stI M' B (oN o1 (nI nx) rr uu)) (B + 26) c = T c := fun c hc => by rw [q _ (by omega)]; exact i6 c hc
    have j7 : PZ B (stI M' B (oN o1 (nI nx) rr uu)) := by rw [PZ_stI]; exact i7
    have j8 : PLs B pl1 mk1 (stI M' B (oN o1 (nI nx) rr uu)) := fun c hc => by rw [q _ (by omega)]; exact i8 c hc
    have jN : mN (stI M' B (oN o1 (nI nx) rr uu)) = mN M' := mN_stI ..
    have jS : mS (stI M' B (oN o1 (nI nx) rr uu)) = mS M' := mS_stI ..
    generalize stI M' B (oN o1 (nI nx) rr uu) = M1 at j1 j5 j6 j7 j8 jN jS ⊢
    refine segK2 j5 j6 j7 j8 ?_
    obtain ⟨s, hs⟩ : ∃ s, decide (nI nx < ocO r u 4) = s := ⟨_, rfl⟩
    rw [hs]
    have K3 := @segK3 b B L R C xs M1 Q (oN o1 (nI nx) rr uu) P T r u pl1 mk1 (nI nx) (amt rr + amt uu) (nI n) m hb hm1 hm2 hT2 i9 j1 s hs
    refine K3 fun M2 hM2 => ?_
    obtain ⟨o2, pl2, mk2, l1, l2, l3, l4, l5, l6, l7, l8, l9, l10, l11, l12⟩ := hM2
    have m5 : mT M2 (B + 26) = (100, 54) := by rw [(l12 _ (by omega) (by omega)).2.1]; exact j5
    have m6 : ∀ c, c < 54 → mI M2 (B + 26) c = T c := fun c hc => by rw [(l12 _ (by omega) (by omega)).1]; exact j6 c hc
    have m7 : PZ B M2 := ⟨by rw [(l12 _ (by omega) (by omega)).2.1]; exact j7.1, fun c hc => by rw [(l12 _ (by omega) (by omega)).2.1, (l12 _ (by omega) (by omega)).2.2]; exact j7.2 c hc⟩
    have m8 : PLs B pl1 mk1 M2 := fun c hc => by rw [(l12 _ (by omega) (by omega)).1]; exact j8 c hc
    refine segK4 hb l1 (by omega) m5 m6 m7 m8 l7 l8 fun M3 n1 n2 n3 n5 n6 n7 n8 => ?_
    rw [e190_1292]
    simp [lv_args, sStep, amStep, a_nx, a_ii, a_jj, a_ji, a_ld, a_st, a_if, a_ald, a_c1, a_c2, lkp, lput, lput2, lins, oP_none, oP_next, oP_call, oP_ret, oP_thr, outP_ite, aft_ret, aft_void, aft_thr, fHnd, List.isEmpty_nil, List.filter_cons, List.filter_nil, Value.category, csum, List.map_cons, List.map_nil, List.sum_cons, List.sum_nil, List.cons_append, List.nil_append, Option.toList, vp_nar_int, narrow_b1, narrow_b0, nc115, vc115, fc115, nc111, vc111, fc111, nc100, vc100, fc100, nc109, vc109, fc109, nc120, vc120, fc120, nc119, vc119, fc119, nc116, vc116, fc116, nc45, vc45, fc45, nc32, vc32, fc32, nc102, vc102, fc102, nc106, vc106, fc106, fin3, rf_some, rf_none, upd_ap, va_up_ap, nar_bi, fits_bi, nvp_bi, bi_t, bi_f, fval, fty, ftabs, wrv_0, wrv_1, wrv_2, wrv_3, wrv_5, mT_stI, mI_stI, mL_stI, mD_stI, mR_stI, mN_stI, mS_stI, mT_stL, mI_stL, mL_stL, mD_stL, mR_stL, mN_stL, mS_stL, mT_stD, mI_stD, mL_stD, mD_stD, mR_stD, mN_stD, mS_stD, mT_stR, mI_stR, mL_stR, mD_stR, mR_stR, mN_stR, mS_stR, mT_stN, mI_stN, mL_stN, mD_stN, mR_stN, mN_stN, mS_stN, e190_1295, rt190, hn190, nI_a1, nI_1]
    refine kk _ _ ⟨o2, pl2, mk2, ?_, n1, by omega, by omega, by omega, n5, n6, n7, n8, KP_BD hm2 hT i9 l7 l8, l6.trans i10⟩
    rw [l2, l3, l4, l5]
    rfl
  · obtain ⟨o1, pl1, mk1, rfl, i1, i2, i3, i4, i5, i6, i7, i8, i9, i10⟩ := hI
    have n8 : (8 : Int32) ≤ nI 8 := Int32.le_refl 8
    rw [e190_865]
    simp [lv_args, sStep, amStep, a_nx, a_ii, a_jj, a_ji, a_ld, a_st, a_if, a_ald, a_c1, a_c2, lkp, lput, lput2, lins, oP_none, oP_next, oP_call, oP_ret, oP_thr, outP_ite, aft_ret, aft_void, aft_thr, fHnd, List.isEmpty_nil, List.filter_cons, List.filter_nil, Value.category, csum, List.map_cons, List.map_nil, List.sum_cons, List.sum_nil, List.cons_append, List.nil_append, Option.toList, vp_nar_int, narrow_b1, narrow_b0, nc115, vc115, fc115, nc111, vc111, fc111, nc100, vc100, fc100, nc109, vc109, fc109, nc120, vc120, fc120, nc119, vc119, fc119, nc116, vc116, fc116, nc45, vc45, fc45, nc32, vc32, fc32, nc102, vc102, fc102, nc106, vc106, fc106, fin3, rf_some, rf_none, upd_ap, va_up_ap, nar_bi, fits_bi, nvp_bi, bi_t, bi_f, fval, fty, ftabs, wrv_0, wrv_1, wrv_2, wrv_3, wrv_5, mT_stI, mI_stI, mL_stI, mD_stI, mR_stI, mN_stI, mS_stI, mT_stL, mI_stL, mL_stL, mD_stL, mR_stL, mN_stL, mS_stL, mT_stD, mI_stD, mL_stD, mD_stD, mR_stD, mN_stD, mS_stD, mT_stR, mI_stR, mL_stR, mD_stR, mR_stR, mN_stR, mS_stR, mT_stN, mI_stN, mL_stN, mD_stN, mR_stN, mN_stN, mS_stN, e190_867, e190_869, e190_872, e190_873, e190_875, e190_877, e190_878, e190_880, e190_883, e190_885, e190_886, e190_888, e190_890, e190_891, e190_893, e190_896, e190_898, e190_899, e190_901, e190_902, e190_904, e190_906, e190_907, e190_909, e190_912, e190_914, e190_915, e190_917, e190_918, e190_919, e190_921, e190_923, e190_924, e190_926, e190_929, e190_930, e190_932, e190_934, e190_935, e190_937, e190_940, e190_942, e190_945, e190_946, e190_948, e190_950, e190_953, e190_955, e190_958, e190_959, e190_962, e190_963, e190_964, e190_966, e190_968, e190_970, e190_972, e190_975, e190_977, e190_978, e190_981, e190_983, e190_985, e190_988, e190_990, e190_991, e190_994, e190_996, e190_997, e190_999, e190_1001, e190_1002, e190_1005, e190_1007, e190_1009, e190_1012, e190_1014, e190_1015, e190_1018, e190_1020, e190_1022, e190_1025, e190_1026, e190_1029, e190_1030, e190_1032, e190_1034, e190_1036, e190_1039, e190_1040, e190_1043, e190_1044, e190_1046, e190_1047, e190_1049, e190_1050, e190_1052, e190_1053, e190_1055, e190_1057, e190_1059, e190_1062, e190_1064, e190_1066, e190_1069, e190_1071, e190_1073, e190_1074, e190_1077, e190_1079, e190_1081, e190_1082, e190_1083, e190_1084, e190_1086, e190_1088, e190_1089, e190_1090, e190_1091, e190_1092, e190_1094, e190_1096, e190_1098, e190_1099, e190_1100, e190_1101, e190_1104, e190_1107, e190_1108, e190_1111, e190_1112, e190_1113, e190_1115, e190_1117, e190_1119, e190_1122, e190_1123, e190_1126, e190_1128, e190_1130, e190_1132, e190_1133, e190_1134, e190_1135, e190_1137, e190_1140, e190_1143, e190_1145, e190_1146, e190_1147, e190_1149, e190_1152, e190_1154, e190_1157, e190_1159, e190_1162, e190_1164, e190_1167, e190_1168, e190_1171, e190_1172, e190_1173, e190_1175, e190_1177, e190_1179, e190_1182, e190_1184, e190_1187, e190_1188, e190_1189, e190_1191, e190_1192, e190_1194, e190_1196, e190_1198, e190_1201, e190_1203, e190_1205, e190_1206, e190_1208, e190_1211, e190_1212, e190_1215, e190_1216, e190_1217, e190_1218, e190_1220, e190_1223, e190_1225, e190_1228, e190_1229, e190_1232, e190_1234, e190_1236, e190_1238, e190_1239, e190_1240, e190_1241, e190_1242, e190_1244, e190_1245, e190_1247, e190_1248, e190_1251, e190_1253, e190_1255, e190_1256, e190_1257, e190_1258, e190_1261, e190_1262, e190_1264, e190_1265, e190_1268, e190_1270, e190_1272, e190_1273, e190_1274, e190_1275, e190_1278, e190_1279, e190_1282, e190_1283, e190_1284, e190_1286, e190_1289, e190_1292, e190_1295, rt190, hn190, nI_a1, n8]
    exact EvP_drop [(0, .ref b), (1, .ref B), (4, .int 1), (10, .ref (B + 35)), (11, .int (o1 5))] (by simp [gdL]) (by simp) (k o1 pl1 mk1 M' i1 i2 i3 (by omega) i7 i8 i9 i10)
end LN
