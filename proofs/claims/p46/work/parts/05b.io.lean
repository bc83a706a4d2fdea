set_option maxRecDepth 100000 in
theorem io_0_0 : lc_0_0.all (insOk 0 (mC 0)) = true := by decide +kernel
theorem io_0 : (lcode 0).all (insOk 0 (mC 0)) = true := by
  show (lc_0_0).all _ = true
  simp only [List.all_append, io_0_0, Bool.and_self]
set_option maxRecDepth 100000 in
theorem io_1_0 : lc_1_0.all (insOk 1 (mC 1)) = true := by decide +kernel
theorem io_1 : (lcode 1).all (insOk 1 (mC 1)) = true := by
  show (lc_1_0).all _ = true
  simp only [List.all_append, io_1_0, Bool.and_self]
set_option maxRecDepth 100000 in
theorem io_2_0 : lc_2_0.all (insOk 2 (mC 2)) = true := by decide +kernel
theorem io_2 : (lcode 2).all (insOk 2 (mC 2)) = true := by
  show (lc_2_0).all _ = true
  simp only [List.all_append, io_2_0, Bool.and_self]
set_option maxRecDepth 100000 in
theorem io_3_0 : lc_3_0.all (insOk 3 (mC 3)) = true := by decide +kernel
theorem io_3 : (lcode 3).all (insOk 3 (mC 3)) = true := by
  show (lc_3_0).all _ = true
  simp only [List.all_append, io_3_0, Bool.and_self]
set_option maxRecDepth 100000 in
theorem io_4_0 : lc_4_0.all (insOk 4 (mC 4)) = true := by decide +kernel
theorem io_4 : (lcode 4).all (insOk 4 (mC 4)) = true := by
  show (lc_4_0).all _ = true
  simp only [List.all_append, io_4_0, Bool.and_self]
set_option maxRecDepth 100000 in
theorem io_5_0 : lc_5_0.all (insOk 5 (mC 5)) = true := by decide +kernel
theorem io_5 : (lcode 5).all (insOk 5 (mC 5)) = true := by
  show (lc_5_0).all _ = true
  simp only [List.all_append, io_5_0, Bool.and_self]
set_option maxRecDepth 100000 in
theorem io_6_0 : lc_6_0.all (insOk 6 (mC 6)) = true := by decide +kernel
theorem io_6 : (lcode 6).all (insOk 6 (mC 6)) = true := by
  show (lc_6_0).all _ = true
  simp only [List.all_append, io_6_0, Bool.and_self]
set_option maxRecDepth 100000 in
theorem io_7_0 : lc_7_0.all (insOk 7 (mC 7)) = true := by decide +kernel
theorem io_7 : (lcode 7).all (insOk 7 (mC 7)) = true := by
  show (lc_7_0).all _ = true
  simp only [List.all_append, io_7_0, Bool.and_self]
set_option maxRecDepth 100000 in
theorem io_8_0 : lc_8_0.all (insOk 8 (mC 8)) = true := by decide +kernel
theorem io_8 : (lcode 8).all (insOk 8 (mC 8)) = true := by
  show (lc_8_0).all _ = true
  simp only [List.all_append, io_8_0, Bool.and_self]
set_option maxRecDepth 100000 in
theorem io_9_0 : lc_9_0.all (insOk 9 (mC 9)) = true := by decide +kernel
theorem io_9 : (lcode 9).all (insOk 9 (mC 9)) = true := by
  show (lc_9_0).all _ = true
  simp only [List.all_append, io_9_0, Bool.and_self]
set_option maxRecDepth 100000 in
theorem io_10_0 : lc_10_0.all (insOk 10 (mC 10)) = true := by decide +kernel
theorem io_10 : (lcode 10).all (insOk 10 (mC 10)) = true := by
  show (lc_10_0).all _ = true
  simp only [List.all_append, io_10_0, Bool.and_self]
set_option maxRecDepth 100000 in
theorem io_11_0 : lc_11_0.all (insOk 11 (mC 11)) = true := by decide +kernel
theorem io_11 : (lcode 11).all (insOk 11 (mC 11)) = true := by
  show (lc_11_0).all _ = true
  simp only [List.all_append, io_11_0, Bool.and_self]
set_option maxRecDepth 100000 in
theorem io_12_0 : lc_12_0.all (insOk 12 (mC 12)) = true := by decide +kernel
theorem io_12 : (lcode 12).all (insOk 12 (mC 12)) = true := by
  show (lc_12_0).all _ = true
  simp only [List.all_append, io_12_0, Bool.and_self]
set_option maxRecDepth 100000 in
theorem io_13_0 : lc_13_0.all (insOk 13 (mC 13)) = true := by decide +kernel
theorem io_13 : (lcode 13).all (insOk 13 (mC 13)) = true := by
  show (lc_13_0).all _ = true
  simp only [List.all_append, io_13_0, Bool.and_self]
set_option maxRecDepth 100000 in
theorem io_14_0 : lc_14_0.all (insOk 14 (mC 14)) = true := by decide +kernel
theorem io_14 : (lcode 14).all (insOk 14 (mC 14)) = true := by
  show (lc_14_0).all _ = true
  simp only [List.all_append, io_14_0, Bool.and_self]
set_option maxRecDepth 100000 in
theorem io_15_0 : lc_15_0.all (insOk 15 (mC 15)) = true := by decide +kernel
theorem io_15 : (lcode 15).all (insOk 15 (mC 15)) = true := by
  show (lc_15_0).all _ = true
  simp only [List.all_append, io_15_0, Bool.and_self]
set_option maxRecDepth 100000 in
theorem io_16_0 : lc_16_0.all (insOk 16 (mC 16)) = true := by decide +kernel
theorem io_16 : (lcode 16).all (insOk 16 (mC 16)) = true := by
  show (lc_16_0).all _ = true
  simp only [List.all_append, io_16_0, Bool.and_self]
set_option maxRecDepth 100000 in
theorem io_17_0 : lc_17_0.all (insOk 17 (mC 17)) = true := by decide +kernel
theorem io_17 : (lcode 17).all (insOk 17 (mC 17)) = true := by
  show (lc_17_0).all _ = true
  simp only [List.all_append, io_17_0, Bool.and_self]
set_option maxRecDepth 100000 in
theorem io_18_0 : lc_18_0.all (insOk 18 (mC 18)) = true := by decide +kernel
theorem io_18 : (lcode 18).all (insOk 18 (mC 18)) = true := by
  show (lc_18_0).all _ = true
  simp only [List.all_append, io_18_0, Bool.and_self]
set_option maxRecDepth 100000 in
theorem io_19_0 : lc_19_0.all (insOk 19 (mC 19)) = true := by decide +kernel
theorem io_19 : (lcode 19).all (insOk 19 (mC 19)) = true := by
  show (lc_19_0).all _ = true
  simp only [List.all_append, io_19_0, Bool.and_self]
set_option maxRecDepth 100000 in
theorem io_20_0 : lc_20_0.all (insOk 20 (mC 20)) = true := by decide +kernel
theorem io_20 : (lcode 20).all (insOk 20 (mC 20)) = true := by
  show (lc_20_0).all _ = true
  simp only [List.all_append, io_20_0, Bool.and_self]
set_option maxRecDepth 100000 in
theorem io_21_0 : lc_21_0.all (insOk 21 (mC 21)) = true := by decide +kernel
theorem io_21 : (lcode 21).all (insOk 21 (mC 21)) = true := by
  show (lc_21_0).all _ = true
  simp only [List.all_append, io_21_0, Bool.and_self]
set_option maxRecDepth 100000 in
theorem io_22_0 : lc_22_0.all (insOk 22 (mC 22)) = true := by decide +kernel
theorem io_22 : (lcode 22).all (insOk 22 (mC 22)) = true := by
  show (lc_22_0).all _ = true
  simp only [List.all_append, io_22_0, Bool.and_self]
set_option maxRecDepth 100000 in
theorem io_23_0 : lc_23_0.all (insOk 23 (mC 23)) = true := by decide +kernel
theorem io_23 : (lcode 23).all (insOk 23 (mC 23)) = true := by
  show (lc_23_0).all _ = true
  simp only [List.all_append, io_23_0, Bool.and_self]
set_option maxRecDepth 100000 in
theorem io_24_0 : lc_24_0.all (insOk 24 (mC 24)) = true := by decide +kernel
theorem io_24 : (lcode 24).all (insOk 24 (mC 24)) = true := by
  show (lc_24_0).all _ = true
  simp only [List.all_append, io_24_0, Bool.and_self]
set_option maxRecDepth 100000 in
theorem io_25_0 : lc_25_0.all (insOk 25 (mC 25)) = true := by decide +kernel
theorem io_25 : (lcode 25).all (insOk 25 (mC 25)) = true := by
  show (lc_25_0).all _ = true
  simp only [List.all_append, io_25_0, Bool.and_self]
set_option maxRecDepth 100000 in
theorem io_26_0 : lc_26_0.all (insOk 26 (mC 26)) = true := by decide +kernel
theorem io_26 : (lcode 26).all (insOk 26 (mC 26)) = true := by
  show (lc_26_0).all _ = true
  simp only [List.all_append, io_26_0, Bool.and_self]
set_option maxRecDepth 100000 in
theorem io_27_0 : lc_27_0.all (insOk 27 (mC 27)) = true := by decide +kernel
theorem io_27 : (lcode 27).all (insOk 27 (mC 27)) = true := by
  show (lc_27_0).all _ = true
  simp only [List.all_append, io_27_0, Bool.and_self]
set_option maxRecDepth 100000 in
theorem io_28_0 : lc_28_0.all (insOk 28 (mC 28)) = true := by decide +kernel
theorem io_28 : (lcode 28).all (insOk 28 (mC 28)) = true := by
  show (lc_28_0).all _ = true
  simp only [List.all_append, io_28_0, Bool.and_self]
set_option maxRecDepth 100000 in
theorem io_29_0 : lc_29_0.all (insOk 29 (mC 29)) = true := by decide +kernel
theorem io_29 : (lcode 29).all (insOk 29 (mC 29)) = true := by
  show (lc_29_0).all _ = true
  simp only [List.all_append, io_29_0, Bool.and_self]
set_option maxRecDepth 100000 in
theorem io_30_0 : lc_30_0.all (insOk 30 (mC 30)) = true := by decide +kernel
theorem io_30 : (lcode 30).all (insOk 30 (mC 30)) = true := by
  show (lc_30_0).all _ = true
  simp only [List.all_append, io_30_0, Bool.and_self]
set_option maxRecDepth 100000 in
theorem io_31_0 : lc_31_0.all (insOk 31 (mC 31)) = true := by decide +kernel
theorem io_31 : (lcode 31).all (insOk 31 (mC 31)) = true := by
  show (lc_31_0).all _ = true
  simp only [List.all_append, io_31_0, Bool.and_self]
set_option maxRecDepth 100000 in
theorem io_32_0 : lc_32_0.all (insOk 32 (mC 32)) = true := by decide +kernel
theorem io_32 : (lcode 32).all (insOk 32 (mC 32)) = true := by
  show (lc_32_0).all _ = true
  simp only [List.all_append, io_32_0, Bool.and_self]
set_option maxRecDepth 100000 in
theorem io_33_0 : lc_33_0.all (insOk 33 (mC 33)) = true := by decide +kernel
theorem io_33 : (lcode 33).all (insOk 33 (mC 33)) = true := by
  show (lc_33_0).all _ = true
  simp only [List.all_append, io_33_0, Bool.and_self]
set_option maxRecDepth 100000 in
theorem io_34_0 : lc_34_0.all (insOk 34 (mC 34)) = true := by decide +kernel
theorem io_34 : (lcode 34).all (insOk 34 (mC 34)) = true := by
  show (lc_34_0).all _ = true
  simp only [List.all_append, io_34_0, Bool.and_self]
set_option maxRecDepth 100000 in
theorem io_35_0 : lc_35_0.all (insOk 35 (mC 35)) = true := by decide +kernel
theorem io_35 : (lcode 35).all (insOk 35 (mC 35)) = true := by
  show (lc_35_0).all _ = true
  simp only [List.all_append, io_35_0, Bool.and_self]
set_option maxRecDepth 100000 in
theorem io_36_0 : lc_36_0.all (insOk 36 (mC 36)) = true := by decide +kernel
theorem io_36 : (lcode 36).all (insOk 36 (mC 36)) = true := by
  show (lc_36_0).all _ = true
  simp only [List.all_append, io_36_0, Bool.and_self]
set_option maxRecDepth 100000 in
theorem io_37_0 : lc_37_0.all (insOk 37 (mC 37)) = true := by decide +kernel
theorem io_37 : (lcode 37).all (insOk 37 (mC 37)) = true := by
  show (lc_37_0).all _ = true
  simp only [List.all_append, io_37_0, Bool.and_self]
set_option maxRecDepth 100000 in
theorem io_38_0 : lc_38_0.all (insOk 38 (mC 38)) = true := by decide +kernel
theorem io_38 : (lcode 38).all (insOk 38 (mC 38)) = true := by
  show (lc_38_0).all _ = true
  simp only [List.all_append, io_38_0, Bool.and_self]
set_option maxRecDepth 100000 in
theorem io_39_0 : lc_39_0.all (insOk 39 (mC 39)) = true := by decide +kernel
theorem io_39 : (lcode 39).all (insOk 39 (mC 39)) = true := by
  show (lc_39_0).all _ = true
  simp only [List.all_append, io_39_0, Bool.and_self]
set_option maxRecDepth 100000 in
theorem io_40_0 : lc_40_0.all (insOk 40 (mC 40)) = true := by decide +kernel
theorem io_40 : (lcode 40).all (insOk 40 (mC 40)) = true := by
  show (lc_40_0).all _ = true
  simp only [List.all_append, io_40_0, Bool.and_self]
set_option maxRecDepth 100000 in
theorem io_41_0 : lc_41_0.all (insOk 41 (mC 41)) = true := by decide +kernel
theorem io_41 : (lcode 41).all (insOk 41 (mC 41)) = true := by
  show (lc_41_0).all _ = true
  simp only [List.all_append, io_41_0, Bool.and_self]
set_option maxRecDepth 100000 in
theorem io_42_0 : lc_42_0.all (insOk 42 (mC 42)) = true := by decide +kernel
theorem io_42 : (lcode 42).all (insOk 42 (mC 42)) = true := by
  show (lc_42_0).all _ = true
  simp only [List.all_append, io_42_0, Bool.and_self]
set_option maxRecDepth 100000 in
theorem io_43_0 : lc_43_0.all (insOk 43 (mC 43)) = true := by decide +kernel
theorem io_43 : (lcode 43).all (insOk 43 (mC 43)) = true := by
  show (lc_43_0).all _ = true
  simp only [List.all_append, io_43_0, Bool.and_self]
set_option maxRecDepth 100000 in
theorem io_44_0 : lc_44_0.all (insOk 44 (mC 44)) = true := by decide +kernel
theorem io_44 : (lcode 44).all (insOk 44 (mC 44)) = true := by
  show (lc_44_0).all _ = true
  simp only [List.all_append, io_44_0, Bool.and_self]
set_option maxRecDepth 100000 in
theorem io_45_0 : lc_45_0.all (insOk 45 (mC 45)) = true := by decide +kernel
theorem io_45 : (lcode 45).all (insOk 45 (mC 45)) = true := by
  show (lc_45_0).all _ = true
  simp only [List.all_append, io_45_0, Bool.and_self]
set_option maxRecDepth 100000 in
theorem io_46_0 : lc_46_0.all (insOk 46 (mC 46)) = true := by decide +kernel
theorem io_46 : (lcode 46).all (insOk 46 (mC 46)) = true := by
  show (lc_46_0).all _ = true
  simp only [List.all_append, io_46_0, Bool.and_self]
set_option maxRecDepth 100000 in
theorem io_47_0 : lc_47_0.all (insOk 47 (mC 47)) = true := by decide +kernel
theorem io_47 : (lcode 47).all (insOk 47 (mC 47)) = true := by
  show (lc_47_0).all _ = true
  simp only [List.all_append, io_47_0, Bool.and_self]
set_option maxRecDepth 100000 in
theorem io_48_0 : lc_48_0.all (insOk 48 (mC 48)) = true := by decide +kernel
theorem io_48 : (lcode 48).all (insOk 48 (mC 48)) = true := by
  show (lc_48_0).all _ = true
  simp only [List.all_append, io_48_0, Bool.and_self]
set_option maxRecDepth 100000 in
theorem io_49_0 : lc_49_0.all (insOk 49 (mC 49)) = true := by decide +kernel
theorem io_49 : (lcode 49).all (insOk 49 (mC 49)) = true := by
  show (lc_49_0).all _ = true
  simp only [List.all_append, io_49_0, Bool.and_self]
set_option maxRecDepth 100000 in
theorem io_50_0 : lc_50_0.all (insOk 50 (mC 50)) = true := by decide +kernel
theorem io_50 : (lcode 50).all (insOk 50 (mC 50)) = true := by
  show (lc_50_0).all _ = true
  simp only [List.all_append, io_50_0, Bool.and_self]
set_option maxRecDepth 100000 in
theorem io_51_0 : lc_51_0.all (insOk 51 (mC 51)) = true := by decide +kernel
theorem io_51 : (lcode 51).all (insOk 51 (mC 51)) = true := by
  show (lc_51_0).all _ = true
  simp only [List.all_append, io_51_0, Bool.and_self]
set_option maxRecDepth 100000 in
theorem io_52_0 : lc_52_0.all (insOk 52 (mC 52)) = true := by decide +kernel
theorem io_52 : (lcode 52).all (insOk 52 (mC 52)) = true := by
  show (lc_52_0).all _ = true
  simp only [List.all_append, io_52_0, Bool.and_self]
set_option maxRecDepth 100000 in
theorem io_53_0 : lc_53_0.all (insOk 53 (mC 53)) = true := by decide +kernel
theorem io_53 : (lcode 53).all (insOk 53 (mC 53)) = true := by
  show (lc_53_0).all _ = true
  simp only [List.all_append, io_53_0, Bool.and_self]
set_option maxRecDepth 100000 in
theorem io_54_0 : lc_54_0.all (insOk 54 (mC 54)) = true := by decide +kernel
theorem io_54 : (lcode 54).all (insOk 54 (mC 54)) = true := by
  show (lc_54_0).all _ = true
  simp only [List.all_append, io_54_0, Bool.and_self]
set_option maxRecDepth 100000 in
theorem io_55_0 : lc_55_0.all (insOk 55 (mC 55)) = true := by decide +kernel
theorem io_55 : (lcode 55).all (insOk 55 (mC 55)) = true := by
  show (lc_55_0).all _ = true
  simp only [List.all_append, io_55_0, Bool.and_self]
set_option maxRecDepth 100000 in
theorem io_56_0 : lc_56_0.all (insOk 56 (mC 56)) = true := by decide +kernel
theorem io_56 : (lcode 56).all (insOk 56 (mC 56)) = true := by
  show (lc_56_0).all _ = true
  simp only [List.all_append, io_56_0, Bool.and_self]
set_option maxRecDepth 100000 in
theorem io_57_0 : lc_57_0.all (insOk 57 (mC 57)) = true := by decide +kernel
theorem io_57 : (lcode 57).all (insOk 57 (mC 57)) = true := by
  show (lc_57_0).all _ = true
  simp only [List.all_append, io_57_0, Bool.and_self]
set_option maxRecDepth 100000 in
theorem io_58_0 : lc_58_0.all (insOk 58 (mC 58)) = true := by decide +kernel
theorem io_58 : (lcode 58).all (insOk 58 (mC 58)) = true := by
  show (lc_58_0).all _ = true
  simp only [List.all_append, io_58_0, Bool.and_self]
set_option maxRecDepth 100000 in
theorem io_59_0 : lc_59_0.all (insOk 59 (mC 59)) = true := by decide +kernel
theorem io_59 : (lcode 59).all (insOk 59 (mC 59)) = true := by
  show (lc_59_0).all _ = true
  simp only [List.all_append, io_59_0, Bool.and_self]
set_option maxRecDepth 100000 in
theorem io_60_0 : lc_60_0.all (insOk 60 (mC 60)) = true := by decide +kernel
theorem io_60 : (lcode 60).all (insOk 60 (mC 60)) = true := by
  show (lc_60_0).all _ = true
  simp only [List.all_append, io_60_0, Bool.and_self]
set_option maxRecDepth 100000 in
theorem io_61_0 : lc_61_0.all (insOk 61 (mC 61)) = true := by decide +kernel
theorem io_61 : (lcode 61).all (insOk 61 (mC 61)) = true := by
  show (lc_61_0).all _ = true
  simp only [List.all_append, io_61_0, Bool.and_self]
set_option maxRecDepth 100000 in
theorem io_62_0 : lc_62_0.all (insOk 62 (mC 62)) = true := by decide +kernel
theorem io_62 : (lcode 62).all (insOk 62 (mC 62)) = true := by
  show (lc_62_0).all _ = true
  simp only [List.all_append, io_62_0, Bool.and_self]
set_option maxRecDepth 100000 in
theorem io_63_0 : lc_63_0.all (insOk 63 (mC 63)) = true := by decide +kernel
theorem io_63 : (lcode 63).all (insOk 63 (mC 63)) = true := by
  show (lc_63_0).all _ = true
  simp only [List.all_append, io_63_0, Bool.and_self]
set_option maxRecDepth 100000 in
theorem io_64_0 : lc_64_0.all (insOk 64 (mC 64)) = true := by decide +kernel
theorem io_64 : (lcode 64).all (insOk 64 (mC 64)) = true := by
  show (lc_64_0).all _ = true
  simp only [List.all_append, io_64_0, Bool.and_self]
set_option maxRecDepth 100000 in
theorem io_65_0 : lc_65_0.all (insOk 65 (mC 65)) = true := by decide +kernel
theorem io_65 : (lcode 65).all (insOk 65 (mC 65)) = true := by
  show (lc_65_0).all _ = true
  simp only [List.all_append, io_65_0, Bool.and_self]
set_option maxRecDepth 100000 in
theorem io_66_0 : lc_66_0.all (insOk 66 (mC 66)) = true := by decide +kernel
theorem io_66 : (lcode 66).all (insOk 66 (mC 66)) = true := by
  show (lc_66_0).all _ = true
  simp only [List.all_append, io_66_0, Bool.and_self]
set_option maxRecDepth 100000 in
theorem io_67_0 : lc_67_0.all (insOk 67 (mC 67)) = true := by decide +kernel
theorem io_67 : (lcode 67).all (insOk 67 (mC 67)) = true := by
  show (lc_67_0).all _ = true
  simp only [List.all_append, io_67_0, Bool.and_self]
set_option maxRecDepth 100000 in
theorem io_68_0 : lc_68_0.all (insOk 68 (mC 68)) = true := by decide +kernel
theorem io_68 : (lcode 68).all (insOk 68 (mC 68)) = true := by
  show (lc_68_0).all _ = true
  simp only [List.all_append, io_68_0, Bool.and_self]
set_option maxRecDepth 100000 in
theorem io_69_0 : lc_69_0.all (insOk 69 (mC 69)) = true := by decide +kernel
theorem io_69 : (lcode 69).all (insOk 69 (mC 69)) = true := by
  show (lc_69_0).all _ = true
  simp only [List.all_append, io_69_0, Bool.and_self]
set_option maxRecDepth 100000 in
theorem io_70_0 : lc_70_0.all (insOk 70 (mC 70)) = true := by decide +kernel
theorem io_70 : (lcode 70).all (insOk 70 (mC 70)) = true := by
  show (lc_70_0).all _ = true
  simp only [List.all_append, io_70_0, Bool.and_self]
set_option maxRecDepth 100000 in
theorem io_71_0 : lc_71_0.all (insOk 71 (mC 71)) = true := by decide +kernel
theorem io_71 : (lcode 71).all (insOk 71 (mC 71)) = true := by
  show (lc_71_0).all _ = true
  simp only [List.all_append, io_71_0, Bool.and_self]
set_option maxRecDepth 100000 in
theorem io_72_0 : lc_72_0.all (insOk 72 (mC 72)) = true := by decide +kernel
theorem io_72 : (lcode 72).all (insOk 72 (mC 72)) = true := by
  show (lc_72_0).all _ = true
  simp only [List.all_append, io_72_0, Bool.and_self]
set_option maxRecDepth 100000 in
theorem io_73_0 : lc_73_0.all (insOk 73 (mC 73)) = true := by decide +kernel
theorem io_73 : (lcode 73).all (insOk 73 (mC 73)) = true := by
  show (lc_73_0).all _ = true
  simp only [List.all_append, io_73_0, Bool.and_self]
set_option maxRecDepth 100000 in
theorem io_74_0 : lc_74_0.all (insOk 74 (mC 74)) = true := by decide +kernel
theorem io_74 : (lcode 74).all (insOk 74 (mC 74)) = true := by
  show (lc_74_0).all _ = true
  simp only [List.all_append, io_74_0, Bool.and_self]
set_option maxRecDepth 100000 in
theorem io_75_0 : lc_75_0.all (insOk 75 (mC 75)) = true := by decide +kernel
theorem io_75 : (lcode 75).all (insOk 75 (mC 75)) = true := by
  show (lc_75_0).all _ = true
  simp only [List.all_append, io_75_0, Bool.and_self]
set_option maxRecDepth 100000 in
theorem io_76_0 : lc_76_0.all (insOk 76 (mC 76)) = true := by decide +kernel
theorem io_76 : (lcode 76).all (insOk 76 (mC 76)) = true := by
  show (lc_76_0).all _ = true
  simp only [List.all_append, io_76_0, Bool.and_self]
set_option maxRecDepth 100000 in
theorem io_77_0 : lc_77_0.all (insOk 77 (mC 77)) = true := by decide +kernel
theorem io_77 : (lcode 77).all (insOk 77 (mC 77)) = true := by
  show (lc_77_0).all _ = true
  simp only [List.all_append, io_77_0, Bool.and_self]
set_option maxRecDepth 100000 in
theorem io_78_0 : lc_78_0.all (insOk 78 (mC 78)) = true := by decide +kernel
theorem io_78 : (lcode 78).all (insOk 78 (mC 78)) = true := by
  show (lc_78_0).all _ = true
  simp only [List.all_append, io_78_0, Bool.and_self]
set_option maxRecDepth 100000 in
theorem io_79_0 : lc_79_0.all (insOk 79 (mC 79)) = true := by decide +kernel
theorem io_79 : (lcode 79).all (insOk 79 (mC 79)) = true := by
  show (lc_79_0).all _ = true
  simp only [List.all_append, io_79_0, Bool.and_self]
set_option maxRecDepth 100000 in
theorem io_80_0 : lc_80_0.all (insOk 80 (mC 80)) = true := by decide +kernel
theorem io_80 : (lcode 80).all (insOk 80 (mC 80)) = true := by
  show (lc_80_0).all _ = true
  simp only [List.all_append, io_80_0, Bool.and_self]
set_option maxRecDepth 100000 in
theorem io_81_0 : lc_81_0.all (insOk 81 (mC 81)) = true := by decide +kernel
theorem io_81 : (lcode 81).all (insOk 81 (mC 81)) = true := by
  show (lc_81_0).all _ = true
  simp only [List.all_append, io_81_0, Bool.and_self]
set_option maxRecDepth 100000 in
theorem io_82_0 : lc_82_0.all (insOk 82 (mC 82)) = true := by decide +kernel
theorem io_82 : (lcode 82).all (insOk 82 (mC 82)) = true := by
  show (lc_82_0).all _ = true
  simp only [List.all_append, io_82_0, Bool.and_self]
set_option maxRecDepth 100000 in
theorem io_83_0 : lc_83_0.all (insOk 83 (mC 83)) = true := by decide +kernel
theorem io_83 : (lcode 83).all (insOk 83 (mC 83)) = true := by
  show (lc_83_0).all _ = true
  simp only [List.all_append, io_83_0, Bool.and_self]
set_option maxRecDepth 100000 in
theorem io_84_0 : lc_84_0.all (insOk 84 (mC 84)) = true := by decide +kernel
theorem io_84 : (lcode 84).all (insOk 84 (mC 84)) = true := by
  show (lc_84_0).all _ = true
  simp only [List.all_append, io_84_0, Bool.and_self]
set_option maxRecDepth 100000 in
theorem io_85_0 : lc_85_0.all (insOk 85 (mC 85)) = true := by decide +kernel
theorem io_85 : (lcode 85).all (insOk 85 (mC 85)) = true := by
  show (lc_85_0).all _ = true
  simp only [List.all_append, io_85_0, Bool.and_self]
set_option maxRecDepth 100000 in
theorem io_86_0 : lc_86_0.all (insOk 86 (mC 86)) = true := by decide +kernel
theorem io_86 : (lcode 86).all (insOk 86 (mC 86)) = true := by
  show (lc_86_0).all _ = true
  simp only [List.all_append, io_86_0, Bool.and_self]
set_option maxRecDepth 100000 in
theorem io_87_0 : lc_87_0.all (insOk 87 (mC 87)) = true := by decide +kernel
theorem io_87 : (lcode 87).all (insOk 87 (mC 87)) = true := by
  show (lc_87_0).all _ = true
  simp only [List.all_append, io_87_0, Bool.and_self]
set_option maxRecDepth 100000 in
theorem io_88_0 : lc_88_0.all (insOk 88 (mC 88)) = true := by decide +kernel
theorem io_88 : (lcode 88).all (insOk 88 (mC 88)) = true := by
  show (lc_88_0).all _ = true
  simp only [List.all_append, io_88_0, Bool.and_self]
set_option maxRecDepth 100000 in
theorem io_89_0 : lc_89_0.all (insOk 89 (mC 89)) = true := by decide +kernel
theorem io_89 : (lcode 89).all (insOk 89 (mC 89)) = true := by
  show (lc_89_0).all _ = true
  simp only [List.all_append, io_89_0, Bool.and_self]
set_option maxRecDepth 100000 in
theorem io_90_0 : lc_90_0.all (insOk 90 (mC 90)) = true := by decide +kernel
theorem io_90 : (lcode 90).all (insOk 90 (mC 90)) = true := by
  show (lc_90_0).all _ = true
  simp only [List.all_append, io_90_0, Bool.and_self]
set_option maxRecDepth 100000 in
theorem io_91_0 : lc_91_0.all (insOk 91 (mC 91)) = true := by decide +kernel
theorem io_91 : (lcode 91).all (insOk 91 (mC 91)) = true := by
  show (lc_91_0).all _ = true
  simp only [List.all_append, io_91_0, Bool.and_self]
set_option maxRecDepth 100000 in
theorem io_92_0 : lc_92_0.all (insOk 92 (mC 92)) = true := by decide +kernel
theorem io_92 : (lcode 92).all (insOk 92 (mC 92)) = true := by
  show (lc_92_0).all _ = true
  simp only [List.all_append, io_92_0, Bool.and_self]
set_option maxRecDepth 100000 in
theorem io_93_0 : lc_93_0.all (insOk 93 (mC 93)) = true := by decide +kernel
theorem io_93 : (lcode 93).all (insOk 93 (mC 93)) = true := by
  show (lc_93_0).all _ = true
  simp only [List.all_append, io_93_0, Bool.and_self]
set_option maxRecDepth 100000 in
theorem io_94_0 : lc_94_0.all (insOk 94 (mC 94)) = true := by decide +kernel
theorem io_94 : (lcode 94).all (insOk 94 (mC 94)) = true := by
  show (lc_94_0).all _ = true
  simp only [List.all_append, io_94_0, Bool.and_self]
set_option maxRecDepth 100000 in
theorem io_95_0 : lc_95_0.all (insOk 95 (mC 95)) = true := by decide +kernel
theorem io_95 : (lcode 95).all (insOk 95 (mC 95)) = true := by
  show (lc_95_0).all _ = true
  simp only [List.all_append, io_95_0, Bool.and_self]
set_option maxRecDepth 100000 in
theorem io_96_0 : lc_96_0.all (insOk 96 (mC 96)) = true := by decide +kernel
theorem io_96 : (lcode 96).all (insOk 96 (mC 96)) = true := by
  show (lc_96_0).all _ = true
  simp only [List.all_append, io_96_0, Bool.and_self]
set_option maxRecDepth 100000 in
theorem io_97_0 : lc_97_0.all (insOk 97 (mC 97)) = true := by decide +kernel
theorem io_97 : (lcode 97).all (insOk 97 (mC 97)) = true := by
  show (lc_97_0).all _ = true
  simp only [List.all_append, io_97_0, Bool.and_self]
set_option maxRecDepth 100000 in
theorem io_98_0 : lc_98_0.all (insOk 98 (mC 98)) = true := by decide +kernel
theorem io_98 : (lcode 98).all (insOk 98 (mC 98)) = true := by
  show (lc_98_0).all _ = true
  simp only [List.all_append, io_98_0, Bool.and_self]
set_option maxRecDepth 100000 in
theorem io_99_0 : lc_99_0.all (insOk 99 (mC 99)) = true := by decide +kernel
theorem io_99 : (lcode 99).all (insOk 99 (mC 99)) = true := by
  show (lc_99_0).all _ = true
  simp only [List.all_append, io_99_0, Bool.and_self]
set_option maxRecDepth 100000 in
theorem io_100_0 : lc_100_0.all (insOk 100 (mC 100)) = true := by decide +kernel
theorem io_100 : (lcode 100).all (insOk 100 (mC 100)) = true := by
  show (lc_100_0).all _ = true
  simp only [List.all_append, io_100_0, Bool.and_self]
