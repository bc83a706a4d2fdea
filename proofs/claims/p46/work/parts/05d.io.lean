set_option maxRecDepth 100000 in
theorem io_190_0 : lc_190_0.all (insOk 190 (mC 190)) = true := by decide +kernel
set_option maxRecDepth 100000 in
theorem io_190_1 : lc_190_1.all (insOk 190 (mC 190)) = true := by decide +kernel
set_option maxRecDepth 100000 in
theorem io_190_2 : lc_190_2.all (insOk 190 (mC 190)) = true := by decide +kernel
set_option maxRecDepth 100000 in
theorem io_190_3 : lc_190_3.all (insOk 190 (mC 190)) = true := by decide +kernel
set_option maxRecDepth 100000 in
theorem io_190_4 : lc_190_4.all (insOk 190 (mC 190)) = true := by decide +kernel
set_option maxRecDepth 100000 in
theorem io_190_5 : lc_190_5.all (insOk 190 (mC 190)) = true := by decide +kernel
set_option maxRecDepth 100000 in
theorem io_190_6 : lc_190_6.all (insOk 190 (mC 190)) = true := by decide +kernel
set_option maxRecDepth 100000 in
theorem io_190_7 : lc_190_7.all (insOk 190 (mC 190)) = true := by decide +kernel
set_option maxRecDepth 100000 in
theorem io_190_8 : lc_190_8.all (insOk 190 (mC 190)) = true := by decide +kernel
set_option maxRecDepth 100000 in
theorem io_190_9 : lc_190_9.all (insOk 190 (mC 190)) = true := by decide +kernel
set_option maxRecDepth 100000 in
theorem io_190_10 : lc_190_10.all (insOk 190 (mC 190)) = true := by decide +kernel
set_option maxRecDepth 100000 in
theorem io_190_11 : lc_190_11.all (insOk 190 (mC 190)) = true := by decide +kernel
set_option maxRecDepth 100000 in
theorem io_190_12 : lc_190_12.all (insOk 190 (mC 190)) = true := by decide +kernel
set_option maxRecDepth 100000 in
theorem io_190_13 : lc_190_13.all (insOk 190 (mC 190)) = true := by decide +kernel
set_option maxRecDepth 100000 in
theorem io_190_14 : lc_190_14.all (insOk 190 (mC 190)) = true := by decide +kernel
set_option maxRecDepth 100000 in
theorem io_190_15 : lc_190_15.all (insOk 190 (mC 190)) = true := by decide +kernel
set_option maxRecDepth 100000 in
theorem io_190_16 : lc_190_16.all (insOk 190 (mC 190)) = true := by decide +kernel
theorem io_190 : (lcode 190).all (insOk 190 (mC 190)) = true := by
  show (lc_190_0 ++ lc_190_1 ++ lc_190_2 ++ lc_190_3 ++ lc_190_4 ++ lc_190_5 ++ lc_190_6 ++ lc_190_7 ++ lc_190_8 ++ lc_190_9 ++ lc_190_10 ++ lc_190_11 ++ lc_190_12 ++ lc_190_13 ++ lc_190_14 ++ lc_190_15 ++ lc_190_16).all _ = true
  simp only [List.all_append, io_190_0, io_190_1, io_190_2, io_190_3, io_190_4, io_190_5, io_190_6, io_190_7, io_190_8, io_190_9, io_190_10, io_190_11, io_190_12, io_190_13, io_190_14, io_190_15, io_190_16, Bool.and_self]
theorem io_all : ∀ j, j < lawM + 1 → (lcode j).all (insOk j (mC j)) = true := by
  show ∀ j, j < 191 → (lcode j).all (insOk j (mC j)) = true
  exact lt_s (lt_s (lt_s (lt_s (lt_s (lt_s (lt_s (lt_s (lt_s (lt_s (lt_s (lt_s (lt_s (lt_s (lt_s (lt_s (lt_s (lt_s (lt_s (lt_s (lt_s (lt_s (lt_s (lt_s (lt_s (lt_s (lt_s (lt_s (lt_s (lt_s (lt_s (lt_s (lt_s (lt_s (lt_s (lt_s (lt_s (lt_s (lt_s (lt_s (lt_s (lt_s (lt_s (lt_s (lt_s (lt_s (lt_s (lt_s (lt_s (lt_s (lt_s (lt_s (lt_s (lt_s (lt_s (lt_s (lt_s (lt_s (lt_s (lt_s (lt_s (lt_s (lt_s (lt_s (lt_s (lt_s (lt_s (lt_s (lt_s (lt_s (lt_s (lt_s (lt_s (lt_s (lt_s (lt_s (lt_s (lt_s (lt_s (lt_s (lt_s (lt_s (lt_s (lt_s (lt_s (lt_s (lt_s (lt_s (lt_s (lt_s (lt_s (lt_s (lt_s (lt_s (lt_s (lt_s (lt_s (lt_s (lt_s (lt_s (lt_s (lt_s (lt_s (lt_s (lt_s (lt_s (lt_s (lt_s (lt_s (lt_s (lt_s (lt_s (lt_s (lt_s (lt_s (lt_s (lt_s (lt_s (lt_s (lt_s (lt_s (lt_s (lt_s (lt_s (lt_s (lt_s (lt_s (lt_s (lt_s (lt_s (lt_s (lt_s (lt_s (lt_s (lt_s (lt_s (lt_s (lt_s (lt_s (lt_s (lt_s (lt_s (lt_s (lt_s (lt_s (lt_s (lt_s (lt_s (lt_s (lt_s (lt_s (lt_s (lt_s (lt_s (lt_s (lt_s (lt_s (lt_s (lt_s (lt_s (lt_s (lt_s (lt_s (lt_s (lt_s (lt_s (lt_s (lt_s (lt_s (lt_s (lt_s (lt_s (lt_s (lt_s (lt_s (lt_s (lt_s (lt_s (lt_s (lt_s (lt_s (lt_s (lt_s (lt_s (lt_s (lt_s (lt_s (lt_s (lt_s (lt_s (lt_s (lt_0) io_0) io_1) io_2) io_3) io_4) io_5) io_6) io_7) io_8) io_9) io_10) io_11) io_12) io_13) io_14) io_15) io_16) io_17) io_18) io_19) io_20) io_21) io_22) io_23) io_24) io_25) io_26) io_27) io_28) io_29) io_30) io_31) io_32) io_33) io_34) io_35) io_36) io_37) io_38) io_39) io_40) io_41) io_42) io_43) io_44) io_45) io_46) io_47) io_48) io_49) io_50) io_51) io_52) io_53) io_54) io_55) io_56) io_57) io_58) io_59) io_60) io_61) io_62) io_63) io_64) io_65) io_66) io_67) io_68) io_69) io_70) io_71) io_72) io_73) io_74) io_75) io_76) io_77) io_78) io_79) io_80) io_81) io_82) io_83) io_84) io_85) io_86) io_87) io_88) io_89) io_90) io_91) io_92) io_93) io_94) io_95) io_96) io_97) io_98) io_99) io_100) io_101) io_102) io_103) io_104) io_105) io_106) io_107) io_108) io_109) io_110) io_111) io_112) io_113) io_114) io_115) io_116) io_117) io_118) io_119) io_120) io_121) io_122) io_123) io_124) io_125) io_126) io_127) io_128) io_129) io_130) io_131) io_132) io_133) io_134) io_135) io_136) io_137) io_138) io_139) io_140) io_141) io_142) io_143) io_144) io_145) io_146) io_147) io_148) io_149) io_150) io_151) io_152) io_153) io_154) io_155) io_156) io_157) io_158) io_159) io_160) io_161) io_162) io_163) io_164) io_165) io_166) io_167) io_168) io_169) io_170) io_171) io_172) io_173) io_174) io_175) io_176) io_177) io_178) io_179) io_180) io_181) io_182) io_183) io_184) io_185) io_186) io_187) io_188) io_189) io_190
