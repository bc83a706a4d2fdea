set_option maxRecDepth 100000 in
theorem io_205_0 : lc_205_0.all (insOk 205 (mC 205)) = true := by decide +kernel
set_option maxRecDepth 100000 in
theorem io_205_1 : lc_205_1.all (insOk 205 (mC 205)) = true := by decide +kernel
set_option maxRecDepth 100000 in
theorem io_205_2 : lc_205_2.all (insOk 205 (mC 205)) = true := by decide +kernel
set_option maxRecDepth 100000 in
theorem io_205_3 : lc_205_3.all (insOk 205 (mC 205)) = true := by decide +kernel
set_option maxRecDepth 100000 in
theorem io_205_4 : lc_205_4.all (insOk 205 (mC 205)) = true := by decide +kernel
set_option maxRecDepth 100000 in
theorem io_205_5 : lc_205_5.all (insOk 205 (mC 205)) = true := by decide +kernel
set_option maxRecDepth 100000 in
theorem io_205_6 : lc_205_6.all (insOk 205 (mC 205)) = true := by decide +kernel
set_option maxRecDepth 100000 in
theorem io_205_7 : lc_205_7.all (insOk 205 (mC 205)) = true := by decide +kernel
set_option maxRecDepth 100000 in
theorem io_205_8 : lc_205_8.all (insOk 205 (mC 205)) = true := by decide +kernel
set_option maxRecDepth 100000 in
theorem io_205_9 : lc_205_9.all (insOk 205 (mC 205)) = true := by decide +kernel
set_option maxRecDepth 100000 in
theorem io_205_10 : lc_205_10.all (insOk 205 (mC 205)) = true := by decide +kernel
set_option maxRecDepth 100000 in
theorem io_205_11 : lc_205_11.all (insOk 205 (mC 205)) = true := by decide +kernel
set_option maxRecDepth 100000 in
theorem io_205_12 : lc_205_12.all (insOk 205 (mC 205)) = true := by decide +kernel
set_option maxRecDepth 100000 in
theorem io_205_13 : lc_205_13.all (insOk 205 (mC 205)) = true := by decide +kernel
set_option maxRecDepth 100000 in
theorem io_205_14 : lc_205_14.all (insOk 205 (mC 205)) = true := by decide +kernel
set_option maxRecDepth 100000 in
theorem io_205_15 : lc_205_15.all (insOk 205 (mC 205)) = true := by decide +kernel
set_option maxRecDepth 100000 in
theorem io_205_16 : lc_205_16.all (insOk 205 (mC 205)) = true := by decide +kernel
set_option maxRecDepth 100000 in
theorem io_205_17 : lc_205_17.all (insOk 205 (mC 205)) = true := by decide +kernel
set_option maxRecDepth 100000 in
theorem io_205_18 : lc_205_18.all (insOk 205 (mC 205)) = true := by decide +kernel
set_option maxRecDepth 100000 in
theorem io_205_19 : lc_205_19.all (insOk 205 (mC 205)) = true := by decide +kernel
set_option maxRecDepth 100000 in
theorem io_205_20 : lc_205_20.all (insOk 205 (mC 205)) = true := by decide +kernel
set_option maxRecDepth 100000 in
theorem io_205_21 : lc_205_21.all (insOk 205 (mC 205)) = true := by decide +kernel
set_option maxRecDepth 100000 in
theorem io_205_22 : lc_205_22.all (insOk 205 (mC 205)) = true := by decide +kernel
set_option maxRecDepth 100000 in
theorem io_205_23 : lc_205_23.all (insOk 205 (mC 205)) = true := by decide +kernel
set_option maxRecDepth 100000 in
theorem io_205_24 : lc_205_24.all (insOk 205 (mC 205)) = true := by decide +kernel
set_option maxRecDepth 100000 in
theorem io_205_25 : lc_205_25.all (insOk 205 (mC 205)) = true := by decide +kernel
set_option maxRecDepth 100000 in
theorem io_205_26 : lc_205_26.all (insOk 205 (mC 205)) = true := by decide +kernel
theorem io_205 : (lcode 205).all (insOk 205 (mC 205)) = true := by
  show (lc_205_0 ++ lc_205_1 ++ lc_205_2 ++ lc_205_3 ++ lc_205_4 ++ lc_205_5 ++ lc_205_6 ++ lc_205_7 ++ lc_205_8 ++ lc_205_9 ++ lc_205_10 ++ lc_205_11 ++ lc_205_12 ++ lc_205_13 ++ lc_205_14 ++ lc_205_15 ++ lc_205_16 ++ lc_205_17 ++ lc_205_18 ++ lc_205_19 ++ lc_205_20 ++ lc_205_21 ++ lc_205_22 ++ lc_205_23 ++ lc_205_24 ++ lc_205_25 ++ lc_205_26).all _ = true
  simp only [List.all_append, io_205_0, io_205_1, io_205_2, io_205_3, io_205_4, io_205_5, io_205_6, io_205_7, io_205_8, io_205_9, io_205_10, io_205_11, io_205_12, io_205_13, io_205_14, io_205_15, io_205_16, io_205_17, io_205_18, io_205_19, io_205_20, io_205_21, io_205_22, io_205_23, io_205_24, io_205_25, io_205_26, Bool.and_self]
theorem io_all : ∀ j, j < lawM + 1 → (lcode j).all (insOk j (mC j)) = true := by
  show ∀ j, j < 206 → (lcode j).all (insOk j (mC j)) = true
  exact lt_s (lt_s (lt_s (lt_s (lt_s (lt_s (lt_s (lt_s (lt_s (lt_s (lt_s (lt_s (lt_s (lt_s (lt_s (lt_s (lt_s (lt_s (lt_s (lt_s (lt_s (lt_s (lt_s (lt_s (lt_s (lt_s (lt_s (lt_s (lt_s (lt_s (lt_s (lt_s (lt_s (lt_s (lt_s (lt_s (lt_s (lt_s (lt_s (lt_s (lt_s (lt_s (lt_s (lt_s (lt_s (lt_s (lt_s (lt_s (lt_s (lt_s (lt_s (lt_s (lt_s (lt_s (lt_s (lt_s (lt_s (lt_s (lt_s (lt_s (lt_s (lt_s (lt_s (lt_s (lt_s (lt_s (lt_s (lt_s (lt_s (lt_s (lt_s (lt_s (lt_s (lt_s (lt_s (lt_s (lt_s (lt_s (lt_s (lt_s (lt_s (lt_s (lt_s (lt_s (lt_s (lt_s (lt_s (lt_s (lt_s (lt_s (lt_s (lt_s (lt_s (lt_s (lt_s (lt_s (lt_s (lt_s (lt_s (lt_s (lt_s (lt_s (lt_s (lt_s (lt_s (lt_s (lt_s (lt_s (lt_s (lt_s (lt_s (lt_s (lt_s (lt_s (lt_s (lt_s (lt_s (lt_s (lt_s (lt_s (lt_s (lt_s (lt_s (lt_s (lt_s (lt_s (lt_s (lt_s (lt_s (lt_s (lt_s (lt_s (lt_s (lt_s (lt_s (lt_s (lt_s (lt_s (lt_s (lt_s (lt_s (lt_s (lt_s (lt_s (lt_s (lt_s (lt_s (lt_s (lt_s (lt_s (lt_s (lt_s (lt_s (lt_s (lt_s (lt_s (lt_s (lt_s (lt_s (lt_s (lt_s (lt_s (lt_s (lt_s (lt_s (lt_s (lt_s (lt_s (lt_s (lt_s (lt_s (lt_s (lt_s (lt_s (lt_s (lt_s (lt_s (lt_s (lt_s (lt_s (lt_s (lt_s (lt_s (lt_s (lt_s (lt_s (lt_s (lt_s (lt_s (lt_s (lt_s (lt_s (lt_s (lt_s (lt_s (lt_s (lt_s (lt_s (lt_s (lt_s (lt_s (lt_s (lt_s (lt_s (lt_s (lt_s (lt_0) io_0) io_1) io_2) io_3) io_4) io_5) io_6) io_7) io_8) io_9) io_10) io_11) io_12) io_13) io_14) io_15) io_16) io_17) io_18) io_19) io_20) io_21) io_22) io_23) io_24) io_25) io_26) io_27) io_28) io_29) io_30) io_31) io_32) io_33) io_34) io_35) io_36) io_37) io_38) io_39) io_40) io_41) io_42) io_43) io_44) io_45) io_46) io_47) io_48) io_49) io_50) io_51) io_52) io_53) io_54) io_55) io_56) io_57) io_58) io_59) io_60) io_61) io_62) io_63) io_64) io_65) io_66) io_67) io_68) io_69) io_70) io_71) io_72) io_73) io_74) io_75) io_76) io_77) io_78) io_79) io_80) io_81) io_82) io_83) io_84) io_85) io_86) io_87) io_88) io_89) io_90) io_91) io_92) io_93) io_94) io_95) io_96) io_97) io_98) io_99) io_100) io_101) io_102) io_103) io_104) io_105) io_106) io_107) io_108) io_109) io_110) io_111) io_112) io_113) io_114) io_115) io_116) io_117) io_118) io_119) io_120) io_121) io_122) io_123) io_124) io_125) io_126) io_127) io_128) io_129) io_130) io_131) io_132) io_133) io_134) io_135) io_136) io_137) io_138) io_139) io_140) io_141) io_142) io_143) io_144) io_145) io_146) io_147) io_148) io_149) io_150) io_151) io_152) io_153) io_154) io_155) io_156) io_157) io_158) io_159) io_160) io_161) io_162) io_163) io_164) io_165) io_166) io_167) io_168) io_169) io_170) io_171) io_172) io_173) io_174) io_175) io_176) io_177) io_178) io_179) io_180) io_181) io_182) io_183) io_184) io_185) io_186) io_187) io_188) io_189) io_190) io_191) io_192) io_193) io_194) io_195) io_196) io_197) io_198) io_199) io_200) io_201) io_202) io_203) io_204) io_205
