set_option maxRecDepth 100000 in
theorem cw_0 : lw_tbl[(mPc 0).1]? = some (mW 0) := rfl
set_option maxRecDepth 100000 in
theorem cw_1 : lw_tbl[(mPc 1).1]? = some (mW 1) := rfl
set_option maxRecDepth 100000 in
theorem cw_2 : lw_tbl[(mPc 2).1]? = some (mW 2) := rfl
set_option maxRecDepth 100000 in
theorem cw_3 : lw_tbl[(mPc 3).1]? = some (mW 3) := rfl
set_option maxRecDepth 100000 in
theorem cw_4 : lw_tbl[(mPc 4).1]? = some (mW 4) := rfl
set_option maxRecDepth 100000 in
theorem cw_5 : lw_tbl[(mPc 5).1]? = some (mW 5) := rfl
set_option maxRecDepth 100000 in
theorem cw_6 : lw_tbl[(mPc 6).1]? = some (mW 6) := rfl
set_option maxRecDepth 100000 in
theorem cw_7 : lw_tbl[(mPc 7).1]? = some (mW 7) := rfl
set_option maxRecDepth 100000 in
theorem cw_8 : lw_tbl[(mPc 8).1]? = some (mW 8) := rfl
set_option maxRecDepth 100000 in
theorem cw_9 : lw_tbl[(mPc 9).1]? = some (mW 9) := rfl
set_option maxRecDepth 100000 in
theorem cw_10 : lw_tbl[(mPc 10).1]? = some (mW 10) := rfl
set_option maxRecDepth 100000 in
theorem cw_11 : lw_tbl[(mPc 11).1]? = some (mW 11) := rfl
set_option maxRecDepth 100000 in
theorem cw_12 : lw_tbl[(mPc 12).1]? = some (mW 12) := rfl
set_option maxRecDepth 100000 in
theorem cw_13 : lw_tbl[(mPc 13).1]? = some (mW 13) := rfl
set_option maxRecDepth 100000 in
theorem cw_14 : lw_tbl[(mPc 14).1]? = some (mW 14) := rfl
set_option maxRecDepth 100000 in
theorem cw_15 : lw_tbl[(mPc 15).1]? = some (mW 15) := rfl
set_option maxRecDepth 100000 in
theorem cw_16 : lw_tbl[(mPc 16).1]? = some (mW 16) := rfl
set_option maxRecDepth 100000 in
theorem cw_17 : lw_tbl[(mPc 17).1]? = some (mW 17) := rfl
set_option maxRecDepth 100000 in
theorem cw_18 : lw_tbl[(mPc 18).1]? = some (mW 18) := rfl
set_option maxRecDepth 100000 in
theorem cw_19 : lw_tbl[(mPc 19).1]? = some (mW 19) := rfl
set_option maxRecDepth 100000 in
theorem cw_20 : lw_tbl[(mPc 20).1]? = some (mW 20) := rfl
set_option maxRecDepth 100000 in
theorem cw_21 : lw_tbl[(mPc 21).1]? = some (mW 21) := rfl
set_option maxRecDepth 100000 in
theorem cw_22 : lw_tbl[(mPc 22).1]? = some (mW 22) := rfl
set_option maxRecDepth 100000 in
theorem cw_23 : lw_tbl[(mPc 23).1]? = some (mW 23) := rfl
set_option maxRecDepth 100000 in
theorem cw_24 : lw_tbl[(mPc 24).1]? = some (mW 24) := rfl
set_option maxRecDepth 100000 in
theorem cw_25 : lw_tbl[(mPc 25).1]? = some (mW 25) := rfl
set_option maxRecDepth 100000 in
theorem cw_26 : lw_tbl[(mPc 26).1]? = some (mW 26) := rfl
set_option maxRecDepth 100000 in
theorem cw_27 : lw_tbl[(mPc 27).1]? = some (mW 27) := rfl
set_option maxRecDepth 100000 in
theorem cw_28 : lw_tbl[(mPc 28).1]? = some (mW 28) := rfl
set_option maxRecDepth 100000 in
theorem cw_29 : lw_tbl[(mPc 29).1]? = some (mW 29) := rfl
set_option maxRecDepth 100000 in
theorem cw_30 : lw_tbl[(mPc 30).1]? = some (mW 30) := rfl
set_option maxRecDepth 100000 in
theorem cw_31 : lw_tbl[(mPc 31).1]? = some (mW 31) := rfl
set_option maxRecDepth 100000 in
theorem cw_32 : lw_tbl[(mPc 32).1]? = some (mW 32) := rfl
set_option maxRecDepth 100000 in
theorem cw_33 : lw_tbl[(mPc 33).1]? = some (mW 33) := rfl
set_option maxRecDepth 100000 in
theorem cw_34 : lw_tbl[(mPc 34).1]? = some (mW 34) := rfl
set_option maxRecDepth 100000 in
theorem cw_35 : lw_tbl[(mPc 35).1]? = some (mW 35) := rfl
set_option maxRecDepth 100000 in
theorem cw_36 : lw_tbl[(mPc 36).1]? = some (mW 36) := rfl
set_option maxRecDepth 100000 in
theorem cw_37 : lw_tbl[(mPc 37).1]? = some (mW 37) := rfl
set_option maxRecDepth 100000 in
theorem cw_38 : lw_tbl[(mPc 38).1]? = some (mW 38) := rfl
set_option maxRecDepth 100000 in
theorem cw_39 : lw_tbl[(mPc 39).1]? = some (mW 39) := rfl
set_option maxRecDepth 100000 in
theorem cw_40 : lw_tbl[(mPc 40).1]? = some (mW 40) := rfl
set_option maxRecDepth 100000 in
theorem cw_41 : lw_tbl[(mPc 41).1]? = some (mW 41) := rfl
set_option maxRecDepth 100000 in
theorem cw_42 : lw_tbl[(mPc 42).1]? = some (mW 42) := rfl
set_option maxRecDepth 100000 in
theorem cw_43 : lw_tbl[(mPc 43).1]? = some (mW 43) := rfl
set_option maxRecDepth 100000 in
theorem cw_44 : lw_tbl[(mPc 44).1]? = some (mW 44) := rfl
set_option maxRecDepth 100000 in
theorem cw_45 : lw_tbl[(mPc 45).1]? = some (mW 45) := rfl
set_option maxRecDepth 100000 in
theorem cw_46 : lw_tbl[(mPc 46).1]? = some (mW 46) := rfl
set_option maxRecDepth 100000 in
theorem cw_47 : lw_tbl[(mPc 47).1]? = some (mW 47) := rfl
set_option maxRecDepth 100000 in
theorem cw_48 : lw_tbl[(mPc 48).1]? = some (mW 48) := rfl
set_option maxRecDepth 100000 in
theorem cw_49 : lw_tbl[(mPc 49).1]? = some (mW 49) := rfl
set_option maxRecDepth 100000 in
theorem cw_50 : lw_tbl[(mPc 50).1]? = some (mW 50) := rfl
set_option maxRecDepth 100000 in
theorem cw_51 : lw_tbl[(mPc 51).1]? = some (mW 51) := rfl
set_option maxRecDepth 100000 in
theorem cw_52 : lw_tbl[(mPc 52).1]? = some (mW 52) := rfl
set_option maxRecDepth 100000 in
theorem cw_53 : lw_tbl[(mPc 53).1]? = some (mW 53) := rfl
set_option maxRecDepth 100000 in
theorem cw_54 : lw_tbl[(mPc 54).1]? = some (mW 54) := rfl
set_option maxRecDepth 100000 in
theorem cw_55 : lw_tbl[(mPc 55).1]? = some (mW 55) := rfl
set_option maxRecDepth 100000 in
theorem cw_56 : lw_tbl[(mPc 56).1]? = some (mW 56) := rfl
set_option maxRecDepth 100000 in
theorem cw_57 : lw_tbl[(mPc 57).1]? = some (mW 57) := rfl
set_option maxRecDepth 100000 in
theorem cw_58 : lw_tbl[(mPc 58).1]? = some (mW 58) := rfl
set_option maxRecDepth 100000 in
theorem cw_59 : lw_tbl[(mPc 59).1]? = some (mW 59) := rfl
set_option maxRecDepth 100000 in
theorem cw_60 : lw_tbl[(mPc 60).1]? = some (mW 60) := rfl
set_option maxRecDepth 100000 in
theorem cw_61 : lw_tbl[(mPc 61).1]? = some (mW 61) := rfl
set_option maxRecDepth 100000 in
theorem cw_62 : lw_tbl[(mPc 62).1]? = some (mW 62) := rfl
set_option maxRecDepth 100000 in
theorem cw_63 : lw_tbl[(mPc 63).1]? = some (mW 63) := rfl
set_option maxRecDepth 100000 in
theorem cw_64 : lw_tbl[(mPc 64).1]? = some (mW 64) := rfl
set_option maxRecDepth 100000 in
theorem cw_65 : lw_tbl[(mPc 65).1]? = some (mW 65) := rfl
set_option maxRecDepth 100000 in
theorem cw_66 : lw_tbl[(mPc 66).1]? = some (mW 66) := rfl
set_option maxRecDepth 100000 in
theorem cw_67 : lw_tbl[(mPc 67).1]? = some (mW 67) := rfl
set_option maxRecDepth 100000 in
theorem cw_68 : lw_tbl[(mPc 68).1]? = some (mW 68) := rfl
set_option maxRecDepth 100000 in
theorem cw_69 : lw_tbl[(mPc 69).1]? = some (mW 69) := rfl
set_option maxRecDepth 100000 in
theorem cw_70 : lw_tbl[(mPc 70).1]? = some (mW 70) := rfl
set_option maxRecDepth 100000 in
theorem cw_71 : lw_tbl[(mPc 71).1]? = some (mW 71) := rfl
set_option maxRecDepth 100000 in
theorem cw_72 : lw_tbl[(mPc 72).1]? = some (mW 72) := rfl
set_option maxRecDepth 100000 in
theorem cw_73 : lw_tbl[(mPc 73).1]? = some (mW 73) := rfl
set_option maxRecDepth 100000 in
theorem cw_74 : lw_tbl[(mPc 74).1]? = some (mW 74) := rfl
set_option maxRecDepth 100000 in
theorem cw_75 : lw_tbl[(mPc 75).1]? = some (mW 75) := rfl
set_option maxRecDepth 100000 in
theorem cw_76 : lw_tbl[(mPc 76).1]? = some (mW 76) := rfl
set_option maxRecDepth 100000 in
theorem cw_77 : lw_tbl[(mPc 77).1]? = some (mW 77) := rfl
set_option maxRecDepth 100000 in
theorem cw_78 : lw_tbl[(mPc 78).1]? = some (mW 78) := rfl
set_option maxRecDepth 100000 in
theorem cw_79 : lw_tbl[(mPc 79).1]? = some (mW 79) := rfl
set_option maxRecDepth 100000 in
theorem cw_80 : lw_tbl[(mPc 80).1]? = some (mW 80) := rfl
set_option maxRecDepth 100000 in
theorem cw_81 : lw_tbl[(mPc 81).1]? = some (mW 81) := rfl
set_option maxRecDepth 100000 in
theorem cw_82 : lw_tbl[(mPc 82).1]? = some (mW 82) := rfl
set_option maxRecDepth 100000 in
theorem cw_83 : lw_tbl[(mPc 83).1]? = some (mW 83) := rfl
set_option maxRecDepth 100000 in
theorem cw_84 : lw_tbl[(mPc 84).1]? = some (mW 84) := rfl
set_option maxRecDepth 100000 in
theorem cw_85 : lw_tbl[(mPc 85).1]? = some (mW 85) := rfl
set_option maxRecDepth 100000 in
theorem cw_86 : lw_tbl[(mPc 86).1]? = some (mW 86) := rfl
set_option maxRecDepth 100000 in
theorem cw_87 : lw_tbl[(mPc 87).1]? = some (mW 87) := rfl
set_option maxRecDepth 100000 in
theorem cw_88 : lw_tbl[(mPc 88).1]? = some (mW 88) := rfl
set_option maxRecDepth 100000 in
theorem cw_89 : lw_tbl[(mPc 89).1]? = some (mW 89) := rfl
set_option maxRecDepth 100000 in
theorem cw_90 : lw_tbl[(mPc 90).1]? = some (mW 90) := rfl
set_option maxRecDepth 100000 in
theorem cw_91 : lw_tbl[(mPc 91).1]? = some (mW 91) := rfl
set_option maxRecDepth 100000 in
theorem cw_92 : lw_tbl[(mPc 92).1]? = some (mW 92) := rfl
set_option maxRecDepth 100000 in
theorem cw_93 : lw_tbl[(mPc 93).1]? = some (mW 93) := rfl
set_option maxRecDepth 100000 in
theorem cw_94 : lw_tbl[(mPc 94).1]? = some (mW 94) := rfl
set_option maxRecDepth 100000 in
theorem cw_95 : lw_tbl[(mPc 95).1]? = some (mW 95) := rfl
set_option maxRecDepth 100000 in
theorem cw_96 : lw_tbl[(mPc 96).1]? = some (mW 96) := rfl
set_option maxRecDepth 100000 in
theorem cw_97 : lw_tbl[(mPc 97).1]? = some (mW 97) := rfl
set_option maxRecDepth 100000 in
theorem cw_98 : lw_tbl[(mPc 98).1]? = some (mW 98) := rfl
set_option maxRecDepth 100000 in
theorem cw_99 : lw_tbl[(mPc 99).1]? = some (mW 99) := rfl
set_option maxRecDepth 100000 in
theorem cw_100 : lw_tbl[(mPc 100).1]? = some (mW 100) := rfl
set_option maxRecDepth 100000 in
theorem cw_101 : lw_tbl[(mPc 101).1]? = some (mW 101) := rfl
set_option maxRecDepth 100000 in
theorem cw_102 : lw_tbl[(mPc 102).1]? = some (mW 102) := rfl
set_option maxRecDepth 100000 in
theorem cw_103 : lw_tbl[(mPc 103).1]? = some (mW 103) := rfl
set_option maxRecDepth 100000 in
theorem cw_104 : lw_tbl[(mPc 104).1]? = some (mW 104) := rfl
set_option maxRecDepth 100000 in
theorem cw_105 : lw_tbl[(mPc 105).1]? = some (mW 105) := rfl
set_option maxRecDepth 100000 in
theorem cw_106 : lw_tbl[(mPc 106).1]? = some (mW 106) := rfl
set_option maxRecDepth 100000 in
theorem cw_107 : lw_tbl[(mPc 107).1]? = some (mW 107) := rfl
set_option maxRecDepth 100000 in
theorem cw_108 : lw_tbl[(mPc 108).1]? = some (mW 108) := rfl
set_option maxRecDepth 100000 in
theorem cw_109 : lw_tbl[(mPc 109).1]? = some (mW 109) := rfl
set_option maxRecDepth 100000 in
theorem cw_110 : lw_tbl[(mPc 110).1]? = some (mW 110) := rfl
set_option maxRecDepth 100000 in
theorem cw_111 : lw_tbl[(mPc 111).1]? = some (mW 111) := rfl
set_option maxRecDepth 100000 in
theorem cw_112 : lw_tbl[(mPc 112).1]? = some (mW 112) := rfl
set_option maxRecDepth 100000 in
theorem cw_113 : lw_tbl[(mPc 113).1]? = some (mW 113) := rfl
set_option maxRecDepth 100000 in
theorem cw_114 : lw_tbl[(mPc 114).1]? = some (mW 114) := rfl
set_option maxRecDepth 100000 in
theorem cw_115 : lw_tbl[(mPc 115).1]? = some (mW 115) := rfl
set_option maxRecDepth 100000 in
theorem cw_116 : lw_tbl[(mPc 116).1]? = some (mW 116) := rfl
set_option maxRecDepth 100000 in
theorem cw_117 : lw_tbl[(mPc 117).1]? = some (mW 117) := rfl
set_option maxRecDepth 100000 in
theorem cw_118 : lw_tbl[(mPc 118).1]? = some (mW 118) := rfl
set_option maxRecDepth 100000 in
theorem cw_119 : lw_tbl[(mPc 119).1]? = some (mW 119) := rfl
set_option maxRecDepth 100000 in
theorem cw_120 : lw_tbl[(mPc 120).1]? = some (mW 120) := rfl
set_option maxRecDepth 100000 in
theorem cw_121 : lw_tbl[(mPc 121).1]? = some (mW 121) := rfl
set_option maxRecDepth 100000 in
theorem cw_122 : lw_tbl[(mPc 122).1]? = some (mW 122) := rfl
set_option maxRecDepth 100000 in
theorem cw_123 : lw_tbl[(mPc 123).1]? = some (mW 123) := rfl
set_option maxRecDepth 100000 in
theorem cw_124 : lw_tbl[(mPc 124).1]? = some (mW 124) := rfl
set_option maxRecDepth 100000 in
theorem cw_125 : lw_tbl[(mPc 125).1]? = some (mW 125) := rfl
set_option maxRecDepth 100000 in
theorem cw_126 : lw_tbl[(mPc 126).1]? = some (mW 126) := rfl
set_option maxRecDepth 100000 in
theorem cw_127 : lw_tbl[(mPc 127).1]? = some (mW 127) := rfl
set_option maxRecDepth 100000 in
theorem cw_128 : lw_tbl[(mPc 128).1]? = some (mW 128) := rfl
set_option maxRecDepth 100000 in
theorem cw_129 : lw_tbl[(mPc 129).1]? = some (mW 129) := rfl
set_option maxRecDepth 100000 in
theorem cw_130 : lw_tbl[(mPc 130).1]? = some (mW 130) := rfl
set_option maxRecDepth 100000 in
theorem cw_131 : lw_tbl[(mPc 131).1]? = some (mW 131) := rfl
set_option maxRecDepth 100000 in
theorem cw_132 : lw_tbl[(mPc 132).1]? = some (mW 132) := rfl
set_option maxRecDepth 100000 in
theorem cw_133 : lw_tbl[(mPc 133).1]? = some (mW 133) := rfl
set_option maxRecDepth 100000 in
theorem cw_134 : lw_tbl[(mPc 134).1]? = some (mW 134) := rfl
set_option maxRecDepth 100000 in
theorem cw_135 : lw_tbl[(mPc 135).1]? = some (mW 135) := rfl
set_option maxRecDepth 100000 in
theorem cw_136 : lw_tbl[(mPc 136).1]? = some (mW 136) := rfl
set_option maxRecDepth 100000 in
theorem cw_137 : lw_tbl[(mPc 137).1]? = some (mW 137) := rfl
set_option maxRecDepth 100000 in
theorem cw_138 : lw_tbl[(mPc 138).1]? = some (mW 138) := rfl
set_option maxRecDepth 100000 in
theorem cw_139 : lw_tbl[(mPc 139).1]? = some (mW 139) := rfl
set_option maxRecDepth 100000 in
theorem cw_140 : lw_tbl[(mPc 140).1]? = some (mW 140) := rfl
set_option maxRecDepth 100000 in
theorem cw_141 : lw_tbl[(mPc 141).1]? = some (mW 141) := rfl
set_option maxRecDepth 100000 in
theorem cw_142 : lw_tbl[(mPc 142).1]? = some (mW 142) := rfl
set_option maxRecDepth 100000 in
theorem cw_143 : lw_tbl[(mPc 143).1]? = some (mW 143) := rfl
set_option maxRecDepth 100000 in
theorem cw_144 : lw_tbl[(mPc 144).1]? = some (mW 144) := rfl
set_option maxRecDepth 100000 in
theorem cw_145 : lw_tbl[(mPc 145).1]? = some (mW 145) := rfl
set_option maxRecDepth 100000 in
theorem cw_146 : lw_tbl[(mPc 146).1]? = some (mW 146) := rfl
set_option maxRecDepth 100000 in
theorem cw_147 : lw_tbl[(mPc 147).1]? = some (mW 147) := rfl
set_option maxRecDepth 100000 in
theorem cw_148 : lw_tbl[(mPc 148).1]? = some (mW 148) := rfl
set_option maxRecDepth 100000 in
theorem cw_149 : lw_tbl[(mPc 149).1]? = some (mW 149) := rfl
set_option maxRecDepth 100000 in
theorem cw_150 : lw_tbl[(mPc 150).1]? = some (mW 150) := rfl
set_option maxRecDepth 100000 in
theorem cw_151 : lw_tbl[(mPc 151).1]? = some (mW 151) := rfl
set_option maxRecDepth 100000 in
theorem cw_152 : lw_tbl[(mPc 152).1]? = some (mW 152) := rfl
set_option maxRecDepth 100000 in
theorem cw_153 : lw_tbl[(mPc 153).1]? = some (mW 153) := rfl
set_option maxRecDepth 100000 in
theorem cw_154 : lw_tbl[(mPc 154).1]? = some (mW 154) := rfl
set_option maxRecDepth 100000 in
theorem cw_155 : lw_tbl[(mPc 155).1]? = some (mW 155) := rfl
set_option maxRecDepth 100000 in
theorem cw_156 : lw_tbl[(mPc 156).1]? = some (mW 156) := rfl
set_option maxRecDepth 100000 in
theorem cw_157 : lw_tbl[(mPc 157).1]? = some (mW 157) := rfl
set_option maxRecDepth 100000 in
theorem cw_158 : lw_tbl[(mPc 158).1]? = some (mW 158) := rfl
set_option maxRecDepth 100000 in
theorem cw_159 : lw_tbl[(mPc 159).1]? = some (mW 159) := rfl
set_option maxRecDepth 100000 in
theorem cw_160 : lw_tbl[(mPc 160).1]? = some (mW 160) := rfl
set_option maxRecDepth 100000 in
theorem cw_161 : lw_tbl[(mPc 161).1]? = some (mW 161) := rfl
set_option maxRecDepth 100000 in
theorem cw_162 : lw_tbl[(mPc 162).1]? = some (mW 162) := rfl
set_option maxRecDepth 100000 in
theorem cw_163 : lw_tbl[(mPc 163).1]? = some (mW 163) := rfl
set_option maxRecDepth 100000 in
theorem cw_164 : lw_tbl[(mPc 164).1]? = some (mW 164) := rfl
set_option maxRecDepth 100000 in
theorem cw_165 : lw_tbl[(mPc 165).1]? = some (mW 165) := rfl
set_option maxRecDepth 100000 in
theorem cw_166 : lw_tbl[(mPc 166).1]? = some (mW 166) := rfl
set_option maxRecDepth 100000 in
theorem cw_167 : lw_tbl[(mPc 167).1]? = some (mW 167) := rfl
set_option maxRecDepth 100000 in
theorem cw_168 : lw_tbl[(mPc 168).1]? = some (mW 168) := rfl
set_option maxRecDepth 100000 in
theorem cw_169 : lw_tbl[(mPc 169).1]? = some (mW 169) := rfl
set_option maxRecDepth 100000 in
theorem cw_170 : lw_tbl[(mPc 170).1]? = some (mW 170) := rfl
set_option maxRecDepth 100000 in
theorem cw_171 : lw_tbl[(mPc 171).1]? = some (mW 171) := rfl
set_option maxRecDepth 100000 in
theorem cw_172 : lw_tbl[(mPc 172).1]? = some (mW 172) := rfl
set_option maxRecDepth 100000 in
theorem cw_173 : lw_tbl[(mPc 173).1]? = some (mW 173) := rfl
set_option maxRecDepth 100000 in
theorem cw_174 : lw_tbl[(mPc 174).1]? = some (mW 174) := rfl
set_option maxRecDepth 100000 in
theorem cw_175 : lw_tbl[(mPc 175).1]? = some (mW 175) := rfl
set_option maxRecDepth 100000 in
theorem cw_176 : lw_tbl[(mPc 176).1]? = some (mW 176) := rfl
set_option maxRecDepth 100000 in
theorem cw_177 : lw_tbl[(mPc 177).1]? = some (mW 177) := rfl
set_option maxRecDepth 100000 in
theorem cw_178 : lw_tbl[(mPc 178).1]? = some (mW 178) := rfl
set_option maxRecDepth 100000 in
theorem cw_179 : lw_tbl[(mPc 179).1]? = some (mW 179) := rfl
set_option maxRecDepth 100000 in
theorem cw_180 : lw_tbl[(mPc 180).1]? = some (mW 180) := rfl
set_option maxRecDepth 100000 in
theorem cw_181 : lw_tbl[(mPc 181).1]? = some (mW 181) := rfl
set_option maxRecDepth 100000 in
theorem cw_182 : lw_tbl[(mPc 182).1]? = some (mW 182) := rfl
set_option maxRecDepth 100000 in
theorem cw_183 : lw_tbl[(mPc 183).1]? = some (mW 183) := rfl
set_option maxRecDepth 100000 in
theorem cw_184 : lw_tbl[(mPc 184).1]? = some (mW 184) := rfl
set_option maxRecDepth 100000 in
theorem cw_185 : lw_tbl[(mPc 185).1]? = some (mW 185) := rfl
set_option maxRecDepth 100000 in
theorem cw_186 : lw_tbl[(mPc 186).1]? = some (mW 186) := rfl
set_option maxRecDepth 100000 in
theorem cw_187 : lw_tbl[(mPc 187).1]? = some (mW 187) := rfl
set_option maxRecDepth 100000 in
theorem cw_188 : lw_tbl[(mPc 188).1]? = some (mW 188) := rfl
set_option maxRecDepth 100000 in
theorem cw_189 : lw_tbl[(mPc 189).1]? = some (mW 189) := rfl
theorem cw_all : ∀ j, j < lawM → lw_tbl[(mPc j).1]? = some (mW j) := by
  show ∀ j, j < 190 → lw_tbl[(mPc j).1]? = some (mW j)
  exact lt_s (lt_s (lt_s (lt_s (lt_s (lt_s (lt_s (lt_s (lt_s (lt_s (lt_s (lt_s (lt_s (lt_s (lt_s (lt_s (lt_s (lt_s (lt_s (lt_s (lt_s (lt_s (lt_s (lt_s (lt_s (lt_s (lt_s (lt_s (lt_s (lt_s (lt_s (lt_s (lt_s (lt_s (lt_s (lt_s (lt_s (lt_s (lt_s (lt_s (lt_s (lt_s (lt_s (lt_s (lt_s (lt_s (lt_s (lt_s (lt_s (lt_s (lt_s (lt_s (lt_s (lt_s (lt_s (lt_s (lt_s (lt_s (lt_s (lt_s (lt_s (lt_s (lt_s (lt_s (lt_s (lt_s (lt_s (lt_s (lt_s (lt_s (lt_s (lt_s (lt_s (lt_s (lt_s (lt_s (lt_s (lt_s (lt_s (lt_s (lt_s (lt_s (lt_s (lt_s (lt_s (lt_s (lt_s (lt_s (lt_s (lt_s (lt_s (lt_s (lt_s (lt_s (lt_s (lt_s (lt_s (lt_s (lt_s (lt_s (lt_s (lt_s (lt_s (lt_s (lt_s (lt_s (lt_s (lt_s (lt_s (lt_s (lt_s (lt_s (lt_s (lt_s (lt_s (lt_s (lt_s (lt_s (lt_s (lt_s (lt_s (lt_s (lt_s (lt_s (lt_s (lt_s (lt_s (lt_s (lt_s (lt_s (lt_s (lt_s (lt_s (lt_s (lt_s (lt_s (lt_s (lt_s (lt_s (lt_s (lt_s (lt_s (lt_s (lt_s (lt_s (lt_s (lt_s (lt_s (lt_s (lt_s (lt_s (lt_s (lt_s (lt_s (lt_s (lt_s (lt_s (lt_s (lt_s (lt_s (lt_s (lt_s (lt_s (lt_s (lt_s (lt_s (lt_s (lt_s (lt_s (lt_s (lt_s (lt_s (lt_s (lt_s (lt_s (lt_s (lt_s (lt_s (lt_s (lt_s (lt_s (lt_s (lt_s (lt_s (lt_s (lt_s (lt_s (lt_s (lt_s (lt_s (lt_0) cw_0) cw_1) cw_2) cw_3) cw_4) cw_5) cw_6) cw_7) cw_8) cw_9) cw_10) cw_11) cw_12) cw_13) cw_14) cw_15) cw_16) cw_17) cw_18) cw_19) cw_20) cw_21) cw_22) cw_23) cw_24) cw_25) cw_26) cw_27) cw_28) cw_29) cw_30) cw_31) cw_32) cw_33) cw_34) cw_35) cw_36) cw_37) cw_38) cw_39) cw_40) cw_41) cw_42) cw_43) cw_44) cw_45) cw_46) cw_47) cw_48) cw_49) cw_50) cw_51) cw_52) cw_53) cw_54) cw_55) cw_56) cw_57) cw_58) cw_59) cw_60) cw_61) cw_62) cw_63) cw_64) cw_65) cw_66) cw_67) cw_68) cw_69) cw_70) cw_71) cw_72) cw_73) cw_74) cw_75) cw_76) cw_77) cw_78) cw_79) cw_80) cw_81) cw_82) cw_83) cw_84) cw_85) cw_86) cw_87) cw_88) cw_89) cw_90) cw_91) cw_92) cw_93) cw_94) cw_95) cw_96) cw_97) cw_98) cw_99) cw_100) cw_101) cw_102) cw_103) cw_104) cw_105) cw_106) cw_107) cw_108) cw_109) cw_110) cw_111) cw_112) cw_113) cw_114) cw_115) cw_116) cw_117) cw_118) cw_119) cw_120) cw_121) cw_122) cw_123) cw_124) cw_125) cw_126) cw_127) cw_128) cw_129) cw_130) cw_131) cw_132) cw_133) cw_134) cw_135) cw_136) cw_137) cw_138) cw_139) cw_140) cw_141) cw_142) cw_143) cw_144) cw_145) cw_146) cw_147) cw_148) cw_149) cw_150) cw_151) cw_152) cw_153) cw_154) cw_155) cw_156) cw_157) cw_158) cw_159) cw_160) cw_161) cw_162) cw_163) cw_164) cw_165) cw_166) cw_167) cw_168) cw_169) cw_170) cw_171) cw_172) cw_173) cw_174) cw_175) cw_176) cw_177) cw_178) cw_179) cw_180) cw_181) cw_182) cw_183) cw_184) cw_185) cw_186) cw_187) cw_188) cw_189
