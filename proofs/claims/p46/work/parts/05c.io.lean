set_option maxRecDepth 100000 in
theorem io_101_0 : lc_101_0.all (insOk 101 (mC 101)) = true := by decide +kernel
theorem io_101 : (lcode 101).all (insOk 101 (mC 101)) = true := by
  show (lc_101_0).all _ = true
  simp only [List.all_append, io_101_0, Bool.and_self]
set_option maxRecDepth 100000 in
theorem io_102_0 : lc_102_0.all (insOk 102 (mC 102)) = true := by decide +kernel
theorem io_102 : (lcode 102).all (insOk 102 (mC 102)) = true := by
  show (lc_102_0).all _ = true
  simp only [List.all_append, io_102_0, Bool.and_self]
set_option maxRecDepth 100000 in
theorem io_103_0 : lc_103_0.all (insOk 103 (mC 103)) = true := by decide +kernel
theorem io_103 : (lcode 103).all (insOk 103 (mC 103)) = true := by
  show (lc_103_0).all _ = true
  simp only [List.all_append, io_103_0, Bool.and_self]
set_option maxRecDepth 100000 in
theorem io_104_0 : lc_104_0.all (insOk 104 (mC 104)) = true := by decide +kernel
theorem io_104 : (lcode 104).all (insOk 104 (mC 104)) = true := by
  show (lc_104_0).all _ = true
  simp only [List.all_append, io_104_0, Bool.and_self]
set_option maxRecDepth 100000 in
theorem io_105_0 : lc_105_0.all (insOk 105 (mC 105)) = true := by decide +kernel
theorem io_105 : (lcode 105).all (insOk 105 (mC 105)) = true := by
  show (lc_105_0).all _ = true
  simp only [List.all_append, io_105_0, Bool.and_self]
set_option maxRecDepth 100000 in
theorem io_106_0 : lc_106_0.all (insOk 106 (mC 106)) = true := by decide +kernel
theorem io_106 : (lcode 106).all (insOk 106 (mC 106)) = true := by
  show (lc_106_0).all _ = true
  simp only [List.all_append, io_106_0, Bool.and_self]
set_option maxRecDepth 100000 in
theorem io_107_0 : lc_107_0.all (insOk 107 (mC 107)) = true := by decide +kernel
theorem io_107 : (lcode 107).all (insOk 107 (mC 107)) = true := by
  show (lc_107_0).all _ = true
  simp only [List.all_append, io_107_0, Bool.and_self]
set_option maxRecDepth 100000 in
theorem io_108_0 : lc_108_0.all (insOk 108 (mC 108)) = true := by decide +kernel
theorem io_108 : (lcode 108).all (insOk 108 (mC 108)) = true := by
  show (lc_108_0).all _ = true
  simp only [List.all_append, io_108_0, Bool.and_self]
set_option maxRecDepth 100000 in
theorem io_109_0 : lc_109_0.all (insOk 109 (mC 109)) = true := by decide +kernel
theorem io_109 : (lcode 109).all (insOk 109 (mC 109)) = true := by
  show (lc_109_0).all _ = true
  simp only [List.all_append, io_109_0, Bool.and_self]
set_option maxRecDepth 100000 in
theorem io_110_0 : lc_110_0.all (insOk 110 (mC 110)) = true := by decide +kernel
theorem io_110 : (lcode 110).all (insOk 110 (mC 110)) = true := by
  show (lc_110_0).all _ = true
  simp only [List.all_append, io_110_0, Bool.and_self]
set_option maxRecDepth 100000 in
theorem io_111_0 : lc_111_0.all (insOk 111 (mC 111)) = true := by decide +kernel
theorem io_111 : (lcode 111).all (insOk 111 (mC 111)) = true := by
  show (lc_111_0).all _ = true
  simp only [List.all_append, io_111_0, Bool.and_self]
set_option maxRecDepth 100000 in
theorem io_112_0 : lc_112_0.all (insOk 112 (mC 112)) = true := by decide +kernel
theorem io_112 : (lcode 112).all (insOk 112 (mC 112)) = true := by
  show (lc_112_0).all _ = true
  simp only [List.all_append, io_112_0, Bool.and_self]
set_option maxRecDepth 100000 in
theorem io_113_0 : lc_113_0.all (insOk 113 (mC 113)) = true := by decide +kernel
theorem io_113 : (lcode 113).all (insOk 113 (mC 113)) = true := by
  show (lc_113_0).all _ = true
  simp only [List.all_append, io_113_0, Bool.and_self]
set_option maxRecDepth 100000 in
theorem io_114_0 : lc_114_0.all (insOk 114 (mC 114)) = true := by decide +kernel
theorem io_114 : (lcode 114).all (insOk 114 (mC 114)) = true := by
  show (lc_114_0).all _ = true
  simp only [List.all_append, io_114_0, Bool.and_self]
set_option maxRecDepth 100000 in
theorem io_115_0 : lc_115_0.all (insOk 115 (mC 115)) = true := by decide +kernel
theorem io_115 : (lcode 115).all (insOk 115 (mC 115)) = true := by
  show (lc_115_0).all _ = true
  simp only [List.all_append, io_115_0, Bool.and_self]
set_option maxRecDepth 100000 in
theorem io_116_0 : lc_116_0.all (insOk 116 (mC 116)) = true := by decide +kernel
theorem io_116 : (lcode 116).all (insOk 116 (mC 116)) = true := by
  show (lc_116_0).all _ = true
  simp only [List.all_append, io_116_0, Bool.and_self]
set_option maxRecDepth 100000 in
theorem io_117_0 : lc_117_0.all (insOk 117 (mC 117)) = true := by decide +kernel
theorem io_117 : (lcode 117).all (insOk 117 (mC 117)) = true := by
  show (lc_117_0).all _ = true
  simp only [List.all_append, io_117_0, Bool.and_self]
set_option maxRecDepth 100000 in
theorem io_118_0 : lc_118_0.all (insOk 118 (mC 118)) = true := by decide +kernel
theorem io_118 : (lcode 118).all (insOk 118 (mC 118)) = true := by
  show (lc_118_0).all _ = true
  simp only [List.all_append, io_118_0, Bool.and_self]
set_option maxRecDepth 100000 in
theorem io_119_0 : lc_119_0.all (insOk 119 (mC 119)) = true := by decide +kernel
theorem io_119 : (lcode 119).all (insOk 119 (mC 119)) = true := by
  show (lc_119_0).all _ = true
  simp only [List.all_append, io_119_0, Bool.and_self]
set_option maxRecDepth 100000 in
theorem io_120_0 : lc_120_0.all (insOk 120 (mC 120)) = true := by decide +kernel
theorem io_120 : (lcode 120).all (insOk 120 (mC 120)) = true := by
  show (lc_120_0).all _ = true
  simp only [List.all_append, io_120_0, Bool.and_self]
set_option maxRecDepth 100000 in
theorem io_121_0 : lc_121_0.all (insOk 121 (mC 121)) = true := by decide +kernel
theorem io_121 : (lcode 121).all (insOk 121 (mC 121)) = true := by
  show (lc_121_0).all _ = true
  simp only [List.all_append, io_121_0, Bool.and_self]
set_option maxRecDepth 100000 in
theorem io_122_0 : lc_122_0.all (insOk 122 (mC 122)) = true := by decide +kernel
theorem io_122 : (lcode 122).all (insOk 122 (mC 122)) = true := by
  show (lc_122_0).all _ = true
  simp only [List.all_append, io_122_0, Bool.and_self]
set_option maxRecDepth 100000 in
theorem io_123_0 : lc_123_0.all (insOk 123 (mC 123)) = true := by decide +kernel
theorem io_123 : (lcode 123).all (insOk 123 (mC 123)) = true := by
  show (lc_123_0).all _ = true
  simp only [List.all_append, io_123_0, Bool.and_self]
set_option maxRecDepth 100000 in
theorem io_124_0 : lc_124_0.all (insOk 124 (mC 124)) = true := by decide +kernel
theorem io_124 : (lcode 124).all (insOk 124 (mC 124)) = true := by
  show (lc_124_0).all _ = true
  simp only [List.all_append, io_124_0, Bool.and_self]
set_option maxRecDepth 100000 in
theorem io_125_0 : lc_125_0.all (insOk 125 (mC 125)) = true := by decide +kernel
theorem io_125 : (lcode 125).all (insOk 125 (mC 125)) = true := by
  show (lc_125_0).all _ = true
  simp only [List.all_append, io_125_0, Bool.and_self]
set_option maxRecDepth 100000 in
theorem io_126_0 : lc_126_0.all (insOk 126 (mC 126)) = true := by decide +kernel
theorem io_126 : (lcode 126).all (insOk 126 (mC 126)) = true := by
  show (lc_126_0).all _ = true
  simp only [List.all_append, io_126_0, Bool.and_self]
set_option maxRecDepth 100000 in
theorem io_127_0 : lc_127_0.all (insOk 127 (mC 127)) = true := by decide +kernel
theorem io_127 : (lcode 127).all (insOk 127 (mC 127)) = true := by
  show (lc_127_0).all _ = true
  simp only [List.all_append, io_127_0, Bool.and_self]
set_option maxRecDepth 100000 in
theorem io_128_0 : lc_128_0.all (insOk 128 (mC 128)) = true := by decide +kernel
theorem io_128 : (lcode 128).all (insOk 128 (mC 128)) = true := by
  show (lc_128_0).all _ = true
  simp only [List.all_append, io_128_0, Bool.and_self]
set_option maxRecDepth 100000 in
theorem io_129_0 : lc_129_0.all (insOk 129 (mC 129)) = true := by decide +kernel
theorem io_129 : (lcode 129).all (insOk 129 (mC 129)) = true := by
  show (lc_129_0).all _ = true
  simp only [List.all_append, io_129_0, Bool.and_self]
set_option maxRecDepth 100000 in
theorem io_130_0 : lc_130_0.all (insOk 130 (mC 130)) = true := by decide +kernel
theorem io_130 : (lcode 130).all (insOk 130 (mC 130)) = true := by
  show (lc_130_0).all _ = true
  simp only [List.all_append, io_130_0, Bool.and_self]
set_option maxRecDepth 100000 in
theorem io_131_0 : lc_131_0.all (insOk 131 (mC 131)) = true := by decide +kernel
theorem io_131 : (lcode 131).all (insOk 131 (mC 131)) = true := by
  show (lc_131_0).all _ = true
  simp only [List.all_append, io_131_0, Bool.and_self]
set_option maxRecDepth 100000 in
theorem io_132_0 : lc_132_0.all (insOk 132 (mC 132)) = true := by decide +kernel
theorem io_132 : (lcode 132).all (insOk 132 (mC 132)) = true := by
  show (lc_132_0).all _ = true
  simp only [List.all_append, io_132_0, Bool.and_self]
set_option maxRecDepth 100000 in
theorem io_133_0 : lc_133_0.all (insOk 133 (mC 133)) = true := by decide +kernel
theorem io_133 : (lcode 133).all (insOk 133 (mC 133)) = true := by
  show (lc_133_0).all _ = true
  simp only [List.all_append, io_133_0, Bool.and_self]
set_option maxRecDepth 100000 in
theorem io_134_0 : lc_134_0.all (insOk 134 (mC 134)) = true := by decide +kernel
theorem io_134 : (lcode 134).all (insOk 134 (mC 134)) = true := by
  show (lc_134_0).all _ = true
  simp only [List.all_append, io_134_0, Bool.and_self]
set_option maxRecDepth 100000 in
theorem io_135_0 : lc_135_0.all (insOk 135 (mC 135)) = true := by decide +kernel
theorem io_135 : (lcode 135).all (insOk 135 (mC 135)) = true := by
  show (lc_135_0).all _ = true
  simp only [List.all_append, io_135_0, Bool.and_self]
set_option maxRecDepth 100000 in
theorem io_136_0 : lc_136_0.all (insOk 136 (mC 136)) = true := by decide +kernel
theorem io_136 : (lcode 136).all (insOk 136 (mC 136)) = true := by
  show (lc_136_0).all _ = true
  simp only [List.all_append, io_136_0, Bool.and_self]
set_option maxRecDepth 100000 in
theorem io_137_0 : lc_137_0.all (insOk 137 (mC 137)) = true := by decide +kernel
theorem io_137 : (lcode 137).all (insOk 137 (mC 137)) = true := by
  show (lc_137_0).all _ = true
  simp only [List.all_append, io_137_0, Bool.and_self]
set_option maxRecDepth 100000 in
theorem io_138_0 : lc_138_0.all (insOk 138 (mC 138)) = true := by decide +kernel
theorem io_138 : (lcode 138).all (insOk 138 (mC 138)) = true := by
  show (lc_138_0).all _ = true
  simp only [List.all_append, io_138_0, Bool.and_self]
set_option maxRecDepth 100000 in
theorem io_139_0 : lc_139_0.all (insOk 139 (mC 139)) = true := by decide +kernel
theorem io_139 : (lcode 139).all (insOk 139 (mC 139)) = true := by
  show (lc_139_0).all _ = true
  simp only [List.all_append, io_139_0, Bool.and_self]
set_option maxRecDepth 100000 in
theorem io_140_0 : lc_140_0.all (insOk 140 (mC 140)) = true := by decide +kernel
theorem io_140 : (lcode 140).all (insOk 140 (mC 140)) = true := by
  show (lc_140_0).all _ = true
  simp only [List.all_append, io_140_0, Bool.and_self]
set_option maxRecDepth 100000 in
theorem io_141_0 : lc_141_0.all (insOk 141 (mC 141)) = true := by decide +kernel
theorem io_141 : (lcode 141).all (insOk 141 (mC 141)) = true := by
  show (lc_141_0).all _ = true
  simp only [List.all_append, io_141_0, Bool.and_self]
set_option maxRecDepth 100000 in
theorem io_142_0 : lc_142_0.all (insOk 142 (mC 142)) = true := by decide +kernel
theorem io_142 : (lcode 142).all (insOk 142 (mC 142)) = true := by
  show (lc_142_0).all _ = true
  simp only [List.all_append, io_142_0, Bool.and_self]
set_option maxRecDepth 100000 in
theorem io_143_0 : lc_143_0.all (insOk 143 (mC 143)) = true := by decide +kernel
theorem io_143 : (lcode 143).all (insOk 143 (mC 143)) = true := by
  show (lc_143_0).all _ = true
  simp only [List.all_append, io_143_0, Bool.and_self]
set_option maxRecDepth 100000 in
theorem io_144_0 : lc_144_0.all (insOk 144 (mC 144)) = true := by decide +kernel
theorem io_144 : (lcode 144).all (insOk 144 (mC 144)) = true := by
  show (lc_144_0).all _ = true
  simp only [List.all_append, io_144_0, Bool.and_self]
set_option maxRecDepth 100000 in
theorem io_145_0 : lc_145_0.all (insOk 145 (mC 145)) = true := by decide +kernel
theorem io_145 : (lcode 145).all (insOk 145 (mC 145)) = true := by
  show (lc_145_0).all _ = true
  simp only [List.all_append, io_145_0, Bool.and_self]
set_option maxRecDepth 100000 in
theorem io_146_0 : lc_146_0.all (insOk 146 (mC 146)) = true := by decide +kernel
theorem io_146 : (lcode 146).all (insOk 146 (mC 146)) = true := by
  show (lc_146_0).all _ = true
  simp only [List.all_append, io_146_0, Bool.and_self]
set_option maxRecDepth 100000 in
theorem io_147_0 : lc_147_0.all (insOk 147 (mC 147)) = true := by decide +kernel
theorem io_147 : (lcode 147).all (insOk 147 (mC 147)) = true := by
  show (lc_147_0).all _ = true
  simp only [List.all_append, io_147_0, Bool.and_self]
set_option maxRecDepth 100000 in
theorem io_148_0 : lc_148_0.all (insOk 148 (mC 148)) = true := by decide +kernel
theorem io_148 : (lcode 148).all (insOk 148 (mC 148)) = true := by
  show (lc_148_0).all _ = true
  simp only [List.all_append, io_148_0, Bool.and_self]
set_option maxRecDepth 100000 in
theorem io_149_0 : lc_149_0.all (insOk 149 (mC 149)) = true := by decide +kernel
theorem io_149 : (lcode 149).all (insOk 149 (mC 149)) = true := by
  show (lc_149_0).all _ = true
  simp only [List.all_append, io_149_0, Bool.and_self]
set_option maxRecDepth 100000 in
theorem io_150_0 : lc_150_0.all (insOk 150 (mC 150)) = true := by decide +kernel
theorem io_150 : (lcode 150).all (insOk 150 (mC 150)) = true := by
  show (lc_150_0).all _ = true
  simp only [List.all_append, io_150_0, Bool.and_self]
set_option maxRecDepth 100000 in
theorem io_151_0 : lc_151_0.all (insOk 151 (mC 151)) = true := by decide +kernel
theorem io_151 : (lcode 151).all (insOk 151 (mC 151)) = true := by
  show (lc_151_0).all _ = true
  simp only [List.all_append, io_151_0, Bool.and_self]
set_option maxRecDepth 100000 in
theorem io_152_0 : lc_152_0.all (insOk 152 (mC 152)) = true := by decide +kernel
theorem io_152 : (lcode 152).all (insOk 152 (mC 152)) = true := by
  show (lc_152_0).all _ = true
  simp only [List.all_append, io_152_0, Bool.and_self]
set_option maxRecDepth 100000 in
theorem io_153_0 : lc_153_0.all (insOk 153 (mC 153)) = true := by decide +kernel
theorem io_153 : (lcode 153).all (insOk 153 (mC 153)) = true := by
  show (lc_153_0).all _ = true
  simp only [List.all_append, io_153_0, Bool.and_self]
set_option maxRecDepth 100000 in
theorem io_154_0 : lc_154_0.all (insOk 154 (mC 154)) = true := by decide +kernel
theorem io_154 : (lcode 154).all (insOk 154 (mC 154)) = true := by
  show (lc_154_0).all _ = true
  simp only [List.all_append, io_154_0, Bool.and_self]
set_option maxRecDepth 100000 in
theorem io_155_0 : lc_155_0.all (insOk 155 (mC 155)) = true := by decide +kernel
theorem io_155 : (lcode 155).all (insOk 155 (mC 155)) = true := by
  show (lc_155_0).all _ = true
  simp only [List.all_append, io_155_0, Bool.and_self]
set_option maxRecDepth 100000 in
theorem io_156_0 : lc_156_0.all (insOk 156 (mC 156)) = true := by decide +kernel
theorem io_156 : (lcode 156).all (insOk 156 (mC 156)) = true := by
  show (lc_156_0).all _ = true
  simp only [List.all_append, io_156_0, Bool.and_self]
set_option maxRecDepth 100000 in
theorem io_157_0 : lc_157_0.all (insOk 157 (mC 157)) = true := by decide +kernel
theorem io_157 : (lcode 157).all (insOk 157 (mC 157)) = true := by
  show (lc_157_0).all _ = true
  simp only [List.all_append, io_157_0, Bool.and_self]
set_option maxRecDepth 100000 in
theorem io_158_0 : lc_158_0.all (insOk 158 (mC 158)) = true := by decide +kernel
theorem io_158 : (lcode 158).all (insOk 158 (mC 158)) = true := by
  show (lc_158_0).all _ = true
  simp only [List.all_append, io_158_0, Bool.and_self]
set_option maxRecDepth 100000 in
theorem io_159_0 : lc_159_0.all (insOk 159 (mC 159)) = true := by decide +kernel
theorem io_159 : (lcode 159).all (insOk 159 (mC 159)) = true := by
  show (lc_159_0).all _ = true
  simp only [List.all_append, io_159_0, Bool.and_self]
set_option maxRecDepth 100000 in
theorem io_160_0 : lc_160_0.all (insOk 160 (mC 160)) = true := by decide +kernel
theorem io_160 : (lcode 160).all (insOk 160 (mC 160)) = true := by
  show (lc_160_0).all _ = true
  simp only [List.all_append, io_160_0, Bool.and_self]
set_option maxRecDepth 100000 in
theorem io_161_0 : lc_161_0.all (insOk 161 (mC 161)) = true := by decide +kernel
theorem io_161 : (lcode 161).all (insOk 161 (mC 161)) = true := by
  show (lc_161_0).all _ = true
  simp only [List.all_append, io_161_0, Bool.and_self]
set_option maxRecDepth 100000 in
theorem io_162_0 : lc_162_0.all (insOk 162 (mC 162)) = true := by decide +kernel
theorem io_162 : (lcode 162).all (insOk 162 (mC 162)) = true := by
  show (lc_162_0).all _ = true
  simp only [List.all_append, io_162_0, Bool.and_self]
set_option maxRecDepth 100000 in
theorem io_163_0 : lc_163_0.all (insOk 163 (mC 163)) = true := by decide +kernel
theorem io_163 : (lcode 163).all (insOk 163 (mC 163)) = true := by
  show (lc_163_0).all _ = true
  simp only [List.all_append, io_163_0, Bool.and_self]
set_option maxRecDepth 100000 in
theorem io_164_0 : lc_164_0.all (insOk 164 (mC 164)) = true := by decide +kernel
theorem io_164 : (lcode 164).all (insOk 164 (mC 164)) = true := by
  show (lc_164_0).all _ = true
  simp only [List.all_append, io_164_0, Bool.and_self]
set_option maxRecDepth 100000 in
theorem io_165_0 : lc_165_0.all (insOk 165 (mC 165)) = true := by decide +kernel
theorem io_165 : (lcode 165).all (insOk 165 (mC 165)) = true := by
  show (lc_165_0).all _ = true
  simp only [List.all_append, io_165_0, Bool.and_self]
set_option maxRecDepth 100000 in
theorem io_166_0 : lc_166_0.all (insOk 166 (mC 166)) = true := by decide +kernel
theorem io_166 : (lcode 166).all (insOk 166 (mC 166)) = true := by
  show (lc_166_0).all _ = true
  simp only [List.all_append, io_166_0, Bool.and_self]
set_option maxRecDepth 100000 in
theorem io_167_0 : lc_167_0.all (insOk 167 (mC 167)) = true := by decide +kernel
theorem io_167 : (lcode 167).all (insOk 167 (mC 167)) = true := by
  show (lc_167_0).all _ = true
  simp only [List.all_append, io_167_0, Bool.and_self]
set_option maxRecDepth 100000 in
theorem io_168_0 : lc_168_0.all (insOk 168 (mC 168)) = true := by decide +kernel
theorem io_168 : (lcode 168).all (insOk 168 (mC 168)) = true := by
  show (lc_168_0).all _ = true
  simp only [List.all_append, io_168_0, Bool.and_self]
set_option maxRecDepth 100000 in
theorem io_169_0 : lc_169_0.all (insOk 169 (mC 169)) = true := by decide +kernel
theorem io_169 : (lcode 169).all (insOk 169 (mC 169)) = true := by
  show (lc_169_0).all _ = true
  simp only [List.all_append, io_169_0, Bool.and_self]
set_option maxRecDepth 100000 in
theorem io_170_0 : lc_170_0.all (insOk 170 (mC 170)) = true := by decide +kernel
theorem io_170 : (lcode 170).all (insOk 170 (mC 170)) = true := by
  show (lc_170_0).all _ = true
  simp only [List.all_append, io_170_0, Bool.and_self]
set_option maxRecDepth 100000 in
theorem io_171_0 : lc_171_0.all (insOk 171 (mC 171)) = true := by decide +kernel
theorem io_171 : (lcode 171).all (insOk 171 (mC 171)) = true := by
  show (lc_171_0).all _ = true
  simp only [List.all_append, io_171_0, Bool.and_self]
set_option maxRecDepth 100000 in
theorem io_172_0 : lc_172_0.all (insOk 172 (mC 172)) = true := by decide +kernel
theorem io_172 : (lcode 172).all (insOk 172 (mC 172)) = true := by
  show (lc_172_0).all _ = true
  simp only [List.all_append, io_172_0, Bool.and_self]
set_option maxRecDepth 100000 in
theorem io_173_0 : lc_173_0.all (insOk 173 (mC 173)) = true := by decide +kernel
theorem io_173 : (lcode 173).all (insOk 173 (mC 173)) = true := by
  show (lc_173_0).all _ = true
  simp only [List.all_append, io_173_0, Bool.and_self]
set_option maxRecDepth 100000 in
theorem io_174_0 : lc_174_0.all (insOk 174 (mC 174)) = true := by decide +kernel
theorem io_174 : (lcode 174).all (insOk 174 (mC 174)) = true := by
  show (lc_174_0).all _ = true
  simp only [List.all_append, io_174_0, Bool.and_self]
set_option maxRecDepth 100000 in
theorem io_175_0 : lc_175_0.all (insOk 175 (mC 175)) = true := by decide +kernel
theorem io_175 : (lcode 175).all (insOk 175 (mC 175)) = true := by
  show (lc_175_0).all _ = true
  simp only [List.all_append, io_175_0, Bool.and_self]
set_option maxRecDepth 100000 in
theorem io_176_0 : lc_176_0.all (insOk 176 (mC 176)) = true := by decide +kernel
theorem io_176 : (lcode 176).all (insOk 176 (mC 176)) = true := by
  show (lc_176_0).all _ = true
  simp only [List.all_append, io_176_0, Bool.and_self]
set_option maxRecDepth 100000 in
theorem io_177_0 : lc_177_0.all (insOk 177 (mC 177)) = true := by decide +kernel
theorem io_177 : (lcode 177).all (insOk 177 (mC 177)) = true := by
  show (lc_177_0).all _ = true
  simp only [List.all_append, io_177_0, Bool.and_self]
set_option maxRecDepth 100000 in
theorem io_178_0 : lc_178_0.all (insOk 178 (mC 178)) = true := by decide +kernel
theorem io_178 : (lcode 178).all (insOk 178 (mC 178)) = true := by
  show (lc_178_0).all _ = true
  simp only [List.all_append, io_178_0, Bool.and_self]
set_option maxRecDepth 100000 in
theorem io_179_0 : lc_179_0.all (insOk 179 (mC 179)) = true := by decide +kernel
theorem io_179 : (lcode 179).all (insOk 179 (mC 179)) = true := by
  show (lc_179_0).all _ = true
  simp only [List.all_append, io_179_0, Bool.and_self]
set_option maxRecDepth 100000 in
theorem io_180_0 : lc_180_0.all (insOk 180 (mC 180)) = true := by decide +kernel
theorem io_180 : (lcode 180).all (insOk 180 (mC 180)) = true := by
  show (lc_180_0).all _ = true
  simp only [List.all_append, io_180_0, Bool.and_self]
set_option maxRecDepth 100000 in
theorem io_181_0 : lc_181_0.all (insOk 181 (mC 181)) = true := by decide +kernel
theorem io_181 : (lcode 181).all (insOk 181 (mC 181)) = true := by
  show (lc_181_0).all _ = true
  simp only [List.all_append, io_181_0, Bool.and_self]
set_option maxRecDepth 100000 in
theorem io_182_0 : lc_182_0.all (insOk 182 (mC 182)) = true := by decide +kernel
theorem io_182 : (lcode 182).all (insOk 182 (mC 182)) = true := by
  show (lc_182_0).all _ = true
  simp only [List.all_append, io_182_0, Bool.and_self]
set_option maxRecDepth 100000 in
theorem io_183_0 : lc_183_0.all (insOk 183 (mC 183)) = true := by decide +kernel
theorem io_183 : (lcode 183).all (insOk 183 (mC 183)) = true := by
  show (lc_183_0).all _ = true
  simp only [List.all_append, io_183_0, Bool.and_self]
set_option maxRecDepth 100000 in
theorem io_184_0 : lc_184_0.all (insOk 184 (mC 184)) = true := by decide +kernel
theorem io_184 : (lcode 184).all (insOk 184 (mC 184)) = true := by
  show (lc_184_0).all _ = true
  simp only [List.all_append, io_184_0, Bool.and_self]
set_option maxRecDepth 100000 in
theorem io_185_0 : lc_185_0.all (insOk 185 (mC 185)) = true := by decide +kernel
theorem io_185 : (lcode 185).all (insOk 185 (mC 185)) = true := by
  show (lc_185_0).all _ = true
  simp only [List.all_append, io_185_0, Bool.and_self]
set_option maxRecDepth 100000 in
theorem io_186_0 : lc_186_0.all (insOk 186 (mC 186)) = true := by decide +kernel
theorem io_186 : (lcode 186).all (insOk 186 (mC 186)) = true := by
  show (lc_186_0).all _ = true
  simp only [List.all_append, io_186_0, Bool.and_self]
set_option maxRecDepth 100000 in
theorem io_187_0 : lc_187_0.all (insOk 187 (mC 187)) = true := by decide +kernel
theorem io_187 : (lcode 187).all (insOk 187 (mC 187)) = true := by
  show (lc_187_0).all _ = true
  simp only [List.all_append, io_187_0, Bool.and_self]
set_option maxRecDepth 100000 in
theorem io_188_0 : lc_188_0.all (insOk 188 (mC 188)) = true := by decide +kernel
theorem io_188 : (lcode 188).all (insOk 188 (mC 188)) = true := by
  show (lc_188_0).all _ = true
  simp only [List.all_append, io_188_0, Bool.and_self]
set_option maxRecDepth 100000 in
theorem io_189_0 : lc_189_0.all (insOk 189 (mC 189)) = true := by decide +kernel
theorem io_189 : (lcode 189).all (insOk 189 (mC 189)) = true := by
  show (lc_189_0).all _ = true
  simp only [List.all_append, io_189_0, Bool.and_self]
