set_option maxRecDepth 100000 in
theorem okc_120 : (pm_code 120).all (pm_okI pm_md 120) = true := by decide +kernel
set_option maxRecDepth 100000 in
theorem okc_121 : (pm_code 121).all (pm_okI pm_md 121) = true := by decide +kernel
set_option maxRecDepth 100000 in
theorem okc_122 : (pm_code 122).all (pm_okI pm_md 122) = true := by decide +kernel
set_option maxRecDepth 100000 in
theorem okc_123 : (pm_code 123).all (pm_okI pm_md 123) = true := by decide +kernel
set_option maxRecDepth 100000 in
theorem okc_124 : (pm_code 124).all (pm_okI pm_md 124) = true := by decide +kernel
set_option maxRecDepth 100000 in
theorem okc_125 : (pm_code 125).all (pm_okI pm_md 125) = true := by decide +kernel
set_option maxRecDepth 100000 in
theorem okc_126 : (pm_code 126).all (pm_okI pm_md 126) = true := by decide +kernel
set_option maxRecDepth 100000 in
theorem okc_127 : (pm_code 127).all (pm_okI pm_md 127) = true := by decide +kernel
set_option maxRecDepth 100000 in
theorem okc_128 : (pm_code 128).all (pm_okI pm_md 128) = true := by decide +kernel
set_option maxRecDepth 100000 in
theorem okc_129 : (pm_code 129).all (pm_okI pm_md 129) = true := by decide +kernel
set_option maxRecDepth 100000 in
theorem okc_130 : (pm_code 130).all (pm_okI pm_md 130) = true := by decide +kernel
set_option maxRecDepth 100000 in
theorem okc_131 : (pm_code 131).all (pm_okI pm_md 131) = true := by decide +kernel
set_option maxRecDepth 100000 in
theorem okc_132 : (pm_code 132).all (pm_okI pm_md 132) = true := by decide +kernel
set_option maxRecDepth 100000 in
theorem okc_133 : (pm_code 133).all (pm_okI pm_md 133) = true := by decide +kernel
set_option maxRecDepth 100000 in
theorem okc_134 : (pm_code 134).all (pm_okI pm_md 134) = true := by decide +kernel
set_option maxRecDepth 100000 in
theorem okc_135 : (pm_code 135).all (pm_okI pm_md 135) = true := by decide +kernel
set_option maxRecDepth 100000 in
theorem okc_136 : (pm_code 136).all (pm_okI pm_md 136) = true := by decide +kernel
set_option maxRecDepth 100000 in
theorem okc_137 : (pm_code 137).all (pm_okI pm_md 137) = true := by decide +kernel
set_option maxRecDepth 100000 in
theorem okc_138 : (pm_code 138).all (pm_okI pm_md 138) = true := by decide +kernel
set_option maxRecDepth 100000 in
theorem okc_139 : (pm_code 139).all (pm_okI pm_md 139) = true := by decide +kernel
set_option maxRecDepth 100000 in
theorem okc_140 : (pm_code 140).all (pm_okI pm_md 140) = true := by decide +kernel
set_option maxRecDepth 100000 in
theorem okc_141 : (pm_code 141).all (pm_okI pm_md 141) = true := by decide +kernel
set_option maxRecDepth 100000 in
theorem okc_142 : (pm_code 142).all (pm_okI pm_md 142) = true := by decide +kernel
set_option maxRecDepth 100000 in
theorem okc_143 : (pm_code 143).all (pm_okI pm_md 143) = true := by decide +kernel
set_option maxRecDepth 100000 in
theorem okc_144 : (pm_code 144).all (pm_okI pm_md 144) = true := by decide +kernel
set_option maxRecDepth 100000 in
theorem okc_145 : (pm_code 145).all (pm_okI pm_md 145) = true := by decide +kernel
set_option maxRecDepth 100000 in
theorem okc_146 : (pm_code 146).all (pm_okI pm_md 146) = true := by decide +kernel
set_option maxRecDepth 100000 in
theorem okc_147 : (pm_code 147).all (pm_okI pm_md 147) = true := by decide +kernel
set_option maxRecDepth 100000 in
theorem okc_148 : (pm_code 148).all (pm_okI pm_md 148) = true := by decide +kernel
set_option maxRecDepth 100000 in
theorem okc_149 : (pm_code 149).all (pm_okI pm_md 149) = true := by decide +kernel
set_option maxRecDepth 100000 in
theorem okc_150 : (pm_code 150).all (pm_okI pm_md 150) = true := by decide +kernel
set_option maxRecDepth 100000 in
theorem okc_151 : (pm_code 151).all (pm_okI pm_md 151) = true := by decide +kernel
set_option maxRecDepth 100000 in
theorem okc_152 : (pm_code 152).all (pm_okI pm_md 152) = true := by decide +kernel
set_option maxRecDepth 100000 in
theorem okc_153 : (pm_code 153).all (pm_okI pm_md 153) = true := by decide +kernel
set_option maxRecDepth 100000 in
theorem okc_154 : (pm_code 154).all (pm_okI pm_md 154) = true := by decide +kernel
set_option maxRecDepth 100000 in
theorem okc_155 : (pm_code 155).all (pm_okI pm_md 155) = true := by decide +kernel
set_option maxRecDepth 100000 in
theorem okc_156 : (pm_code 156).all (pm_okI pm_md 156) = true := by decide +kernel
set_option maxRecDepth 100000 in
theorem okc_157 : (pm_code 157).all (pm_okI pm_md 157) = true := by decide +kernel
set_option maxRecDepth 100000 in
theorem okc_158 : (pm_code 158).all (pm_okI pm_md 158) = true := by decide +kernel
set_option maxRecDepth 100000 in
theorem okc_159 : (pm_code 159).all (pm_okI pm_md 159) = true := by decide +kernel
set_option maxRecDepth 100000 in
theorem okc_160 : (pm_code 160).all (pm_okI pm_md 160) = true := by decide +kernel
set_option maxRecDepth 100000 in
theorem okc_161 : (pm_code 161).all (pm_okI pm_md 161) = true := by decide +kernel
set_option maxRecDepth 100000 in
theorem okc_162 : (pm_code 162).all (pm_okI pm_md 162) = true := by decide +kernel
set_option maxRecDepth 100000 in
theorem okc_163 : (pm_code 163).all (pm_okI pm_md 163) = true := by decide +kernel
set_option maxRecDepth 100000 in
theorem okc_164 : (pm_code 164).all (pm_okI pm_md 164) = true := by decide +kernel
set_option maxRecDepth 100000 in
theorem okc_165 : (pm_code 165).all (pm_okI pm_md 165) = true := by decide +kernel
set_option maxRecDepth 100000 in
theorem okc_166 : (pm_code 166).all (pm_okI pm_md 166) = true := by decide +kernel
set_option maxRecDepth 100000 in
theorem okc_167 : (pm_code 167).all (pm_okI pm_md 167) = true := by decide +kernel
set_option maxRecDepth 100000 in
theorem okc_168 : (pm_code 168).all (pm_okI pm_md 168) = true := by decide +kernel
set_option maxRecDepth 100000 in
theorem okc_169 : (pm_code 169).all (pm_okI pm_md 169) = true := by decide +kernel
set_option maxRecDepth 100000 in
theorem okc_170 : (pm_code 170).all (pm_okI pm_md 170) = true := by decide +kernel
set_option maxRecDepth 100000 in
theorem okc_171 : (pm_code 171).all (pm_okI pm_md 171) = true := by decide +kernel
set_option maxRecDepth 100000 in
theorem okc_172 : (pm_code 172).all (pm_okI pm_md 172) = true := by decide +kernel
set_option maxRecDepth 100000 in
theorem okc_173 : (pm_code 173).all (pm_okI pm_md 173) = true := by decide +kernel
set_option maxRecDepth 100000 in
theorem okc_174 : (pm_code 174).all (pm_okI pm_md 174) = true := by decide +kernel
set_option maxRecDepth 100000 in
theorem okc_175 : (pm_code 175).all (pm_okI pm_md 175) = true := by decide +kernel
set_option maxRecDepth 100000 in
theorem okc_176 : (pm_code 176).all (pm_okI pm_md 176) = true := by decide +kernel
set_option maxRecDepth 100000 in
theorem okc_177 : (pm_code 177).all (pm_okI pm_md 177) = true := by decide +kernel
set_option maxRecDepth 100000 in
theorem okc_178 : (pm_code 178).all (pm_okI pm_md 178) = true := by decide +kernel
set_option maxRecDepth 100000 in
theorem okc_179 : (pm_code 179).all (pm_okI pm_md 179) = true := by decide +kernel
