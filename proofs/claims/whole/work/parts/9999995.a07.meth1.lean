set_option maxRecDepth 100000 in
theorem okm_96 : pm_okm pm_md 96 (pm_pl 96) = true := by decide +kernel
set_option maxRecDepth 100000 in
theorem okm_97 : pm_okm pm_md 97 (pm_pl 97) = true := by decide +kernel
set_option maxRecDepth 100000 in
theorem okm_98 : pm_okm pm_md 98 (pm_pl 98) = true := by decide +kernel
set_option maxRecDepth 100000 in
theorem okm_99 : pm_okm pm_md 99 (pm_pl 99) = true := by decide +kernel
set_option maxRecDepth 100000 in
theorem okm_100 : pm_okm pm_md 100 (pm_pl 100) = true := by decide +kernel
set_option maxRecDepth 100000 in
theorem okm_101 : pm_okm pm_md 101 (pm_pl 101) = true := by decide +kernel
set_option maxRecDepth 100000 in
theorem okm_102 : pm_okm pm_md 102 (pm_pl 102) = true := by decide +kernel
set_option maxRecDepth 100000 in
theorem okm_103 : pm_okm pm_md 103 (pm_pl 103) = true := by decide +kernel
set_option maxRecDepth 100000 in
theorem okm_104 : pm_okm pm_md 104 (pm_pl 104) = true := by decide +kernel
set_option maxRecDepth 100000 in
theorem okm_105 : pm_okm pm_md 105 (pm_pl 105) = true := by decide +kernel
set_option maxRecDepth 100000 in
theorem okm_106 : pm_okm pm_md 106 (pm_pl 106) = true := by decide +kernel
set_option maxRecDepth 100000 in
theorem okm_107 : pm_okm pm_md 107 (pm_pl 107) = true := by decide +kernel
set_option maxRecDepth 100000 in
theorem okm_108 : pm_okm pm_md 108 (pm_pl 108) = true := by decide +kernel
set_option maxRecDepth 100000 in
theorem okm_109 : pm_okm pm_md 109 (pm_pl 109) = true := by decide +kernel
set_option maxRecDepth 100000 in
theorem okm_110 : pm_okm pm_md 110 (pm_pl 110) = true := by decide +kernel
set_option maxRecDepth 100000 in
theorem okm_111 : pm_okm pm_md 111 (pm_pl 111) = true := by decide +kernel
set_option maxRecDepth 100000 in
theorem okm_112 : pm_okm pm_md 112 (pm_pl 112) = true := by decide +kernel
set_option maxRecDepth 100000 in
theorem okm_113 : pm_okm pm_md 113 (pm_pl 113) = true := by decide +kernel
set_option maxRecDepth 100000 in
theorem okm_114 : pm_okm pm_md 114 (pm_pl 114) = true := by decide +kernel
set_option maxRecDepth 100000 in
theorem okm_115 : pm_okm pm_md 115 (pm_pl 115) = true := by decide +kernel
set_option maxRecDepth 100000 in
theorem okm_116 : pm_okm pm_md 116 (pm_pl 116) = true := by decide +kernel
set_option maxRecDepth 100000 in
theorem okm_117 : pm_okm pm_md 117 (pm_pl 117) = true := by decide +kernel
set_option maxRecDepth 100000 in
theorem okm_118 : pm_okm pm_md 118 (pm_pl 118) = true := by decide +kernel
set_option maxRecDepth 100000 in
theorem okm_119 : pm_okm pm_md 119 (pm_pl 119) = true := by decide +kernel
set_option maxRecDepth 100000 in
theorem okm_120 : pm_okm pm_md 120 (pm_pl 120) = true := by decide +kernel
set_option maxRecDepth 100000 in
theorem okm_121 : pm_okm pm_md 121 (pm_pl 121) = true := by decide +kernel
set_option maxRecDepth 100000 in
theorem okm_122 : pm_okm pm_md 122 (pm_pl 122) = true := by decide +kernel
set_option maxRecDepth 100000 in
theorem okm_123 : pm_okm pm_md 123 (pm_pl 123) = true := by decide +kernel
set_option maxRecDepth 100000 in
theorem okm_124 : pm_okm pm_md 124 (pm_pl 124) = true := by decide +kernel
set_option maxRecDepth 100000 in
theorem okm_125 : pm_okm pm_md 125 (pm_pl 125) = true := by decide +kernel
set_option maxRecDepth 100000 in
theorem okm_126 : pm_okm pm_md 126 (pm_pl 126) = true := by decide +kernel
set_option maxRecDepth 100000 in
theorem okm_127 : pm_okm pm_md 127 (pm_pl 127) = true := by decide +kernel
set_option maxRecDepth 100000 in
theorem okm_128 : pm_okm pm_md 128 (pm_pl 128) = true := by decide +kernel
set_option maxRecDepth 100000 in
theorem okm_129 : pm_okm pm_md 129 (pm_pl 129) = true := by decide +kernel
set_option maxRecDepth 100000 in
theorem okm_130 : pm_okm pm_md 130 (pm_pl 130) = true := by decide +kernel
set_option maxRecDepth 100000 in
theorem okm_131 : pm_okm pm_md 131 (pm_pl 131) = true := by decide +kernel
set_option maxRecDepth 100000 in
theorem okm_132 : pm_okm pm_md 132 (pm_pl 132) = true := by decide +kernel
set_option maxRecDepth 100000 in
theorem okm_133 : pm_okm pm_md 133 (pm_pl 133) = true := by decide +kernel
set_option maxRecDepth 100000 in
theorem okm_134 : pm_okm pm_md 134 (pm_pl 134) = true := by decide +kernel
set_option maxRecDepth 100000 in
theorem okm_135 : pm_okm pm_md 135 (pm_pl 135) = true := by decide +kernel
set_option maxRecDepth 100000 in
theorem okm_136 : pm_okm pm_md 136 (pm_pl 136) = true := by decide +kernel
set_option maxRecDepth 100000 in
theorem okm_137 : pm_okm pm_md 137 (pm_pl 137) = true := by decide +kernel
set_option maxRecDepth 100000 in
theorem okm_138 : pm_okm pm_md 138 (pm_pl 138) = true := by decide +kernel
set_option maxRecDepth 100000 in
theorem okm_139 : pm_okm pm_md 139 (pm_pl 139) = true := by decide +kernel
set_option maxRecDepth 100000 in
theorem okm_140 : pm_okm pm_md 140 (pm_pl 140) = true := by decide +kernel
set_option maxRecDepth 100000 in
theorem okm_141 : pm_okm pm_md 141 (pm_pl 141) = true := by decide +kernel
set_option maxRecDepth 100000 in
theorem okm_142 : pm_okm pm_md 142 (pm_pl 142) = true := by decide +kernel
set_option maxRecDepth 100000 in
theorem okm_143 : pm_okm pm_md 143 (pm_pl 143) = true := by decide +kernel
set_option maxRecDepth 100000 in
theorem okm_144 : pm_okm pm_md 144 (pm_pl 144) = true := by decide +kernel
set_option maxRecDepth 100000 in
theorem okm_145 : pm_okm pm_md 145 (pm_pl 145) = true := by decide +kernel
set_option maxRecDepth 100000 in
theorem okm_146 : pm_okm pm_md 146 (pm_pl 146) = true := by decide +kernel
set_option maxRecDepth 100000 in
theorem okm_147 : pm_okm pm_md 147 (pm_pl 147) = true := by decide +kernel
set_option maxRecDepth 100000 in
theorem okm_148 : pm_okm pm_md 148 (pm_pl 148) = true := by decide +kernel
set_option maxRecDepth 100000 in
theorem okm_149 : pm_okm pm_md 149 (pm_pl 149) = true := by decide +kernel
set_option maxRecDepth 100000 in
theorem okm_150 : pm_okm pm_md 150 (pm_pl 150) = true := by decide +kernel
set_option maxRecDepth 100000 in
theorem okm_151 : pm_okm pm_md 151 (pm_pl 151) = true := by decide +kernel
set_option maxRecDepth 100000 in
theorem okm_152 : pm_okm pm_md 152 (pm_pl 152) = true := by decide +kernel
set_option maxRecDepth 100000 in
theorem okm_153 : pm_okm pm_md 153 (pm_pl 153) = true := by decide +kernel
set_option maxRecDepth 100000 in
theorem okm_154 : pm_okm pm_md 154 (pm_pl 154) = true := by decide +kernel
set_option maxRecDepth 100000 in
theorem okm_155 : pm_okm pm_md 155 (pm_pl 155) = true := by decide +kernel
set_option maxRecDepth 100000 in
theorem okm_156 : pm_okm pm_md 156 (pm_pl 156) = true := by decide +kernel
set_option maxRecDepth 100000 in
theorem okm_157 : pm_okm pm_md 157 (pm_pl 157) = true := by decide +kernel
set_option maxRecDepth 100000 in
theorem okm_158 : pm_okm pm_md 158 (pm_pl 158) = true := by decide +kernel
set_option maxRecDepth 100000 in
theorem okm_159 : pm_okm pm_md 159 (pm_pl 159) = true := by decide +kernel
set_option maxRecDepth 100000 in
theorem okm_160 : pm_okm pm_md 160 (pm_pl 160) = true := by decide +kernel
set_option maxRecDepth 100000 in
theorem okm_161 : pm_okm pm_md 161 (pm_pl 161) = true := by decide +kernel
set_option maxRecDepth 100000 in
theorem okm_162 : pm_okm pm_md 162 (pm_pl 162) = true := by decide +kernel
set_option maxRecDepth 100000 in
theorem okm_163 : pm_okm pm_md 163 (pm_pl 163) = true := by decide +kernel
set_option maxRecDepth 100000 in
theorem okm_164 : pm_okm pm_md 164 (pm_pl 164) = true := by decide +kernel
set_option maxRecDepth 100000 in
theorem okm_165 : pm_okm pm_md 165 (pm_pl 165) = true := by decide +kernel
set_option maxRecDepth 100000 in
theorem okm_166 : pm_okm pm_md 166 (pm_pl 166) = true := by decide +kernel
set_option maxRecDepth 100000 in
theorem okm_167 : pm_okm pm_md 167 (pm_pl 167) = true := by decide +kernel
set_option maxRecDepth 100000 in
theorem okm_168 : pm_okm pm_md 168 (pm_pl 168) = true := by decide +kernel
set_option maxRecDepth 100000 in
theorem okm_169 : pm_okm pm_md 169 (pm_pl 169) = true := by decide +kernel
set_option maxRecDepth 100000 in
theorem okm_170 : pm_okm pm_md 170 (pm_pl 170) = true := by decide +kernel
set_option maxRecDepth 100000 in
theorem okm_171 : pm_okm pm_md 171 (pm_pl 171) = true := by decide +kernel
set_option maxRecDepth 100000 in
theorem okm_172 : pm_okm pm_md 172 (pm_pl 172) = true := by decide +kernel
set_option maxRecDepth 100000 in
theorem okm_173 : pm_okm pm_md 173 (pm_pl 173) = true := by decide +kernel
set_option maxRecDepth 100000 in
theorem okm_174 : pm_okm pm_md 174 (pm_pl 174) = true := by decide +kernel
set_option maxRecDepth 100000 in
theorem okm_175 : pm_okm pm_md 175 (pm_pl 175) = true := by decide +kernel
set_option maxRecDepth 100000 in
theorem okm_176 : pm_okm pm_md 176 (pm_pl 176) = true := by decide +kernel
set_option maxRecDepth 100000 in
theorem okm_177 : pm_okm pm_md 177 (pm_pl 177) = true := by decide +kernel
set_option maxRecDepth 100000 in
theorem okm_178 : pm_okm pm_md 178 (pm_pl 178) = true := by decide +kernel
set_option maxRecDepth 100000 in
theorem okm_179 : pm_okm pm_md 179 (pm_pl 179) = true := by decide +kernel
set_option maxRecDepth 100000 in
theorem okm_180 : pm_okm pm_md 180 (pm_pl 180) = true := by decide +kernel
set_option maxRecDepth 100000 in
theorem okm_181 : pm_okm pm_md 181 (pm_pl 181) = true := by decide +kernel
set_option maxRecDepth 100000 in
theorem okm_182 : pm_okm pm_md 182 (pm_pl 182) = true := by decide +kernel
set_option maxRecDepth 100000 in
theorem okm_183 : pm_okm pm_md 183 (pm_pl 183) = true := by decide +kernel
set_option maxRecDepth 100000 in
theorem okm_184 : pm_okm pm_md 184 (pm_pl 184) = true := by decide +kernel
set_option maxRecDepth 100000 in
theorem okm_185 : pm_okm pm_md 185 (pm_pl 185) = true := by decide +kernel
set_option maxRecDepth 100000 in
theorem okm_186 : pm_okm pm_md 186 (pm_pl 186) = true := by decide +kernel
set_option maxRecDepth 100000 in
theorem okm_187 : pm_okm pm_md 187 (pm_pl 187) = true := by decide +kernel
set_option maxRecDepth 100000 in
theorem okm_188 : pm_okm pm_md 188 (pm_pl 188) = true := by decide +kernel
set_option maxRecDepth 100000 in
theorem okm_189 : pm_okm pm_md 189 (pm_pl 189) = true := by decide +kernel
set_option maxRecDepth 100000 in
theorem okm_190 : pm_okm pm_md 190 (pm_pl 190) = true := by decide +kernel
set_option maxRecDepth 100000 in
theorem okm_191 : pm_okm pm_md 191 (pm_pl 191) = true := by decide +kernel
