set_option maxRecDepth 100000 in
theorem okc_180 : (pm_code 180).all (pm_okI pm_md 180) = true := by decide +kernel
set_option maxRecDepth 100000 in
theorem okc_181 : (pm_code 181).all (pm_okI pm_md 181) = true := by decide +kernel
set_option maxRecDepth 100000 in
theorem okc_182 : (pm_code 182).all (pm_okI pm_md 182) = true := by decide +kernel
set_option maxRecDepth 100000 in
theorem okc_183 : (pm_code 183).all (pm_okI pm_md 183) = true := by decide +kernel
set_option maxRecDepth 100000 in
theorem okc_184 : (pm_code 184).all (pm_okI pm_md 184) = true := by decide +kernel
set_option maxRecDepth 100000 in
theorem okc_185 : (pm_code 185).all (pm_okI pm_md 185) = true := by decide +kernel
set_option maxRecDepth 100000 in
theorem okc_186 : (pm_code 186).all (pm_okI pm_md 186) = true := by decide +kernel
set_option maxRecDepth 100000 in
theorem okc_187 : (pm_code 187).all (pm_okI pm_md 187) = true := by decide +kernel
set_option maxRecDepth 100000 in
theorem okc_188 : (pm_code 188).all (pm_okI pm_md 188) = true := by decide +kernel
set_option maxRecDepth 100000 in
theorem okc_189 : (pm_code 189).all (pm_okI pm_md 189) = true := by decide +kernel
set_option maxRecDepth 100000 in
theorem okc_190 : (pm_code 190).all (pm_okI pm_md 190) = true := by decide +kernel
set_option maxRecDepth 100000 in
theorem okc_191 : (pm_code 191).all (pm_okI pm_md 191) = true := by decide +kernel
set_option maxRecDepth 100000 in
theorem okc_192 : (pm_code 192).all (pm_okI pm_md 192) = true := by decide +kernel
set_option maxRecDepth 100000 in
theorem okc_193 : (pm_code 193).all (pm_okI pm_md 193) = true := by decide +kernel
set_option maxRecDepth 100000 in
theorem okc_194 : (pm_code 194).all (pm_okI pm_md 194) = true := by decide +kernel
set_option maxRecDepth 100000 in
theorem okc_195 : (pm_code 195).all (pm_okI pm_md 195) = true := by decide +kernel
set_option maxRecDepth 100000 in
theorem okc_196 : (pm_code 196).all (pm_okI pm_md 196) = true := by decide +kernel
set_option maxRecDepth 100000 in
theorem okc_197 : (pm_code 197).all (pm_okI pm_md 197) = true := by decide +kernel
set_option maxRecDepth 100000 in
theorem okc_198 : (pm_code 198).all (pm_okI pm_md 198) = true := by decide +kernel
set_option maxRecDepth 100000 in
theorem okc_199 : (pm_code 199).all (pm_okI pm_md 199) = true := by decide +kernel
set_option maxRecDepth 100000 in
theorem okc_200 : (pm_code 200).all (pm_okI pm_md 200) = true := by decide +kernel
set_option maxRecDepth 100000 in
theorem okc_201 : (pm_code 201).all (pm_okI pm_md 201) = true := by decide +kernel
set_option maxRecDepth 100000 in
theorem okc_202 : (pm_code 202).all (pm_okI pm_md 202) = true := by decide +kernel
set_option maxRecDepth 100000 in
theorem okc_203 : (pm_code 203).all (pm_okI pm_md 203) = true := by decide +kernel
set_option maxRecDepth 100000 in
theorem okc_204 : (pm_code 204).all (pm_okI pm_md 204) = true := by decide +kernel
set_option maxRecDepth 100000 in
theorem okc_205 : (pm_code 205).all (pm_okI pm_md 205) = true := by decide +kernel
set_option maxRecDepth 100000 in
theorem okc_206 : (pm_code 206).all (pm_okI pm_md 206) = true := by decide +kernel
set_option maxRecDepth 100000 in
theorem okc_207 : (pm_code 207).all (pm_okI pm_md 207) = true := by decide +kernel
set_option maxRecDepth 100000 in
theorem okc_208 : (pm_code 208).all (pm_okI pm_md 208) = true := by decide +kernel
set_option maxRecDepth 100000 in
theorem okc_209 : (pm_code 209).all (pm_okI pm_md 209) = true := by decide +kernel
set_option maxRecDepth 100000 in
theorem okc_210 : (pm_code 210).all (pm_okI pm_md 210) = true := by decide +kernel
set_option maxRecDepth 100000 in
theorem okc_211 : (pm_code 211).all (pm_okI pm_md 211) = true := by decide +kernel
set_option maxRecDepth 100000 in
theorem okc_212 : (pm_code 212).all (pm_okI pm_md 212) = true := by decide +kernel
set_option maxRecDepth 100000 in
theorem okc_213 : (pm_code 213).all (pm_okI pm_md 213) = true := by decide +kernel
set_option maxRecDepth 100000 in
theorem okc_214 : (pm_code 214).all (pm_okI pm_md 214) = true := by decide +kernel
set_option maxRecDepth 100000 in
theorem okc_215 : (pm_code 215).all (pm_okI pm_md 215) = true := by decide +kernel
set_option maxRecDepth 100000 in
theorem okc_216 : (pm_code 216).all (pm_okI pm_md 216) = true := by decide +kernel
set_option maxRecDepth 100000 in
theorem okc_217 : (pm_code 217).all (pm_okI pm_md 217) = true := by decide +kernel
set_option maxRecDepth 100000 in
theorem okc_218 : (pm_code 218).all (pm_okI pm_md 218) = true := by decide +kernel
set_option maxRecDepth 100000 in
theorem okc_219 : (pm_code 219).all (pm_okI pm_md 219) = true := by decide +kernel
set_option maxRecDepth 100000 in
theorem okc_220 : (pm_code 220).all (pm_okI pm_md 220) = true := by decide +kernel
set_option maxRecDepth 100000 in
theorem okc_221 : (pm_code 221).all (pm_okI pm_md 221) = true := by decide +kernel
set_option maxRecDepth 100000 in
theorem okc_222 : (pm_code 222).all (pm_okI pm_md 222) = true := by decide +kernel
set_option maxRecDepth 100000 in
theorem okc_223 : (pm_code 223).all (pm_okI pm_md 223) = true := by decide +kernel
set_option maxRecDepth 100000 in
theorem okc_224 : (pm_code 224).all (pm_okI pm_md 224) = true := by decide +kernel
set_option maxRecDepth 100000 in
theorem okc_225 : (pm_code 225).all (pm_okI pm_md 225) = true := by decide +kernel
set_option maxRecDepth 100000 in
theorem okc_226 : (pm_code 226).all (pm_okI pm_md 226) = true := by decide +kernel
set_option maxRecDepth 100000 in
theorem okc_227 : (pm_code 227).all (pm_okI pm_md 227) = true := by decide +kernel
set_option maxRecDepth 100000 in
theorem okc_228 : (pm_code 228).all (pm_okI pm_md 228) = true := by decide +kernel
set_option maxRecDepth 100000 in
theorem okc_229 : (pm_code 229).all (pm_okI pm_md 229) = true := by decide +kernel
set_option maxRecDepth 100000 in
theorem okc_230 : (pm_code 230).all (pm_okI pm_md 230) = true := by decide +kernel
set_option maxRecDepth 100000 in
theorem okc_231 : (pm_code 231).all (pm_okI pm_md 231) = true := by decide +kernel
set_option maxRecDepth 100000 in
theorem okc_232 : (pm_code 232).all (pm_okI pm_md 232) = true := by decide +kernel
set_option maxRecDepth 100000 in
theorem okc_233 : (pm_code 233).all (pm_okI pm_md 233) = true := by decide +kernel
set_option maxRecDepth 100000 in
theorem okc_234 : (pm_code 234).all (pm_okI pm_md 234) = true := by decide +kernel
set_option maxRecDepth 100000 in
theorem okc_235 : (pm_code 235).all (pm_okI pm_md 235) = true := by decide +kernel
set_option maxRecDepth 100000 in
theorem okc_236 : (pm_code 236).all (pm_okI pm_md 236) = true := by decide +kernel
set_option maxRecDepth 100000 in
theorem okc_237 : (pm_code 237).all (pm_okI pm_md 237) = true := by decide +kernel
set_option maxRecDepth 100000 in
theorem okc_238 : (pm_code 238).all (pm_okI pm_md 238) = true := by decide +kernel
set_option maxRecDepth 100000 in
theorem okc_239 : (pm_code 239).all (pm_okI pm_md 239) = true := by decide +kernel
