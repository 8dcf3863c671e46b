set_option maxRecDepth 100000 in
theorem okc_240 : (pm_code 240).all (pm_okI pm_md 240) = true := by decide +kernel
set_option maxRecDepth 100000 in
theorem okc_241 : (pm_code 241).all (pm_okI pm_md 241) = true := by decide +kernel
set_option maxRecDepth 100000 in
theorem okc_242 : (pm_code 242).all (pm_okI pm_md 242) = true := by decide +kernel
set_option maxRecDepth 100000 in
theorem okc_243 : (pm_code 243).all (pm_okI pm_md 243) = true := by decide +kernel
set_option maxRecDepth 100000 in
theorem okc_244 : (pm_code 244).all (pm_okI pm_md 244) = true := by decide +kernel
set_option maxRecDepth 100000 in
theorem okc_245 : (pm_code 245).all (pm_okI pm_md 245) = true := by decide +kernel
set_option maxRecDepth 100000 in
theorem okc_246 : (pm_code 246).all (pm_okI pm_md 246) = true := by decide +kernel
set_option maxRecDepth 100000 in
theorem okc_247 : (pm_code 247).all (pm_okI pm_md 247) = true := by decide +kernel
set_option maxRecDepth 100000 in
theorem okc_248 : (pm_code 248).all (pm_okI pm_md 248) = true := by decide +kernel
set_option maxRecDepth 100000 in
theorem okc_249 : (pm_code 249).all (pm_okI pm_md 249) = true := by decide +kernel
set_option maxRecDepth 100000 in
theorem okc_250 : (pm_code 250).all (pm_okI pm_md 250) = true := by decide +kernel
set_option maxRecDepth 100000 in
theorem okc_251 : (pm_code 251).all (pm_okI pm_md 251) = true := by decide +kernel
set_option maxRecDepth 100000 in
theorem okc_252 : (pm_code 252).all (pm_okI pm_md 252) = true := by decide +kernel
set_option maxRecDepth 100000 in
theorem okc_253 : (pm_code 253).all (pm_okI pm_md 253) = true := by decide +kernel
set_option maxRecDepth 100000 in
theorem okc_254 : (pm_code 254).all (pm_okI pm_md 254) = true := by decide +kernel
set_option maxRecDepth 100000 in
theorem okc_255 : (pm_code 255).all (pm_okI pm_md 255) = true := by decide +kernel
set_option maxRecDepth 100000 in
theorem okc_256 : (pm_code 256).all (pm_okI pm_md 256) = true := by decide +kernel
set_option maxRecDepth 100000 in
theorem okc_257 : (pm_code 257).all (pm_okI pm_md 257) = true := by decide +kernel
set_option maxRecDepth 100000 in
theorem okc_258 : (pm_code 258).all (pm_okI pm_md 258) = true := by decide +kernel
set_option maxRecDepth 100000 in
theorem okc_259 : (pm_code 259).all (pm_okI pm_md 259) = true := by decide +kernel
set_option maxRecDepth 100000 in
theorem okc_260 : (pm_code 260).all (pm_okI pm_md 260) = true := by decide +kernel
set_option maxRecDepth 100000 in
theorem okc_261 : (pm_code 261).all (pm_okI pm_md 261) = true := by decide +kernel
set_option maxRecDepth 100000 in
theorem okc_262 : (pm_code 262).all (pm_okI pm_md 262) = true := by decide +kernel
set_option maxRecDepth 100000 in
theorem okc_263 : (pm_code 263).all (pm_okI pm_md 263) = true := by decide +kernel
set_option maxRecDepth 100000 in
theorem okc_264 : (pm_code 264).all (pm_okI pm_md 264) = true := by decide +kernel
set_option maxRecDepth 100000 in
theorem okc_265 : (pm_code 265).all (pm_okI pm_md 265) = true := by decide +kernel
set_option maxRecDepth 100000 in
theorem okc_266 : (pm_code 266).all (pm_okI pm_md 266) = true := by decide +kernel
