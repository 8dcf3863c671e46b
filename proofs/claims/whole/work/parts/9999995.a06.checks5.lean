set_option maxRecDepth 100000 in
theorem okl_0 : (((pm_code 267).drop (40 * 0)).take 40).all (pm_okI pm_md 267) = true := by decide +kernel
set_option maxRecDepth 100000 in
theorem okl_1 : (((pm_code 267).drop (40 * 1)).take 40).all (pm_okI pm_md 267) = true := by decide +kernel
set_option maxRecDepth 100000 in
theorem okl_2 : (((pm_code 267).drop (40 * 2)).take 40).all (pm_okI pm_md 267) = true := by decide +kernel
set_option maxRecDepth 100000 in
theorem okl_3 : (((pm_code 267).drop (40 * 3)).take 40).all (pm_okI pm_md 267) = true := by decide +kernel
set_option maxRecDepth 100000 in
theorem okl_4 : (((pm_code 267).drop (40 * 4)).take 40).all (pm_okI pm_md 267) = true := by decide +kernel
set_option maxRecDepth 100000 in
theorem okl_5 : (((pm_code 267).drop (40 * 5)).take 40).all (pm_okI pm_md 267) = true := by decide +kernel
set_option maxRecDepth 100000 in
theorem okl_6 : (((pm_code 267).drop (40 * 6)).take 40).all (pm_okI pm_md 267) = true := by decide +kernel
set_option maxRecDepth 100000 in
theorem okl_7 : (((pm_code 267).drop (40 * 7)).take 40).all (pm_okI pm_md 267) = true := by decide +kernel
set_option maxRecDepth 100000 in
theorem okl_8 : (((pm_code 267).drop (40 * 8)).take 40).all (pm_okI pm_md 267) = true := by decide +kernel
set_option maxRecDepth 100000 in
theorem okl_9 : (((pm_code 267).drop (40 * 9)).take 40).all (pm_okI pm_md 267) = true := by decide +kernel
set_option maxRecDepth 100000 in
theorem okl_10 : (((pm_code 267).drop (40 * 10)).take 40).all (pm_okI pm_md 267) = true := by decide +kernel
set_option maxRecDepth 100000 in
theorem okl_11 : (((pm_code 267).drop (40 * 11)).take 40).all (pm_okI pm_md 267) = true := by decide +kernel
set_option maxRecDepth 100000 in
theorem okl_12 : (((pm_code 267).drop (40 * 12)).take 40).all (pm_okI pm_md 267) = true := by decide +kernel
set_option maxRecDepth 100000 in
theorem okl_13 : (((pm_code 267).drop (40 * 13)).take 40).all (pm_okI pm_md 267) = true := by decide +kernel
set_option maxRecDepth 100000 in
theorem okl_14 : (((pm_code 267).drop (40 * 14)).take 40).all (pm_okI pm_md 267) = true := by decide +kernel
set_option maxRecDepth 100000 in
theorem okl_15 : (((pm_code 267).drop (40 * 15)).take 40).all (pm_okI pm_md 267) = true := by decide +kernel
set_option maxRecDepth 100000 in
theorem okl_16 : (((pm_code 267).drop (40 * 16)).take 40).all (pm_okI pm_md 267) = true := by decide +kernel
set_option maxRecDepth 100000 in
theorem okl_17 : (((pm_code 267).drop (40 * 17)).take 40).all (pm_okI pm_md 267) = true := by decide +kernel
set_option maxRecDepth 100000 in
theorem okl_18 : (((pm_code 267).drop (40 * 18)).take 40).all (pm_okI pm_md 267) = true := by decide +kernel
set_option maxRecDepth 100000 in
theorem okl_19 : (((pm_code 267).drop (40 * 19)).take 40).all (pm_okI pm_md 267) = true := by decide +kernel
set_option maxRecDepth 100000 in
theorem okl_20 : (((pm_code 267).drop (40 * 20)).take 40).all (pm_okI pm_md 267) = true := by decide +kernel
set_option maxRecDepth 100000 in
theorem okl_21 : (((pm_code 267).drop (40 * 21)).take 40).all (pm_okI pm_md 267) = true := by decide +kernel
set_option maxRecDepth 100000 in
theorem okl_22 : (((pm_code 267).drop (40 * 22)).take 40).all (pm_okI pm_md 267) = true := by decide +kernel
