/-! ===== the instructions are what the code decodes to, and the links are in the tables (by the kernel) ===== -/
set_option maxRecDepth 100000 in
theorem okc_0 : (pm_code 0).all (pm_okI pm_md 0) = true := by decide +kernel
set_option maxRecDepth 100000 in
theorem okc_1 : (pm_code 1).all (pm_okI pm_md 1) = true := by decide +kernel
set_option maxRecDepth 100000 in
theorem okc_2 : (pm_code 2).all (pm_okI pm_md 2) = true := by decide +kernel
set_option maxRecDepth 100000 in
theorem okc_3 : (pm_code 3).all (pm_okI pm_md 3) = true := by decide +kernel
set_option maxRecDepth 100000 in
theorem okc_4 : (pm_code 4).all (pm_okI pm_md 4) = true := by decide +kernel
set_option maxRecDepth 100000 in
theorem okc_5 : (pm_code 5).all (pm_okI pm_md 5) = true := by decide +kernel
set_option maxRecDepth 100000 in
theorem okc_6 : (pm_code 6).all (pm_okI pm_md 6) = true := by decide +kernel
set_option maxRecDepth 100000 in
theorem okc_7 : (pm_code 7).all (pm_okI pm_md 7) = true := by decide +kernel
set_option maxRecDepth 100000 in
theorem okc_8 : (pm_code 8).all (pm_okI pm_md 8) = true := by decide +kernel
set_option maxRecDepth 100000 in
theorem okc_9 : (pm_code 9).all (pm_okI pm_md 9) = true := by decide +kernel
set_option maxRecDepth 100000 in
theorem okc_10 : (pm_code 10).all (pm_okI pm_md 10) = true := by decide +kernel
set_option maxRecDepth 100000 in
theorem okc_11 : (pm_code 11).all (pm_okI pm_md 11) = true := by decide +kernel
set_option maxRecDepth 100000 in
theorem okc_12 : (pm_code 12).all (pm_okI pm_md 12) = true := by decide +kernel
set_option maxRecDepth 100000 in
theorem okc_13 : (pm_code 13).all (pm_okI pm_md 13) = true := by decide +kernel
set_option maxRecDepth 100000 in
theorem okc_14 : (pm_code 14).all (pm_okI pm_md 14) = true := by decide +kernel
set_option maxRecDepth 100000 in
theorem okc_15 : (pm_code 15).all (pm_okI pm_md 15) = true := by decide +kernel
set_option maxRecDepth 100000 in
theorem okc_16 : (pm_code 16).all (pm_okI pm_md 16) = true := by decide +kernel
set_option maxRecDepth 100000 in
theorem okc_17 : (pm_code 17).all (pm_okI pm_md 17) = true := by decide +kernel
set_option maxRecDepth 100000 in
theorem okc_18 : (pm_code 18).all (pm_okI pm_md 18) = true := by decide +kernel
set_option maxRecDepth 100000 in
theorem okc_19 : (pm_code 19).all (pm_okI pm_md 19) = true := by decide +kernel
set_option maxRecDepth 100000 in
theorem okc_20 : (pm_code 20).all (pm_okI pm_md 20) = true := by decide +kernel
set_option maxRecDepth 100000 in
theorem okc_21 : (pm_code 21).all (pm_okI pm_md 21) = true := by decide +kernel
set_option maxRecDepth 100000 in
theorem okc_22 : (pm_code 22).all (pm_okI pm_md 22) = true := by decide +kernel
set_option maxRecDepth 100000 in
theorem okc_23 : (pm_code 23).all (pm_okI pm_md 23) = true := by decide +kernel
set_option maxRecDepth 100000 in
theorem okc_24 : (pm_code 24).all (pm_okI pm_md 24) = true := by decide +kernel
set_option maxRecDepth 100000 in
theorem okc_25 : (pm_code 25).all (pm_okI pm_md 25) = true := by decide +kernel
set_option maxRecDepth 100000 in
theorem okc_26 : (pm_code 26).all (pm_okI pm_md 26) = true := by decide +kernel
set_option maxRecDepth 100000 in
theorem okc_27 : (pm_code 27).all (pm_okI pm_md 27) = true := by decide +kernel
set_option maxRecDepth 100000 in
theorem okc_28 : (pm_code 28).all (pm_okI pm_md 28) = true := by decide +kernel
set_option maxRecDepth 100000 in
theorem okc_29 : (pm_code 29).all (pm_okI pm_md 29) = true := by decide +kernel
set_option maxRecDepth 100000 in
theorem okc_30 : (pm_code 30).all (pm_okI pm_md 30) = true := by decide +kernel
set_option maxRecDepth 100000 in
theorem okc_31 : (pm_code 31).all (pm_okI pm_md 31) = true := by decide +kernel
set_option maxRecDepth 100000 in
theorem okc_32 : (pm_code 32).all (pm_okI pm_md 32) = true := by decide +kernel
set_option maxRecDepth 100000 in
theorem okc_33 : (pm_code 33).all (pm_okI pm_md 33) = true := by decide +kernel
set_option maxRecDepth 100000 in
theorem okc_34 : (pm_code 34).all (pm_okI pm_md 34) = true := by decide +kernel
set_option maxRecDepth 100000 in
theorem okc_35 : (pm_code 35).all (pm_okI pm_md 35) = true := by decide +kernel
set_option maxRecDepth 100000 in
theorem okc_36 : (pm_code 36).all (pm_okI pm_md 36) = true := by decide +kernel
set_option maxRecDepth 100000 in
theorem okc_37 : (pm_code 37).all (pm_okI pm_md 37) = true := by decide +kernel
set_option maxRecDepth 100000 in
theorem okc_38 : (pm_code 38).all (pm_okI pm_md 38) = true := by decide +kernel
set_option maxRecDepth 100000 in
theorem okc_39 : (pm_code 39).all (pm_okI pm_md 39) = true := by decide +kernel
set_option maxRecDepth 100000 in
theorem okc_40 : (pm_code 40).all (pm_okI pm_md 40) = true := by decide +kernel
set_option maxRecDepth 100000 in
theorem okc_41 : (pm_code 41).all (pm_okI pm_md 41) = true := by decide +kernel
set_option maxRecDepth 100000 in
theorem okc_42 : (pm_code 42).all (pm_okI pm_md 42) = true := by decide +kernel
set_option maxRecDepth 100000 in
theorem okc_43 : (pm_code 43).all (pm_okI pm_md 43) = true := by decide +kernel
set_option maxRecDepth 100000 in
theorem okc_44 : (pm_code 44).all (pm_okI pm_md 44) = true := by decide +kernel
set_option maxRecDepth 100000 in
theorem okc_45 : (pm_code 45).all (pm_okI pm_md 45) = true := by decide +kernel
set_option maxRecDepth 100000 in
theorem okc_46 : (pm_code 46).all (pm_okI pm_md 46) = true := by decide +kernel
set_option maxRecDepth 100000 in
theorem okc_47 : (pm_code 47).all (pm_okI pm_md 47) = true := by decide +kernel
set_option maxRecDepth 100000 in
theorem okc_48 : (pm_code 48).all (pm_okI pm_md 48) = true := by decide +kernel
set_option maxRecDepth 100000 in
theorem okc_49 : (pm_code 49).all (pm_okI pm_md 49) = true := by decide +kernel
set_option maxRecDepth 100000 in
theorem okc_50 : (pm_code 50).all (pm_okI pm_md 50) = true := by decide +kernel
set_option maxRecDepth 100000 in
theorem okc_51 : (pm_code 51).all (pm_okI pm_md 51) = true := by decide +kernel
set_option maxRecDepth 100000 in
theorem okc_52 : (pm_code 52).all (pm_okI pm_md 52) = true := by decide +kernel
set_option maxRecDepth 100000 in
theorem okc_53 : (pm_code 53).all (pm_okI pm_md 53) = true := by decide +kernel
set_option maxRecDepth 100000 in
theorem okc_54 : (pm_code 54).all (pm_okI pm_md 54) = true := by decide +kernel
set_option maxRecDepth 100000 in
theorem okc_55 : (pm_code 55).all (pm_okI pm_md 55) = true := by decide +kernel
set_option maxRecDepth 100000 in
theorem okc_56 : (pm_code 56).all (pm_okI pm_md 56) = true := by decide +kernel
set_option maxRecDepth 100000 in
theorem okc_57 : (pm_code 57).all (pm_okI pm_md 57) = true := by decide +kernel
set_option maxRecDepth 100000 in
theorem okc_58 : (pm_code 58).all (pm_okI pm_md 58) = true := by decide +kernel
set_option maxRecDepth 100000 in
theorem okc_59 : (pm_code 59).all (pm_okI pm_md 59) = true := by decide +kernel
