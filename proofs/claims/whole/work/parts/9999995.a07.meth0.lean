set_option maxRecDepth 100000 in
theorem okm_0 : pm_okm pm_md 0 (pm_pl 0) = true := by decide +kernel
set_option maxRecDepth 100000 in
theorem okm_1 : pm_okm pm_md 1 (pm_pl 1) = true := by decide +kernel
set_option maxRecDepth 100000 in
theorem okm_2 : pm_okm pm_md 2 (pm_pl 2) = true := by decide +kernel
set_option maxRecDepth 100000 in
theorem okm_3 : pm_okm pm_md 3 (pm_pl 3) = true := by decide +kernel
set_option maxRecDepth 100000 in
theorem okm_4 : pm_okm pm_md 4 (pm_pl 4) = true := by decide +kernel
set_option maxRecDepth 100000 in
theorem okm_5 : pm_okm pm_md 5 (pm_pl 5) = true := by decide +kernel
set_option maxRecDepth 100000 in
theorem okm_6 : pm_okm pm_md 6 (pm_pl 6) = true := by decide +kernel
set_option maxRecDepth 100000 in
theorem okm_7 : pm_okm pm_md 7 (pm_pl 7) = true := by decide +kernel
set_option maxRecDepth 100000 in
theorem okm_8 : pm_okm pm_md 8 (pm_pl 8) = true := by decide +kernel
set_option maxRecDepth 100000 in
theorem okm_9 : pm_okm pm_md 9 (pm_pl 9) = true := by decide +kernel
set_option maxRecDepth 100000 in
theorem okm_10 : pm_okm pm_md 10 (pm_pl 10) = true := by decide +kernel
set_option maxRecDepth 100000 in
theorem okm_11 : pm_okm pm_md 11 (pm_pl 11) = true := by decide +kernel
set_option maxRecDepth 100000 in
theorem okm_12 : pm_okm pm_md 12 (pm_pl 12) = true := by decide +kernel
set_option maxRecDepth 100000 in
theorem okm_13 : pm_okm pm_md 13 (pm_pl 13) = true := by decide +kernel
set_option maxRecDepth 100000 in
theorem okm_14 : pm_okm pm_md 14 (pm_pl 14) = true := by decide +kernel
set_option maxRecDepth 100000 in
theorem okm_15 : pm_okm pm_md 15 (pm_pl 15) = true := by decide +kernel
set_option maxRecDepth 100000 in
theorem okm_16 : pm_okm pm_md 16 (pm_pl 16) = true := by decide +kernel
set_option maxRecDepth 100000 in
theorem okm_17 : pm_okm pm_md 17 (pm_pl 17) = true := by decide +kernel
set_option maxRecDepth 100000 in
theorem okm_18 : pm_okm pm_md 18 (pm_pl 18) = true := by decide +kernel
set_option maxRecDepth 100000 in
theorem okm_19 : pm_okm pm_md 19 (pm_pl 19) = true := by decide +kernel
set_option maxRecDepth 100000 in
theorem okm_20 : pm_okm pm_md 20 (pm_pl 20) = true := by decide +kernel
set_option maxRecDepth 100000 in
theorem okm_21 : pm_okm pm_md 21 (pm_pl 21) = true := by decide +kernel
set_option maxRecDepth 100000 in
theorem okm_22 : pm_okm pm_md 22 (pm_pl 22) = true := by decide +kernel
set_option maxRecDepth 100000 in
theorem okm_23 : pm_okm pm_md 23 (pm_pl 23) = true := by decide +kernel
set_option maxRecDepth 100000 in
theorem okm_24 : pm_okm pm_md 24 (pm_pl 24) = true := by decide +kernel
set_option maxRecDepth 100000 in
theorem okm_25 : pm_okm pm_md 25 (pm_pl 25) = true := by decide +kernel
set_option maxRecDepth 100000 in
theorem okm_26 : pm_okm pm_md 26 (pm_pl 26) = true := by decide +kernel
set_option maxRecDepth 100000 in
theorem okm_27 : pm_okm pm_md 27 (pm_pl 27) = true := by decide +kernel
set_option maxRecDepth 100000 in
theorem okm_28 : pm_okm pm_md 28 (pm_pl 28) = true := by decide +kernel
set_option maxRecDepth 100000 in
theorem okm_29 : pm_okm pm_md 29 (pm_pl 29) = true := by decide +kernel
set_option maxRecDepth 100000 in
theorem okm_30 : pm_okm pm_md 30 (pm_pl 30) = true := by decide +kernel
set_option maxRecDepth 100000 in
theorem okm_31 : pm_okm pm_md 31 (pm_pl 31) = true := by decide +kernel
set_option maxRecDepth 100000 in
theorem okm_32 : pm_okm pm_md 32 (pm_pl 32) = true := by decide +kernel
set_option maxRecDepth 100000 in
theorem okm_33 : pm_okm pm_md 33 (pm_pl 33) = true := by decide +kernel
set_option maxRecDepth 100000 in
theorem okm_34 : pm_okm pm_md 34 (pm_pl 34) = true := by decide +kernel
set_option maxRecDepth 100000 in
theorem okm_35 : pm_okm pm_md 35 (pm_pl 35) = true := by decide +kernel
set_option maxRecDepth 100000 in
theorem okm_36 : pm_okm pm_md 36 (pm_pl 36) = true := by decide +kernel
set_option maxRecDepth 100000 in
theorem okm_37 : pm_okm pm_md 37 (pm_pl 37) = true := by decide +kernel
set_option maxRecDepth 100000 in
theorem okm_38 : pm_okm pm_md 38 (pm_pl 38) = true := by decide +kernel
set_option maxRecDepth 100000 in
theorem okm_39 : pm_okm pm_md 39 (pm_pl 39) = true := by decide +kernel
set_option maxRecDepth 100000 in
theorem okm_40 : pm_okm pm_md 40 (pm_pl 40) = true := by decide +kernel
set_option maxRecDepth 100000 in
theorem okm_41 : pm_okm pm_md 41 (pm_pl 41) = true := by decide +kernel
set_option maxRecDepth 100000 in
theorem okm_42 : pm_okm pm_md 42 (pm_pl 42) = true := by decide +kernel
set_option maxRecDepth 100000 in
theorem okm_43 : pm_okm pm_md 43 (pm_pl 43) = true := by decide +kernel
set_option maxRecDepth 100000 in
theorem okm_44 : pm_okm pm_md 44 (pm_pl 44) = true := by decide +kernel
set_option maxRecDepth 100000 in
theorem okm_45 : pm_okm pm_md 45 (pm_pl 45) = true := by decide +kernel
set_option maxRecDepth 100000 in
theorem okm_46 : pm_okm pm_md 46 (pm_pl 46) = true := by decide +kernel
set_option maxRecDepth 100000 in
theorem okm_47 : pm_okm pm_md 47 (pm_pl 47) = true := by decide +kernel
set_option maxRecDepth 100000 in
theorem okm_48 : pm_okm pm_md 48 (pm_pl 48) = true := by decide +kernel
set_option maxRecDepth 100000 in
theorem okm_49 : pm_okm pm_md 49 (pm_pl 49) = true := by decide +kernel
set_option maxRecDepth 100000 in
theorem okm_50 : pm_okm pm_md 50 (pm_pl 50) = true := by decide +kernel
set_option maxRecDepth 100000 in
theorem okm_51 : pm_okm pm_md 51 (pm_pl 51) = true := by decide +kernel
set_option maxRecDepth 100000 in
theorem okm_52 : pm_okm pm_md 52 (pm_pl 52) = true := by decide +kernel
set_option maxRecDepth 100000 in
theorem okm_53 : pm_okm pm_md 53 (pm_pl 53) = true := by decide +kernel
set_option maxRecDepth 100000 in
theorem okm_54 : pm_okm pm_md 54 (pm_pl 54) = true := by decide +kernel
set_option maxRecDepth 100000 in
theorem okm_55 : pm_okm pm_md 55 (pm_pl 55) = true := by decide +kernel
set_option maxRecDepth 100000 in
theorem okm_56 : pm_okm pm_md 56 (pm_pl 56) = true := by decide +kernel
set_option maxRecDepth 100000 in
theorem okm_57 : pm_okm pm_md 57 (pm_pl 57) = true := by decide +kernel
set_option maxRecDepth 100000 in
theorem okm_58 : pm_okm pm_md 58 (pm_pl 58) = true := by decide +kernel
set_option maxRecDepth 100000 in
theorem okm_59 : pm_okm pm_md 59 (pm_pl 59) = true := by decide +kernel
set_option maxRecDepth 100000 in
theorem okm_60 : pm_okm pm_md 60 (pm_pl 60) = true := by decide +kernel
set_option maxRecDepth 100000 in
theorem okm_61 : pm_okm pm_md 61 (pm_pl 61) = true := by decide +kernel
set_option maxRecDepth 100000 in
theorem okm_62 : pm_okm pm_md 62 (pm_pl 62) = true := by decide +kernel
set_option maxRecDepth 100000 in
theorem okm_63 : pm_okm pm_md 63 (pm_pl 63) = true := by decide +kernel
set_option maxRecDepth 100000 in
theorem okm_64 : pm_okm pm_md 64 (pm_pl 64) = true := by decide +kernel
set_option maxRecDepth 100000 in
theorem okm_65 : pm_okm pm_md 65 (pm_pl 65) = true := by decide +kernel
set_option maxRecDepth 100000 in
theorem okm_66 : pm_okm pm_md 66 (pm_pl 66) = true := by decide +kernel
set_option maxRecDepth 100000 in
theorem okm_67 : pm_okm pm_md 67 (pm_pl 67) = true := by decide +kernel
set_option maxRecDepth 100000 in
theorem okm_68 : pm_okm pm_md 68 (pm_pl 68) = true := by decide +kernel
set_option maxRecDepth 100000 in
theorem okm_69 : pm_okm pm_md 69 (pm_pl 69) = true := by decide +kernel
set_option maxRecDepth 100000 in
theorem okm_70 : pm_okm pm_md 70 (pm_pl 70) = true := by decide +kernel
set_option maxRecDepth 100000 in
theorem okm_71 : pm_okm pm_md 71 (pm_pl 71) = true := by decide +kernel
set_option maxRecDepth 100000 in
theorem okm_72 : pm_okm pm_md 72 (pm_pl 72) = true := by decide +kernel
set_option maxRecDepth 100000 in
theorem okm_73 : pm_okm pm_md 73 (pm_pl 73) = true := by decide +kernel
set_option maxRecDepth 100000 in
theorem okm_74 : pm_okm pm_md 74 (pm_pl 74) = true := by decide +kernel
set_option maxRecDepth 100000 in
theorem okm_75 : pm_okm pm_md 75 (pm_pl 75) = true := by decide +kernel
set_option maxRecDepth 100000 in
theorem okm_76 : pm_okm pm_md 76 (pm_pl 76) = true := by decide +kernel
set_option maxRecDepth 100000 in
theorem okm_77 : pm_okm pm_md 77 (pm_pl 77) = true := by decide +kernel
set_option maxRecDepth 100000 in
theorem okm_78 : pm_okm pm_md 78 (pm_pl 78) = true := by decide +kernel
set_option maxRecDepth 100000 in
theorem okm_79 : pm_okm pm_md 79 (pm_pl 79) = true := by decide +kernel
set_option maxRecDepth 100000 in
theorem okm_80 : pm_okm pm_md 80 (pm_pl 80) = true := by decide +kernel
set_option maxRecDepth 100000 in
theorem okm_81 : pm_okm pm_md 81 (pm_pl 81) = true := by decide +kernel
set_option maxRecDepth 100000 in
theorem okm_82 : pm_okm pm_md 82 (pm_pl 82) = true := by decide +kernel
set_option maxRecDepth 100000 in
theorem okm_83 : pm_okm pm_md 83 (pm_pl 83) = true := by decide +kernel
set_option maxRecDepth 100000 in
theorem okm_84 : pm_okm pm_md 84 (pm_pl 84) = true := by decide +kernel
set_option maxRecDepth 100000 in
theorem okm_85 : pm_okm pm_md 85 (pm_pl 85) = true := by decide +kernel
set_option maxRecDepth 100000 in
theorem okm_86 : pm_okm pm_md 86 (pm_pl 86) = true := by decide +kernel
set_option maxRecDepth 100000 in
theorem okm_87 : pm_okm pm_md 87 (pm_pl 87) = true := by decide +kernel
set_option maxRecDepth 100000 in
theorem okm_88 : pm_okm pm_md 88 (pm_pl 88) = true := by decide +kernel
set_option maxRecDepth 100000 in
theorem okm_89 : pm_okm pm_md 89 (pm_pl 89) = true := by decide +kernel
set_option maxRecDepth 100000 in
theorem okm_90 : pm_okm pm_md 90 (pm_pl 90) = true := by decide +kernel
set_option maxRecDepth 100000 in
theorem okm_91 : pm_okm pm_md 91 (pm_pl 91) = true := by decide +kernel
set_option maxRecDepth 100000 in
theorem okm_92 : pm_okm pm_md 92 (pm_pl 92) = true := by decide +kernel
set_option maxRecDepth 100000 in
theorem okm_93 : pm_okm pm_md 93 (pm_pl 93) = true := by decide +kernel
set_option maxRecDepth 100000 in
theorem okm_94 : pm_okm pm_md 94 (pm_pl 94) = true := by decide +kernel
set_option maxRecDepth 100000 in
theorem okm_95 : pm_okm pm_md 95 (pm_pl 95) = true := by decide +kernel
