set_option maxRecDepth 100000 in
theorem okc_60 : (pm_code 60).all (pm_okI pm_md 60) = true := by decide +kernel
set_option maxRecDepth 100000 in
theorem okc_61 : (pm_code 61).all (pm_okI pm_md 61) = true := by decide +kernel
set_option maxRecDepth 100000 in
theorem okc_62 : (pm_code 62).all (pm_okI pm_md 62) = true := by decide +kernel
set_option maxRecDepth 100000 in
theorem okc_63 : (pm_code 63).all (pm_okI pm_md 63) = true := by decide +kernel
set_option maxRecDepth 100000 in
theorem okc_64 : (pm_code 64).all (pm_okI pm_md 64) = true := by decide +kernel
set_option maxRecDepth 100000 in
theorem okc_65 : (pm_code 65).all (pm_okI pm_md 65) = true := by decide +kernel
set_option maxRecDepth 100000 in
theorem okc_66 : (pm_code 66).all (pm_okI pm_md 66) = true := by decide +kernel
set_option maxRecDepth 100000 in
theorem okc_67 : (pm_code 67).all (pm_okI pm_md 67) = true := by decide +kernel
set_option maxRecDepth 100000 in
theorem okc_68 : (pm_code 68).all (pm_okI pm_md 68) = true := by decide +kernel
set_option maxRecDepth 100000 in
theorem okc_69 : (pm_code 69).all (pm_okI pm_md 69) = true := by decide +kernel
set_option maxRecDepth 100000 in
theorem okc_70 : (pm_code 70).all (pm_okI pm_md 70) = true := by decide +kernel
set_option maxRecDepth 100000 in
theorem okc_71 : (pm_code 71).all (pm_okI pm_md 71) = true := by decide +kernel
set_option maxRecDepth 100000 in
theorem okc_72 : (pm_code 72).all (pm_okI pm_md 72) = true := by decide +kernel
set_option maxRecDepth 100000 in
theorem okc_73 : (pm_code 73).all (pm_okI pm_md 73) = true := by decide +kernel
set_option maxRecDepth 100000 in
theorem okc_74 : (pm_code 74).all (pm_okI pm_md 74) = true := by decide +kernel
set_option maxRecDepth 100000 in
theorem okc_75 : (pm_code 75).all (pm_okI pm_md 75) = true := by decide +kernel
set_option maxRecDepth 100000 in
theorem okc_76 : (pm_code 76).all (pm_okI pm_md 76) = true := by decide +kernel
set_option maxRecDepth 100000 in
theorem okc_77 : (pm_code 77).all (pm_okI pm_md 77) = true := by decide +kernel
set_option maxRecDepth 100000 in
theorem okc_78 : (pm_code 78).all (pm_okI pm_md 78) = true := by decide +kernel
set_option maxRecDepth 100000 in
theorem okc_79 : (pm_code 79).all (pm_okI pm_md 79) = true := by decide +kernel
set_option maxRecDepth 100000 in
theorem okc_80 : (pm_code 80).all (pm_okI pm_md 80) = true := by decide +kernel
set_option maxRecDepth 100000 in
theorem okc_81 : (pm_code 81).all (pm_okI pm_md 81) = true := by decide +kernel
set_option maxRecDepth 100000 in
theorem okc_82 : (pm_code 82).all (pm_okI pm_md 82) = true := by decide +kernel
set_option maxRecDepth 100000 in
theorem okc_83 : (pm_code 83).all (pm_okI pm_md 83) = true := by decide +kernel
set_option maxRecDepth 100000 in
theorem okc_84 : (pm_code 84).all (pm_okI pm_md 84) = true := by decide +kernel
set_option maxRecDepth 100000 in
theorem okc_85 : (pm_code 85).all (pm_okI pm_md 85) = true := by decide +kernel
set_option maxRecDepth 100000 in
theorem okc_86 : (pm_code 86).all (pm_okI pm_md 86) = true := by decide +kernel
set_option maxRecDepth 100000 in
theorem okc_87 : (pm_code 87).all (pm_okI pm_md 87) = true := by decide +kernel
set_option maxRecDepth 100000 in
theorem okc_88 : (pm_code 88).all (pm_okI pm_md 88) = true := by decide +kernel
set_option maxRecDepth 100000 in
theorem okc_89 : (pm_code 89).all (pm_okI pm_md 89) = true := by decide +kernel
set_option maxRecDepth 100000 in
theorem okc_90 : (pm_code 90).all (pm_okI pm_md 90) = true := by decide +kernel
set_option maxRecDepth 100000 in
theorem okc_91 : (pm_code 91).all (pm_okI pm_md 91) = true := by decide +kernel
set_option maxRecDepth 100000 in
theorem okc_92 : (pm_code 92).all (pm_okI pm_md 92) = true := by decide +kernel
set_option maxRecDepth 100000 in
theorem okc_93 : (pm_code 93).all (pm_okI pm_md 93) = true := by decide +kernel
set_option maxRecDepth 100000 in
theorem okc_94 : (pm_code 94).all (pm_okI pm_md 94) = true := by decide +kernel
set_option maxRecDepth 100000 in
theorem okc_95 : (pm_code 95).all (pm_okI pm_md 95) = true := by decide +kernel
set_option maxRecDepth 100000 in
theorem okc_96 : (pm_code 96).all (pm_okI pm_md 96) = true := by decide +kernel
set_option maxRecDepth 100000 in
theorem okc_97 : (pm_code 97).all (pm_okI pm_md 97) = true := by decide +kernel
set_option maxRecDepth 100000 in
theorem okc_98 : (pm_code 98).all (pm_okI pm_md 98) = true := by decide +kernel
set_option maxRecDepth 100000 in
theorem okc_99 : (pm_code 99).all (pm_okI pm_md 99) = true := by decide +kernel
set_option maxRecDepth 100000 in
theorem okc_100 : (pm_code 100).all (pm_okI pm_md 100) = true := by decide +kernel
set_option maxRecDepth 100000 in
theorem okc_101 : (pm_code 101).all (pm_okI pm_md 101) = true := by decide +kernel
set_option maxRecDepth 100000 in
theorem okc_102 : (pm_code 102).all (pm_okI pm_md 102) = true := by decide +kernel
set_option maxRecDepth 100000 in
theorem okc_103 : (pm_code 103).all (pm_okI pm_md 103) = true := by decide +kernel
set_option maxRecDepth 100000 in
theorem okc_104 : (pm_code 104).all (pm_okI pm_md 104) = true := by decide +kernel
set_option maxRecDepth 100000 in
theorem okc_105 : (pm_code 105).all (pm_okI pm_md 105) = true := by decide +kernel
set_option maxRecDepth 100000 in
theorem okc_106 : (pm_code 106).all (pm_okI pm_md 106) = true := by decide +kernel
set_option maxRecDepth 100000 in
theorem okc_107 : (pm_code 107).all (pm_okI pm_md 107) = true := by decide +kernel
set_option maxRecDepth 100000 in
theorem okc_108 : (pm_code 108).all (pm_okI pm_md 108) = true := by decide +kernel
set_option maxRecDepth 100000 in
theorem okc_109 : (pm_code 109).all (pm_okI pm_md 109) = true := by decide +kernel
set_option maxRecDepth 100000 in
theorem okc_110 : (pm_code 110).all (pm_okI pm_md 110) = true := by decide +kernel
set_option maxRecDepth 100000 in
theorem okc_111 : (pm_code 111).all (pm_okI pm_md 111) = true := by decide +kernel
set_option maxRecDepth 100000 in
theorem okc_112 : (pm_code 112).all (pm_okI pm_md 112) = true := by decide +kernel
set_option maxRecDepth 100000 in
theorem okc_113 : (pm_code 113).all (pm_okI pm_md 113) = true := by decide +kernel
set_option maxRecDepth 100000 in
theorem okc_114 : (pm_code 114).all (pm_okI pm_md 114) = true := by decide +kernel
set_option maxRecDepth 100000 in
theorem okc_115 : (pm_code 115).all (pm_okI pm_md 115) = true := by decide +kernel
set_option maxRecDepth 100000 in
theorem okc_116 : (pm_code 116).all (pm_okI pm_md 116) = true := by decide +kernel
set_option maxRecDepth 100000 in
theorem okc_117 : (pm_code 117).all (pm_okI pm_md 117) = true := by decide +kernel
set_option maxRecDepth 100000 in
theorem okc_118 : (pm_code 118).all (pm_okI pm_md 118) = true := by decide +kernel
set_option maxRecDepth 100000 in
theorem okc_119 : (pm_code 119).all (pm_okI pm_md 119) = true := by decide +kernel
