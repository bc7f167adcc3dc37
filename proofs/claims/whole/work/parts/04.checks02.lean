set_option maxRecDepth 100000 in
theorem kv_55 : kl_55.all (ky_ck 55) = true := by decide +kernel
set_option maxRecDepth 100000 in
theorem kv_56 : kl_56.all (ky_ck 56) = true := by decide +kernel
set_option maxRecDepth 100000 in
theorem kv_57 : kl_57.all (ky_ck 57) = true := by decide +kernel
set_option maxRecDepth 100000 in
theorem kv_58 : kl_58.all (ky_ck 58) = true := by decide +kernel
set_option maxRecDepth 100000 in
theorem kv_59 : kl_59.all (ky_ck 59) = true := by decide +kernel
set_option maxRecDepth 100000 in
theorem kv_60 : kl_60.all (ky_ck 60) = true := by decide +kernel
set_option maxRecDepth 100000 in
theorem kv_61 : kl_61.all (ky_ck 61) = true := by decide +kernel
set_option maxRecDepth 100000 in
theorem kv_62 : kl_62.all (ky_ck 62) = true := by decide +kernel
set_option maxRecDepth 100000 in
theorem kv_63 : kl_63.all (ky_ck 63) = true := by decide +kernel
set_option maxRecDepth 100000 in
theorem kv_64 : kl_64.all (ky_ck 64) = true := by decide +kernel
set_option maxRecDepth 100000 in
theorem kv_65 : kl_65.all (ky_ck 65) = true := by decide +kernel
set_option maxRecDepth 100000 in
theorem kv_66 : kl_66.all (ky_ck 66) = true := by decide +kernel
set_option maxRecDepth 100000 in
theorem kv_67 : kl_67.all (ky_ck 67) = true := by decide +kernel
set_option maxRecDepth 100000 in
theorem kv_68 : kl_68.all (ky_ck 68) = true := by decide +kernel
set_option maxRecDepth 100000 in
theorem kv_69 : kl_69.all (ky_ck 69) = true := by decide +kernel
set_option maxRecDepth 100000 in
theorem kv_70 : kl_70.all (ky_ck 70) = true := by decide +kernel
set_option maxRecDepth 100000 in
theorem kv_71 : kl_71.all (ky_ck 71) = true := by decide +kernel
set_option maxRecDepth 100000 in
theorem kv_72 : kl_72.all (ky_ck 72) = true := by decide +kernel
set_option maxRecDepth 100000 in
theorem kv_73 : kl_73.all (ky_ck 73) = true := by decide +kernel
set_option maxRecDepth 100000 in
theorem kv_74 : kl_74.all (ky_ck 74) = true := by decide +kernel
set_option maxRecDepth 100000 in
theorem kv_75 : kl_75.all (ky_ck 75) = true := by decide +kernel
set_option maxRecDepth 100000 in
theorem kv_76 : kl_76.all (ky_ck 76) = true := by decide +kernel
set_option maxRecDepth 100000 in
theorem kv_77 : kl_77.all (ky_ck 77) = true := by decide +kernel
set_option maxRecDepth 100000 in
theorem kv_78 : kl_78.all (ky_ck 78) = true := by decide +kernel
set_option maxRecDepth 100000 in
theorem kv_79 : kl_79.all (ky_ck 79) = true := by decide +kernel
set_option maxRecDepth 100000 in
theorem kv_80 : kl_80.all (ky_ck 80) = true := by decide +kernel
set_option maxRecDepth 100000 in
theorem kv_81 : kl_81.all (ky_ck 81) = true := by decide +kernel
set_option maxRecDepth 100000 in
theorem kv_82 : kl_82.all (ky_ck 82) = true := by decide +kernel
set_option maxRecDepth 100000 in
theorem kv_83 : kl_83.all (ky_ck 83) = true := by decide +kernel
set_option maxRecDepth 100000 in
theorem kv_84 : kl_84.all (ky_ck 84) = true := by decide +kernel
set_option maxRecDepth 100000 in
theorem kv_85 : kl_85.all (ky_ck 85) = true := by decide +kernel
set_option maxRecDepth 100000 in
theorem kv_86 : kl_86.all (ky_ck 86) = true := by decide +kernel
set_option maxRecDepth 100000 in
theorem kv_87 : kl_87.all (ky_ck 87) = true := by decide +kernel
set_option maxRecDepth 100000 in
theorem kv_88 : kl_88.all (ky_ck 88) = true := by decide +kernel
set_option maxRecDepth 100000 in
theorem kv_89 : kl_89.all (ky_ck 89) = true := by decide +kernel
set_option maxRecDepth 100000 in
theorem kv_90 : kl_90.all (ky_ck 90) = true := by decide +kernel
set_option maxRecDepth 100000 in
theorem kv_91 : kl_91.all (ky_ck 91) = true := by decide +kernel
set_option maxRecDepth 100000 in
theorem kv_92 : kl_92.all (ky_ck 92) = true := by decide +kernel
set_option maxRecDepth 100000 in
theorem kv_93 : kl_93.all (ky_ck 93) = true := by decide +kernel
set_option maxRecDepth 100000 in
theorem kv_94 : kl_94.all (ky_ck 94) = true := by decide +kernel
set_option maxRecDepth 100000 in
theorem kv_95 : kl_95.all (ky_ck 95) = true := by decide +kernel
set_option maxRecDepth 100000 in
theorem kv_96 : kl_96.all (ky_ck 96) = true := by decide +kernel
set_option maxRecDepth 100000 in
theorem kv_97 : kl_97.all (ky_ck 97) = true := by decide +kernel
set_option maxRecDepth 100000 in
theorem kv_98 : kl_98.all (ky_ck 98) = true := by decide +kernel
set_option maxRecDepth 100000 in
theorem kv_99 : kl_99.all (ky_ck 99) = true := by decide +kernel
set_option maxRecDepth 100000 in
theorem kv_100 : kl_100.all (ky_ck 100) = true := by decide +kernel
set_option maxRecDepth 100000 in
theorem kv_101 : kl_101.all (ky_ck 101) = true := by decide +kernel
set_option maxRecDepth 100000 in
theorem kv_102 : kl_102.all (ky_ck 102) = true := by decide +kernel
set_option maxRecDepth 100000 in
theorem kv_103 : kl_103.all (ky_ck 103) = true := by decide +kernel
set_option maxRecDepth 100000 in
theorem kv_104 : kl_104.all (ky_ck 104) = true := by decide +kernel
set_option maxRecDepth 100000 in
theorem kv_105 : kl_105.all (ky_ck 105) = true := by decide +kernel
set_option maxRecDepth 100000 in
theorem kv_106 : kl_106.all (ky_ck 106) = true := by decide +kernel
set_option maxRecDepth 100000 in
theorem kv_107 : kl_107.all (ky_ck 107) = true := by decide +kernel
set_option maxRecDepth 100000 in
theorem kv_108 : kl_108.all (ky_ck 108) = true := by decide +kernel
set_option maxRecDepth 100000 in
theorem kv_109 : kl_109.all (ky_ck 109) = true := by decide +kernel
