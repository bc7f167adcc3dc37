set_option maxRecDepth 100000 in
theorem kw_0 : lw_tbl[258]? = some (ky_cwd 0) := by decide +kernel
set_option maxRecDepth 100000 in
theorem kw_1 : lw_tbl[572]? = some (ky_cwd 1) := by decide +kernel
set_option maxRecDepth 100000 in
theorem kw_2 : lw_tbl[846]? = some (ky_cwd 2) := by decide +kernel
set_option maxRecDepth 100000 in
theorem kw_3 : lw_tbl[431]? = some (ky_cwd 3) := by decide +kernel
set_option maxRecDepth 100000 in
theorem kw_4 : lw_tbl[862]? = some (ky_cwd 4) := by decide +kernel
set_option maxRecDepth 100000 in
theorem kw_5 : lw_tbl[239]? = some (ky_cwd 5) := by decide +kernel
set_option maxRecDepth 100000 in
theorem kw_6 : lw_tbl[677]? = some (ky_cwd 6) := by decide +kernel
set_option maxRecDepth 100000 in
theorem kw_7 : lw_tbl[1308]? = some (ky_cwd 7) := by decide +kernel
set_option maxRecDepth 100000 in
theorem kw_8 : lw_tbl[588]? = some (ky_cwd 8) := by decide +kernel
set_option maxRecDepth 100000 in
theorem kw_9 : lw_tbl[214]? = some (ky_cwd 9) := by decide +kernel
set_option maxRecDepth 100000 in
theorem kw_10 : lw_tbl[783]? = some (ky_cwd 10) := by decide +kernel
set_option maxRecDepth 100000 in
theorem kw_11 : lw_tbl[788]? = some (ky_cwd 11) := by decide +kernel
set_option maxRecDepth 100000 in
theorem kw_12 : lw_tbl[820]? = some (ky_cwd 12) := by decide +kernel
set_option maxRecDepth 100000 in
theorem kw_13 : lw_tbl[817]? = some (ky_cwd 13) := by decide +kernel
set_option maxRecDepth 100000 in
theorem kw_14 : lw_tbl[813]? = some (ky_cwd 14) := by decide +kernel
set_option maxRecDepth 100000 in
theorem kw_15 : lw_tbl[1003]? = some (ky_cwd 15) := by decide +kernel
set_option maxRecDepth 100000 in
theorem kw_16 : lw_tbl[1006]? = some (ky_cwd 16) := by decide +kernel
set_option maxRecDepth 100000 in
theorem kw_17 : lw_tbl[824]? = some (ky_cwd 17) := by decide +kernel
set_option maxRecDepth 100000 in
theorem kw_18 : lw_tbl[842]? = some (ky_cwd 18) := by decide +kernel
set_option maxRecDepth 100000 in
theorem kw_19 : lw_tbl[827]? = some (ky_cwd 19) := by decide +kernel
set_option maxRecDepth 100000 in
theorem kw_20 : lw_tbl[830]? = some (ky_cwd 20) := by decide +kernel
set_option maxRecDepth 100000 in
theorem kw_21 : lw_tbl[833]? = some (ky_cwd 21) := by decide +kernel
set_option maxRecDepth 100000 in
theorem kw_22 : lw_tbl[836]? = some (ky_cwd 22) := by decide +kernel
set_option maxRecDepth 100000 in
theorem kw_23 : lw_tbl[839]? = some (ky_cwd 23) := by decide +kernel
set_option maxRecDepth 100000 in
theorem kw_24 : lw_tbl[158]? = some (ky_cwd 24) := by decide +kernel
set_option maxRecDepth 100000 in
theorem kw_25 : lw_tbl[539]? = some (ky_cwd 25) := by decide +kernel
set_option maxRecDepth 100000 in
theorem kw_26 : lw_tbl[763]? = some (ky_cwd 26) := by decide +kernel
set_option maxRecDepth 100000 in
theorem kw_27 : lw_tbl[465]? = some (ky_cwd 27) := by decide +kernel
set_option maxRecDepth 100000 in
theorem kw_28 : lw_tbl[801]? = some (ky_cwd 28) := by decide +kernel
set_option maxRecDepth 100000 in
theorem kw_29 : lw_tbl[733]? = some (ky_cwd 29) := by decide +kernel
set_option maxRecDepth 100000 in
theorem kw_30 : lw_tbl[1170]? = some (ky_cwd 30) := by decide +kernel
set_option maxRecDepth 100000 in
theorem kw_31 : lw_tbl[1054]? = some (ky_cwd 31) := by decide +kernel
set_option maxRecDepth 100000 in
theorem kw_32 : lw_tbl[652]? = some (ky_cwd 32) := by decide +kernel
set_option maxRecDepth 100000 in
theorem kw_33 : lw_tbl[662]? = some (ky_cwd 33) := by decide +kernel
set_option maxRecDepth 100000 in
theorem kw_34 : lw_tbl[883]? = some (ky_cwd 34) := by decide +kernel
set_option maxRecDepth 100000 in
theorem kw_35 : lw_tbl[991]? = some (ky_cwd 35) := by decide +kernel
set_option maxRecDepth 100000 in
theorem kw_36 : lw_tbl[715]? = some (ky_cwd 36) := by decide +kernel
set_option maxRecDepth 100000 in
theorem kw_37 : lw_tbl[737]? = some (ky_cwd 37) := by decide +kernel
set_option maxRecDepth 100000 in
theorem kw_38 : lw_tbl[751]? = some (ky_cwd 38) := by decide +kernel
set_option maxRecDepth 100000 in
theorem kw_39 : lw_tbl[742]? = some (ky_cwd 39) := by decide +kernel
set_option maxRecDepth 100000 in
theorem kw_40 : lw_tbl[759]? = some (ky_cwd 40) := by decide +kernel
set_option maxRecDepth 100000 in
theorem kw_41 : lw_tbl[692]? = some (ky_cwd 41) := by decide +kernel
set_option maxRecDepth 100000 in
theorem kw_42 : lw_tbl[657]? = some (ky_cwd 42) := by decide +kernel
set_option maxRecDepth 100000 in
theorem kw_43 : lw_tbl[340]? = some (ky_cwd 43) := by decide +kernel
set_option maxRecDepth 100000 in
theorem kw_44 : lw_tbl[576]? = some (ky_cwd 44) := by decide +kernel
set_option maxRecDepth 100000 in
theorem kw_45 : lw_tbl[535]? = some (ky_cwd 45) := by decide +kernel
set_option maxRecDepth 100000 in
theorem kw_46 : lw_tbl[544]? = some (ky_cwd 46) := by decide +kernel
set_option maxRecDepth 100000 in
theorem kw_47 : lw_tbl[702]? = some (ky_cwd 47) := by decide +kernel
set_option maxRecDepth 100000 in
theorem kw_48 : lw_tbl[470]? = some (ky_cwd 48) := by decide +kernel
set_option maxRecDepth 100000 in
theorem kw_49 : lw_tbl[584]? = some (ky_cwd 49) := by decide +kernel
set_option maxRecDepth 100000 in
theorem kw_50 : lw_tbl[698]? = some (ky_cwd 50) := by decide +kernel
set_option maxRecDepth 100000 in
theorem kw_51 : lw_tbl[687]? = some (ky_cwd 51) := by decide +kernel
set_option maxRecDepth 100000 in
theorem kw_52 : lw_tbl[305]? = some (ky_cwd 52) := by decide +kernel
set_option maxRecDepth 100000 in
theorem kw_53 : lw_tbl[418]? = some (ky_cwd 53) := by decide +kernel
set_option maxRecDepth 100000 in
theorem kw_54 : lw_tbl[461]? = some (ky_cwd 54) := by decide +kernel
set_option maxRecDepth 100000 in
theorem kw_55 : lw_tbl[552]? = some (ky_cwd 55) := by decide +kernel
set_option maxRecDepth 100000 in
theorem kw_56 : lw_tbl[315]? = some (ky_cwd 56) := by decide +kernel
set_option maxRecDepth 100000 in
theorem kw_57 : lw_tbl[627]? = some (ky_cwd 57) := by decide +kernel
set_option maxRecDepth 100000 in
theorem kw_58 : lw_tbl[636]? = some (ky_cwd 58) := by decide +kernel
set_option maxRecDepth 100000 in
theorem kw_59 : lw_tbl[623]? = some (ky_cwd 59) := by decide +kernel
set_option maxRecDepth 100000 in
theorem kw_60 : lw_tbl[631]? = some (ky_cwd 60) := by decide +kernel
set_option maxRecDepth 100000 in
theorem kw_61 : lw_tbl[640]? = some (ky_cwd 61) := by decide +kernel
set_option maxRecDepth 100000 in
theorem kw_62 : lw_tbl[596]? = some (ky_cwd 62) := by decide +kernel
set_option maxRecDepth 100000 in
theorem kw_63 : lw_tbl[601]? = some (ky_cwd 63) := by decide +kernel
set_option maxRecDepth 100000 in
theorem kw_64 : lw_tbl[609]? = some (ky_cwd 64) := by decide +kernel
set_option maxRecDepth 100000 in
theorem kw_65 : lw_tbl[614]? = some (ky_cwd 65) := by decide +kernel
set_option maxRecDepth 100000 in
theorem kw_66 : lw_tbl[164]? = some (ky_cwd 66) := by decide +kernel
set_option maxRecDepth 100000 in
theorem kw_67 : lw_tbl[344]? = some (ky_cwd 67) := by decide +kernel
set_option maxRecDepth 100000 in
theorem kw_68 : lw_tbl[580]? = some (ky_cwd 68) := by decide +kernel
set_option maxRecDepth 100000 in
theorem kw_69 : lw_tbl[348]? = some (ky_cwd 69) := by decide +kernel
set_option maxRecDepth 100000 in
theorem kw_70 : lw_tbl[355]? = some (ky_cwd 70) := by decide +kernel
set_option maxRecDepth 100000 in
theorem kw_71 : lw_tbl[797]? = some (ky_cwd 71) := by decide +kernel
set_option maxRecDepth 100000 in
theorem kw_72 : lw_tbl[805]? = some (ky_cwd 72) := by decide +kernel
set_option maxRecDepth 100000 in
theorem kw_73 : lw_tbl[809]? = some (ky_cwd 73) := by decide +kernel
set_option maxRecDepth 100000 in
theorem kw_74 : lw_tbl[793]? = some (ky_cwd 74) := by decide +kernel
set_option maxRecDepth 100000 in
theorem kw_75 : lw_tbl[274]? = some (ky_cwd 75) := by decide +kernel
set_option maxRecDepth 100000 in
theorem kw_76 : lw_tbl[423]? = some (ky_cwd 76) := by decide +kernel
set_option maxRecDepth 100000 in
theorem kw_77 : lw_tbl[427]? = some (ky_cwd 77) := by decide +kernel
set_option maxRecDepth 100000 in
theorem kw_78 : lw_tbl[441]? = some (ky_cwd 78) := by decide +kernel
set_option maxRecDepth 100000 in
theorem kw_79 : lw_tbl[451]? = some (ky_cwd 79) := by decide +kernel
set_option maxRecDepth 100000 in
theorem kw_80 : lw_tbl[457]? = some (ky_cwd 80) := by decide +kernel
set_option maxRecDepth 100000 in
theorem kw_81 : lw_tbl[434]? = some (ky_cwd 81) := by decide +kernel
