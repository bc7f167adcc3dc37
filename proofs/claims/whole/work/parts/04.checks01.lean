set_option maxRecDepth 100000 in
theorem kv_0 : kl_0.all (ky_ck 0) = true := by decide +kernel
set_option maxRecDepth 100000 in
theorem kv_1 : kl_1.all (ky_ck 1) = true := by decide +kernel
set_option maxRecDepth 100000 in
theorem kv_2 : kl_2.all (ky_ck 2) = true := by decide +kernel
set_option maxRecDepth 100000 in
theorem kv_3 : kl_3.all (ky_ck 3) = true := by decide +kernel
set_option maxRecDepth 100000 in
theorem kv_4 : kl_4.all (ky_ck 4) = true := by decide +kernel
set_option maxRecDepth 100000 in
theorem kv_5 : kl_5.all (ky_ck 5) = true := by decide +kernel
set_option maxRecDepth 100000 in
theorem kv_6 : kl_6.all (ky_ck 6) = true := by decide +kernel
set_option maxRecDepth 100000 in
theorem kv_7 : kl_7.all (ky_ck 7) = true := by decide +kernel
set_option maxRecDepth 100000 in
theorem kv_8 : kl_8.all (ky_ck 8) = true := by decide +kernel
set_option maxRecDepth 100000 in
theorem kv_9 : kl_9.all (ky_ck 9) = true := by decide +kernel
set_option maxRecDepth 100000 in
theorem kv_10 : kl_10.all (ky_ck 10) = true := by decide +kernel
set_option maxRecDepth 100000 in
theorem kv_11 : kl_11.all (ky_ck 11) = true := by decide +kernel
set_option maxRecDepth 100000 in
theorem kv_12 : kl_12.all (ky_ck 12) = true := by decide +kernel
set_option maxRecDepth 100000 in
theorem kv_13 : kl_13.all (ky_ck 13) = true := by decide +kernel
set_option maxRecDepth 100000 in
theorem kv_14 : kl_14.all (ky_ck 14) = true := by decide +kernel
set_option maxRecDepth 100000 in
theorem kv_15 : kl_15.all (ky_ck 15) = true := by decide +kernel
set_option maxRecDepth 100000 in
theorem kv_16 : kl_16.all (ky_ck 16) = true := by decide +kernel
set_option maxRecDepth 100000 in
theorem kv_17 : kl_17.all (ky_ck 17) = true := by decide +kernel
set_option maxRecDepth 100000 in
theorem kv_18 : kl_18.all (ky_ck 18) = true := by decide +kernel
set_option maxRecDepth 100000 in
theorem kv_19 : kl_19.all (ky_ck 19) = true := by decide +kernel
set_option maxRecDepth 100000 in
theorem kv_20 : kl_20.all (ky_ck 20) = true := by decide +kernel
set_option maxRecDepth 100000 in
theorem kv_21 : kl_21.all (ky_ck 21) = true := by decide +kernel
set_option maxRecDepth 100000 in
theorem kv_22 : kl_22.all (ky_ck 22) = true := by decide +kernel
set_option maxRecDepth 100000 in
theorem kv_23 : kl_23.all (ky_ck 23) = true := by decide +kernel
set_option maxRecDepth 100000 in
theorem kv_24 : kl_24.all (ky_ck 24) = true := by decide +kernel
set_option maxRecDepth 100000 in
theorem kv_25 : kl_25.all (ky_ck 25) = true := by decide +kernel
set_option maxRecDepth 100000 in
theorem kv_26 : kl_26.all (ky_ck 26) = true := by decide +kernel
set_option maxRecDepth 100000 in
theorem kv_27 : kl_27.all (ky_ck 27) = true := by decide +kernel
set_option maxRecDepth 100000 in
theorem kv_28 : kl_28.all (ky_ck 28) = true := by decide +kernel
set_option maxRecDepth 100000 in
theorem kv_29 : kl_29.all (ky_ck 29) = true := by decide +kernel
set_option maxRecDepth 100000 in
theorem kv_30 : kl_30.all (ky_ck 30) = true := by decide +kernel
set_option maxRecDepth 100000 in
theorem kv_31 : kl_31.all (ky_ck 31) = true := by decide +kernel
set_option maxRecDepth 100000 in
theorem kv_32 : kl_32.all (ky_ck 32) = true := by decide +kernel
set_option maxRecDepth 100000 in
theorem kv_33 : kl_33.all (ky_ck 33) = true := by decide +kernel
set_option maxRecDepth 100000 in
theorem kv_34 : kl_34.all (ky_ck 34) = true := by decide +kernel
set_option maxRecDepth 100000 in
theorem kv_35 : kl_35.all (ky_ck 35) = true := by decide +kernel
set_option maxRecDepth 100000 in
theorem kv_36 : kl_36.all (ky_ck 36) = true := by decide +kernel
set_option maxRecDepth 100000 in
theorem kv_37 : kl_37.all (ky_ck 37) = true := by decide +kernel
set_option maxRecDepth 100000 in
theorem kv_38 : kl_38.all (ky_ck 38) = true := by decide +kernel
set_option maxRecDepth 100000 in
theorem kv_39 : kl_39.all (ky_ck 39) = true := by decide +kernel
set_option maxRecDepth 100000 in
theorem kv_40 : kl_40.all (ky_ck 40) = true := by decide +kernel
set_option maxRecDepth 100000 in
theorem kv_41 : kl_41.all (ky_ck 41) = true := by decide +kernel
set_option maxRecDepth 100000 in
theorem kv_42 : kl_42.all (ky_ck 42) = true := by decide +kernel
set_option maxRecDepth 100000 in
theorem kv_43 : kl_43.all (ky_ck 43) = true := by decide +kernel
set_option maxRecDepth 100000 in
theorem kv_44 : kl_44.all (ky_ck 44) = true := by decide +kernel
set_option maxRecDepth 100000 in
theorem kv_45 : kl_45.all (ky_ck 45) = true := by decide +kernel
set_option maxRecDepth 100000 in
theorem kv_46 : kl_46.all (ky_ck 46) = true := by decide +kernel
set_option maxRecDepth 100000 in
theorem kv_47 : kl_47.all (ky_ck 47) = true := by decide +kernel
set_option maxRecDepth 100000 in
theorem kv_48 : kl_48.all (ky_ck 48) = true := by decide +kernel
set_option maxRecDepth 100000 in
theorem kv_49 : kl_49.all (ky_ck 49) = true := by decide +kernel
set_option maxRecDepth 100000 in
theorem kv_50 : kl_50.all (ky_ck 50) = true := by decide +kernel
set_option maxRecDepth 100000 in
theorem kv_51 : kl_51.all (ky_ck 51) = true := by decide +kernel
set_option maxRecDepth 100000 in
theorem kv_52 : kl_52.all (ky_ck 52) = true := by decide +kernel
set_option maxRecDepth 100000 in
theorem kv_53 : kl_53.all (ky_ck 53) = true := by decide +kernel
set_option maxRecDepth 100000 in
theorem kv_54 : kl_54.all (ky_ck 54) = true := by decide +kernel
