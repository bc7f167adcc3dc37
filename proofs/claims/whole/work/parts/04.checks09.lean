set_option maxRecDepth 100000 in
theorem kv_328_10 : kl_328_10.all (ky_ck 328) = true := by decide +kernel
set_option maxRecDepth 100000 in
theorem kv_328_11 : kl_328_11.all (ky_ck 328) = true := by decide +kernel
set_option maxRecDepth 100000 in
theorem kv_328_12 : kl_328_12.all (ky_ck 328) = true := by decide +kernel
set_option maxRecDepth 100000 in
theorem kv_328_13 : kl_328_13.all (ky_ck 328) = true := by decide +kernel
set_option maxRecDepth 100000 in
theorem kv_328_14 : kl_328_14.all (ky_ck 328) = true := by decide +kernel
