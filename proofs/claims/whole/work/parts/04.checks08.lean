set_option maxRecDepth 100000 in
theorem kv_328_5 : kl_328_5.all (ky_ck 328) = true := by decide +kernel
set_option maxRecDepth 100000 in
theorem kv_328_6 : kl_328_6.all (ky_ck 328) = true := by decide +kernel
set_option maxRecDepth 100000 in
theorem kv_328_7 : kl_328_7.all (ky_ck 328) = true := by decide +kernel
set_option maxRecDepth 100000 in
theorem kv_328_8 : kl_328_8.all (ky_ck 328) = true := by decide +kernel
set_option maxRecDepth 100000 in
theorem kv_328_9 : kl_328_9.all (ky_ck 328) = true := by decide +kernel
