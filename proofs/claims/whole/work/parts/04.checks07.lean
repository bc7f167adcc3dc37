set_option maxRecDepth 100000 in
theorem kv_328_0 : kl_328_0.all (ky_ck 328) = true := by decide +kernel
set_option maxRecDepth 100000 in
theorem kv_328_1 : kl_328_1.all (ky_ck 328) = true := by decide +kernel
set_option maxRecDepth 100000 in
theorem kv_328_2 : kl_328_2.all (ky_ck 328) = true := by decide +kernel
set_option maxRecDepth 100000 in
theorem kv_328_3 : kl_328_3.all (ky_ck 328) = true := by decide +kernel
set_option maxRecDepth 100000 in
theorem kv_328_4 : kl_328_4.all (ky_ck 328) = true := by decide +kernel
