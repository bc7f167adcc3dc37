set_option maxRecDepth 100000 in
theorem kv_327_0 : kl_327_0.all (ky_ck 327) = true := by decide +kernel
set_option maxRecDepth 100000 in
theorem kv_327_1 : kl_327_1.all (ky_ck 327) = true := by decide +kernel
set_option maxRecDepth 100000 in
theorem kv_327_2 : kl_327_2.all (ky_ck 327) = true := by decide +kernel
