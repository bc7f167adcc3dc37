set_option maxRecDepth 100000 in
theorem kv_327_6 : kl_327_6.all (ky_ck 327) = true := by decide +kernel
set_option maxRecDepth 100000 in
theorem kv_327_7 : kl_327_7.all (ky_ck 327) = true := by decide +kernel
set_option maxRecDepth 100000 in
theorem kv_327_8 : kl_327_8.all (ky_ck 327) = true := by decide +kernel
