set_option maxRecDepth 100000 in
theorem kv_327_9 : kl_327_9.all (ky_ck 327) = true := by decide +kernel
set_option maxRecDepth 100000 in
theorem kv_327_10 : kl_327_10.all (ky_ck 327) = true := by decide +kernel
set_option maxRecDepth 100000 in
theorem kv_327_11 : kl_327_11.all (ky_ck 327) = true := by decide +kernel
