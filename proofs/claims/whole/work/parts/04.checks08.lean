set_option maxRecDepth 100000 in
theorem kv_327_3 : kl_327_3.all (ky_ck 327) = true := by decide +kernel
set_option maxRecDepth 100000 in
theorem kv_327_4 : kl_327_4.all (ky_ck 327) = true := by decide +kernel
set_option maxRecDepth 100000 in
theorem kv_327_5 : kl_327_5.all (ky_ck 327) = true := by decide +kernel
