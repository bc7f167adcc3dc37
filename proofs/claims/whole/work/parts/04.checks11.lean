set_option maxRecDepth 100000 in
theorem kv_327_12 : kl_327_12.all (ky_ck 327) = true := by decide +kernel
