set_option maxRecDepth 100000 in
theorem kv_327_13_a : (kl_327_13.take 50).all (ky_ck 327) = true := by decide +kernel
