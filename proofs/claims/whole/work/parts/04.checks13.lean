set_option maxRecDepth 100000 in
theorem kv_327_13_b : (kl_327_13.drop 50).all (ky_ck 327) = true := by decide +kernel
theorem kv_327_13 : kl_327_13.all (ky_ck 327) = true := by
  rw [← List.take_append_drop 50 kl_327_13, List.all_append, kv_327_13_a, kv_327_13_b]
  rfl
