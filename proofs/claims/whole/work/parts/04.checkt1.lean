set_option maxRecDepth 100000 in
theorem ky_xw_0 : ky_xwc (0, 115) = true := by decide +kernel
set_option maxRecDepth 100000 in
theorem ky_xw_1 : ky_xwc (1, 180) = true := by decide +kernel
set_option maxRecDepth 100000 in
theorem ky_xw_2 : ky_xwc (2, 347) = true := by decide +kernel
theorem ky_xw_ok : ∀ y ∈ ky_x3, ky_xwc y = true := by
  intro y hy
  simp only [ky_x3, List.mem_cons, List.not_mem_nil, or_false] at hy
  rcases hy with rfl | rfl | rfl
  · exact ky_xw_0
  · exact ky_xw_1
  · exact ky_xw_2
