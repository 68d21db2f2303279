/-! sx: runs of the law -/
set_option maxRecDepth 1000000
theorem sx_oc53 : sx_law 6 (sx_y6 53) = true := by decide +kernel
theorem sx_oc54 : sx_law 6 (sx_y6 54) = true := by decide +kernel
theorem sx_oc55 : sx_law 6 (sx_y6 55) = true := by decide +kernel
theorem sx_oc56 : sx_law 6 (sx_y6 56) = true := by decide +kernel
theorem sx_oc57 : sx_law 6 (sx_y6 57) = true := by decide +kernel
theorem sx_oc58 : sx_law 6 (sx_y6 58) = true := by decide +kernel
theorem sx_oc59 : sx_law 6 (sx_y6 59) = true := by decide +kernel
theorem sx_oc60 : sx_law 6 (sx_y6 60) = true := by decide +kernel
theorem sx_oc61 : sx_law 6 (sx_y6 61) = true := by decide +kernel
theorem sx_oc62 : sx_law 6 (sx_y6 62) = true := by decide +kernel
theorem sx_oc63 : sx_law 6 (sx_y6 63) = true := by decide +kernel
