/-! sx: runs of the law -/
set_option maxRecDepth 1000000
theorem sx_oc25 : sx_law 6 (sx_y6 25) = true := by decide +kernel
theorem sx_oc26 : sx_law 6 (sx_y6 26) = true := by decide +kernel
theorem sx_oc27 : sx_law 6 (sx_y6 27) = true := by decide +kernel
theorem sx_oc28 : sx_law 6 (sx_y6 28) = true := by decide +kernel
theorem sx_oc29 : sx_law 6 (sx_y6 29) = true := by decide +kernel
theorem sx_oc30 : sx_law 6 (sx_y6 30) = true := by decide +kernel
theorem sx_oc31 : sx_law 6 (sx_y6 31) = true := by decide +kernel
theorem sx_oc32 : sx_law 6 (sx_y6 32) = true := by decide +kernel
theorem sx_oc33 : sx_law 6 (sx_y6 33) = true := by decide +kernel
theorem sx_oc34 : sx_law 6 (sx_y6 34) = true := by decide +kernel
theorem sx_oc35 : sx_law 6 (sx_y6 35) = true := by decide +kernel
theorem sx_oc36 : sx_law 6 (sx_y6 36) = true := by decide +kernel
theorem sx_oc37 : sx_law 6 (sx_y6 37) = true := by decide +kernel
theorem sx_oc38 : sx_law 6 (sx_y6 38) = true := by decide +kernel
theorem sx_oc39 : sx_law 6 (sx_y6 39) = true := by decide +kernel
