/-! sx: runs of the law -/
set_option maxRecDepth 1000000
theorem sx_oc12 : sx_law 6 (sx_y6 12) = true := by decide +kernel
theorem sx_oc13 : sx_law 6 (sx_y6 13) = true := by decide +kernel
theorem sx_oc14 : sx_law 6 (sx_y6 14) = true := by decide +kernel
theorem sx_oc15 : sx_law 6 (sx_y6 15) = true := by decide +kernel
theorem sx_oc16 : sx_law 6 (sx_y6 16) = true := by decide +kernel
theorem sx_oc18 : sx_law 6 (sx_y6 18) = true := by decide +kernel
theorem sx_oc19 : sx_law 6 (sx_y6 19) = true := by decide +kernel
theorem sx_oc20 : sx_law 6 (sx_y6 20) = true := by decide +kernel
theorem sx_oc21 : sx_law 6 (sx_y6 21) = true := by decide +kernel
theorem sx_oc22 : sx_law 6 (sx_y6 22) = true := by decide +kernel
theorem sx_oc23 : sx_law 6 (sx_y6 23) = true := by decide +kernel
theorem sx_oc24 : sx_law 6 (sx_y6 24) = true := by decide +kernel
