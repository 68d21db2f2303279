/-! sx: runs of the law -/
set_option maxRecDepth 1000000
theorem sx_oc0 : sx_law 6 (sx_y6 0) = true := by decide +kernel
theorem sx_oc1 : sx_law 6 (sx_y6 1) = true := by decide +kernel
theorem sx_oc2 : sx_law 6 (sx_y6 2) = true := by decide +kernel
theorem sx_oc3 : sx_law 6 (sx_y6 3) = true := by decide +kernel
theorem sx_oc4 : sx_law 6 (sx_y6 4) = true := by decide +kernel
theorem sx_oc5 : sx_law 6 (sx_y6 5) = true := by decide +kernel
theorem sx_oc6 : sx_law 6 (sx_y6 6) = true := by decide +kernel
theorem sx_oc7 : sx_law 6 (sx_y6 7) = true := by decide +kernel
theorem sx_oc8 : sx_law 6 (sx_y6 8) = true := by decide +kernel
theorem sx_oc9 : sx_law 6 (sx_y6 9) = true := by decide +kernel
theorem sx_oc10 : sx_law 6 (sx_y6 10) = true := by decide +kernel
theorem sx_oc11 : sx_law 6 (sx_y6 11) = true := by decide +kernel
