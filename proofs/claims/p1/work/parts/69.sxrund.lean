/-! sx: runs of the law -/
set_option maxRecDepth 1000000
theorem sx_oc40 : sx_law 6 (sx_y6 40) = true := by decide +kernel
theorem sx_oc41 : sx_law 6 (sx_y6 41) = true := by decide +kernel
theorem sx_oc42 : sx_law 6 (sx_y6 42) = true := by decide +kernel
theorem sx_oc43 : sx_law 6 (sx_y6 43) = true := by decide +kernel
theorem sx_oc44 : sx_law 6 (sx_y6 44) = true := by decide +kernel
theorem sx_oc45 : sx_law 6 (sx_y6 45) = true := by decide +kernel
theorem sx_oc46 : sx_law 6 (sx_y6 46) = true := by decide +kernel
theorem sx_oc47 : sx_law 6 (sx_y6 47) = true := by decide +kernel
theorem sx_oc48 : sx_law 6 (sx_y6 48) = true := by decide +kernel
theorem sx_oc49 : sx_law 6 (sx_y6 49) = true := by decide +kernel
theorem sx_oc50 : sx_law 6 (sx_y6 50) = true := by decide +kernel
theorem sx_oc51 : sx_law 6 (sx_y6 51) = true := by decide +kernel
theorem sx_oc52 : sx_law 6 (sx_y6 52) = true := by decide +kernel
