/-! sx: runs of the law -/
set_option maxRecDepth 1000000
theorem sx_oc17 : sx_law 6 (sx_y6 17) = true := by decide +kernel
