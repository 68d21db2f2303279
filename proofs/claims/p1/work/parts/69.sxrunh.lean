/-! sx: runs of the law, opcode 17 by the first place -/
set_option maxRecDepth 1000000
theorem sx_far5 : sx_law 6 (sx_y17 2147483653 2147483653) = true := by decide +kernel
theorem sx_far6 : sx_law 6 (sx_y17 2147483654 2147483654) = true := by decide +kernel
theorem sx_far7 : sx_law 6 (sx_y17 2147483655 2147483655) = true := by decide +kernel
