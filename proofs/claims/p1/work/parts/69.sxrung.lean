/-! sx: runs of the law, opcode 17 by the first place -/
set_option maxRecDepth 1000000
theorem sx_far2 : sx_law 6 (sx_y17 2147483650 2147483650) = true := by decide +kernel
theorem sx_far3 : sx_law 6 (sx_y17 2147483651 2147483651) = true := by decide +kernel
theorem sx_far4 : sx_law 6 (sx_y17 2147483652 2147483652) = true := by decide +kernel
