/-! sx: runs of the law, opcode 17 by the first place -/
set_option maxRecDepth 1000000
def sx_y17 (lo hi : Nat) : sx_Y := [(0, 4294967295, 0, 18), (lo, hi, 0, 0), (0, 4294967295, 0, 0), (0, 4294967295, 0, 0), (0, 4294967295, 0, 0), (0, 4294967295, 0, 0)]
theorem sx_farL : sx_law 6 (sx_y17 0 2147483647) = true := by decide +kernel
theorem sx_farH : sx_law 6 (sx_y17 2147483656 4294967295) = true := by decide +kernel
theorem sx_far0 : sx_law 6 (sx_y17 2147483648 2147483648) = true := by decide +kernel
theorem sx_far1 : sx_law 6 (sx_y17 2147483649 2147483649) = true := by decide +kernel
