/-! sx: words of methods -/
theorem sx_mc3 : (List.range 32).all (fun i => sx_mC (32 * 3 + i)) = true := by decide +kernel
theorem sx_mc4 : (List.range 32).all (fun i => sx_mC (32 * 4 + i)) = true := by decide +kernel
