/-! sx: words of methods -/
theorem sx_mc7 : (List.range 32).all (fun i => sx_mC (32 * 7 + i)) = true := by decide +kernel
theorem sx_mc8 : (List.range 32).all (fun i => sx_mC (32 * 8 + i)) = true := by decide +kernel
