/-! sx: words of methods -/
theorem sx_mc00 : sx_mC 0 = true := by decide +kernel
theorem sx_mc01 : (List.range 31).all (fun i => sx_mC (i + 1)) = true := by decide +kernel
