/-! sx: words of the law -/
theorem sx_ml0 : (List.range 256).all (fun i => sx_m0 (256 * 0 + i)) = true := by decide +kernel
theorem sx_ml1 : (List.range 256).all (fun i => sx_m0 (256 * 1 + i)) = true := by decide +kernel
theorem sx_ml2 : (List.range 256).all (fun i => sx_m0 (256 * 2 + i)) = true := by decide +kernel
