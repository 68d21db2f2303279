/-! sx: words of the law -/
theorem sx_ml3 : (List.range 256).all (fun i => sx_m0 (256 * 3 + i)) = true := by decide +kernel
theorem sx_ml4 : (List.range 256).all (fun i => sx_m0 (256 * 4 + i)) = true := by decide +kernel
theorem sx_ml5 : (List.range 256).all (fun i => sx_m0 (256 * 5 + i)) = true := by decide +kernel
