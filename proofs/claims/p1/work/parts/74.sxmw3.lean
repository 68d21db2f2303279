/-! sx: words of the law -/
theorem sx_ml9 : (List.range 256).all (fun i => sx_m0 (256 * 9 + i)) = true := by decide +kernel
theorem sx_ml10 : (List.range 256).all (fun i => sx_m0 (256 * 10 + i)) = true := by decide +kernel
theorem sx_ml11 : (List.range 256).all (fun i => sx_m0 (256 * 11 + i)) = true := by decide +kernel
