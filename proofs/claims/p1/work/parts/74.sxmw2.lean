/-! sx: words of the law -/
theorem sx_ml6 : (List.range 256).all (fun i => sx_m0 (256 * 6 + i)) = true := by decide +kernel
theorem sx_ml7 : (List.range 256).all (fun i => sx_m0 (256 * 7 + i)) = true := by decide +kernel
theorem sx_ml8 : (List.range 256).all (fun i => sx_m0 (256 * 8 + i)) = true := by decide +kernel
