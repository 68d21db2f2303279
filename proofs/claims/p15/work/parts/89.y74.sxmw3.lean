/-! sx: words of the law -/
theorem sx_ml24 : (List.range 64).all (fun i => sx_m0 (1536 + i)) = true := by decide +kernel
theorem sx_ml25 : (List.range 64).all (fun i => sx_m0 (1600 + i)) = true := by decide +kernel
theorem sx_ml26 : (List.range 64).all (fun i => sx_m0 (1664 + i)) = true := by decide +kernel
theorem sx_ml27 : (List.range 64).all (fun i => sx_m0 (1728 + i)) = true := by decide +kernel
theorem sx_ml28 : (List.range 64).all (fun i => sx_m0 (1792 + i)) = true := by decide +kernel
theorem sx_ml29 : (List.range 64).all (fun i => sx_m0 (1856 + i)) = true := by decide +kernel
theorem sx_ml30 : (List.range 64).all (fun i => sx_m0 (1920 + i)) = true := by decide +kernel
theorem sx_ml31 : (List.range 64).all (fun i => sx_m0 (1984 + i)) = true := by decide +kernel
