/-! sx: words of the law -/
theorem sx_ml24 : (List.range 64).all (fun i => sx_m0 (1536 + i)) = true := sf_up (f := fun i => sf_m0 (1536 + i)) (fun i => sf_m0_eq _) (by decide +kernel)
theorem sx_ml25 : (List.range 64).all (fun i => sx_m0 (1600 + i)) = true := sf_up (f := fun i => sf_m0 (1600 + i)) (fun i => sf_m0_eq _) (by decide +kernel)
theorem sx_ml26 : (List.range 64).all (fun i => sx_m0 (1664 + i)) = true := sf_up (f := fun i => sf_m0 (1664 + i)) (fun i => sf_m0_eq _) (by decide +kernel)
theorem sx_ml27 : (List.range 64).all (fun i => sx_m0 (1728 + i)) = true := sf_up (f := fun i => sf_m0 (1728 + i)) (fun i => sf_m0_eq _) (by decide +kernel)
theorem sx_ml28 : (List.range 64).all (fun i => sx_m0 (1792 + i)) = true := sf_up (f := fun i => sf_m0 (1792 + i)) (fun i => sf_m0_eq _) (by decide +kernel)
theorem sx_ml29 : (List.range 64).all (fun i => sx_m0 (1856 + i)) = true := sf_up (f := fun i => sf_m0 (1856 + i)) (fun i => sf_m0_eq _) (by decide +kernel)
theorem sx_ml30 : (List.range 64).all (fun i => sx_m0 (1920 + i)) = true := sf_up (f := fun i => sf_m0 (1920 + i)) (fun i => sf_m0_eq _) (by decide +kernel)
