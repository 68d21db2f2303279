/-! sx: words of the law -/
theorem sx_ml0 : (List.range 64).all (fun i => sx_m0 (0 + i)) = true := sf_up (f := fun i => sf_m0 (0 + i)) (fun i => sf_m0_eq _) (by decide +kernel)
theorem sx_ml1 : (List.range 64).all (fun i => sx_m0 (64 + i)) = true := sf_up (f := fun i => sf_m0 (64 + i)) (fun i => sf_m0_eq _) (by decide +kernel)
theorem sx_ml2 : (List.range 64).all (fun i => sx_m0 (128 + i)) = true := sf_up (f := fun i => sf_m0 (128 + i)) (fun i => sf_m0_eq _) (by decide +kernel)
theorem sx_ml3 : (List.range 64).all (fun i => sx_m0 (192 + i)) = true := sf_up (f := fun i => sf_m0 (192 + i)) (fun i => sf_m0_eq _) (by decide +kernel)
theorem sx_ml4 : (List.range 64).all (fun i => sx_m0 (256 + i)) = true := sf_up (f := fun i => sf_m0 (256 + i)) (fun i => sf_m0_eq _) (by decide +kernel)
theorem sx_ml5 : (List.range 64).all (fun i => sx_m0 (320 + i)) = true := sf_up (f := fun i => sf_m0 (320 + i)) (fun i => sf_m0_eq _) (by decide +kernel)
theorem sx_ml6 : (List.range 64).all (fun i => sx_m0 (384 + i)) = true := sf_up (f := fun i => sf_m0 (384 + i)) (fun i => sf_m0_eq _) (by decide +kernel)
theorem sx_ml7 : (List.range 64).all (fun i => sx_m0 (448 + i)) = true := sf_up (f := fun i => sf_m0 (448 + i)) (fun i => sf_m0_eq _) (by decide +kernel)
