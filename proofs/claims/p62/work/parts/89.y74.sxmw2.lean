/-! sx: words of the law -/
theorem sx_ml16 : (List.range 64).all (fun i => sx_m0 (1024 + i)) = true := sf_up (f := fun i => sf_m0 (1024 + i)) (fun i => sf_m0_eq _) (by decide +kernel)
theorem sx_ml17 : (List.range 64).all (fun i => sx_m0 (1088 + i)) = true := sf_up (f := fun i => sf_m0 (1088 + i)) (fun i => sf_m0_eq _) (by decide +kernel)
theorem sx_ml18 : (List.range 64).all (fun i => sx_m0 (1152 + i)) = true := sf_up (f := fun i => sf_m0 (1152 + i)) (fun i => sf_m0_eq _) (by decide +kernel)
theorem sx_ml19 : (List.range 64).all (fun i => sx_m0 (1216 + i)) = true := sf_up (f := fun i => sf_m0 (1216 + i)) (fun i => sf_m0_eq _) (by decide +kernel)
theorem sx_ml20 : (List.range 64).all (fun i => sx_m0 (1280 + i)) = true := sf_up (f := fun i => sf_m0 (1280 + i)) (fun i => sf_m0_eq _) (by decide +kernel)
theorem sx_ml21 : (List.range 64).all (fun i => sx_m0 (1344 + i)) = true := sf_up (f := fun i => sf_m0 (1344 + i)) (fun i => sf_m0_eq _) (by decide +kernel)
theorem sx_ml22 : (List.range 64).all (fun i => sx_m0 (1408 + i)) = true := sf_up (f := fun i => sf_m0 (1408 + i)) (fun i => sf_m0_eq _) (by decide +kernel)
theorem sx_ml23 : (List.range 64).all (fun i => sx_m0 (1472 + i)) = true := sf_up (f := fun i => sf_m0 (1472 + i)) (fun i => sf_m0_eq _) (by decide +kernel)
