/-! sx: words of the law -/
theorem sx_ml8 : (List.range 64).all (fun i => sx_m0 (512 + i)) = true := sf_up (f := fun i => sf_m0 (512 + i)) (fun i => sf_m0_eq _) (by decide +kernel)
theorem sx_ml9 : (List.range 64).all (fun i => sx_m0 (576 + i)) = true := sf_up (f := fun i => sf_m0 (576 + i)) (fun i => sf_m0_eq _) (by decide +kernel)
theorem sx_ml10 : (List.range 64).all (fun i => sx_m0 (640 + i)) = true := sf_up (f := fun i => sf_m0 (640 + i)) (fun i => sf_m0_eq _) (by decide +kernel)
theorem sx_ml11 : (List.range 64).all (fun i => sx_m0 (704 + i)) = true := sf_up (f := fun i => sf_m0 (704 + i)) (fun i => sf_m0_eq _) (by decide +kernel)
theorem sx_ml12 : (List.range 64).all (fun i => sx_m0 (768 + i)) = true := sf_up (f := fun i => sf_m0 (768 + i)) (fun i => sf_m0_eq _) (by decide +kernel)
theorem sx_ml13 : (List.range 64).all (fun i => sx_m0 (832 + i)) = true := sf_up (f := fun i => sf_m0 (832 + i)) (fun i => sf_m0_eq _) (by decide +kernel)
theorem sx_ml14 : (List.range 64).all (fun i => sx_m0 (896 + i)) = true := sf_up (f := fun i => sf_m0 (896 + i)) (fun i => sf_m0_eq _) (by decide +kernel)
theorem sx_ml15 : (List.range 64).all (fun i => sx_m0 (960 + i)) = true := sf_up (f := fun i => sf_m0 (960 + i)) (fun i => sf_m0_eq _) (by decide +kernel)
