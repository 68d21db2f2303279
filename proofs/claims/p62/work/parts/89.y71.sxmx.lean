/-! sx: words of methods -/
theorem sx_mc3 : (List.range 32).all (fun i => sx_mC (32 * 3 + i)) = true := sf_up32 (k := 3) (by decide) (by decide +kernel)
theorem sx_mc4 : (List.range 32).all (fun i => sx_mC (32 * 4 + i)) = true := sf_up32 (k := 4) (by decide) (by decide +kernel)
