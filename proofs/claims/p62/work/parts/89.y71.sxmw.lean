/-! sx: words of methods -/
theorem sx_mc1 : (List.range 32).all (fun i => sx_mC (32 * 1 + i)) = true := sf_up32 (k := 1) (by decide) (by decide +kernel)
theorem sx_mc2 : (List.range 32).all (fun i => sx_mC (32 * 2 + i)) = true := sf_up32 (k := 2) (by decide) (by decide +kernel)
