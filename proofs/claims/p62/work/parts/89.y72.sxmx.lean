/-! sx: words of methods -/
theorem sx_mc7 : (List.range 32).all (fun i => sx_mC (32 * 7 + i)) = true := sf_up32 (k := 7) (by decide) (by decide +kernel)
theorem sx_mc8 : (List.range 32).all (fun i => sx_mC (32 * 8 + i)) = true := sf_up32 (k := 8) (by decide) (by decide +kernel)
