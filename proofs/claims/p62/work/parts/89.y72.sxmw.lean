/-! sx: words of methods -/
theorem sx_mc5 : (List.range 32).all (fun i => sx_mC (32 * 5 + i)) = true := sf_up32 (k := 5) (by decide) (by decide +kernel)
theorem sx_mc6 : (List.range 32).all (fun i => sx_mC (32 * 6 + i)) = true := sf_up32 (k := 6) (by decide) (by decide +kernel)
