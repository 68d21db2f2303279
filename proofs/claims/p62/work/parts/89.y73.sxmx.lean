/-! sx: words of methods -/
theorem sx_mc11 : (List.range 32).all (fun i => sx_mC (32 * 11 + i)) = true := sf_up32 (k := 11) (by decide) (by decide +kernel)
theorem sx_mc12 : (List.range 32).all (fun i => sx_mC (32 * 12 + i)) = true := sf_up32 (k := 12) (by decide) (by decide +kernel)
