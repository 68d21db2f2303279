/-! sx: words of methods -/
theorem sx_mc9 : (List.range 32).all (fun i => sx_mC (32 * 9 + i)) = true := sf_up32 (k := 9) (by decide) (by decide +kernel)
theorem sx_mc10 : (List.range 32).all (fun i => sx_mC (32 * 10 + i)) = true := sf_up32 (k := 10) (by decide) (by decide +kernel)
