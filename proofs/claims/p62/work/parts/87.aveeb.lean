/-! ax: brides, the run -/
set_option maxRecDepth 1000000 in
theorem ax_q815 : ax_chkR (ax_runB ax_b815 ax_g815 100000) ax_c815 = true := by decide +kernel
