/-! ax: brides, the run -/
set_option maxRecDepth 1000000 in
theorem ax_q816 : ax_chkR (ax_runB ax_b816 ax_g816 100000) ax_c816 = true := by decide +kernel
