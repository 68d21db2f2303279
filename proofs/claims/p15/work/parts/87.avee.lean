/-! ax: brides, the values one after the other -/
set_option maxRecDepth 1000000 in
theorem ax_q813_0 : ax_b8 1000000 2147483649 2147483679 = true := by decide +kernel
set_option maxRecDepth 1000000 in
theorem ax_q813_1 : ax_b8 1000000 2147483680 2147483711 = true := by decide +kernel
set_option maxRecDepth 1000000 in
theorem ax_q813_2 : ax_b8 1000000 2147483712 2147483743 = true := by decide +kernel
set_option maxRecDepth 1000000 in
theorem ax_q813_3 : ax_b8 1000000 2147483744 2147483775 = true := by decide +kernel
set_option maxRecDepth 1000000 in
theorem ax_q813_4 : ax_b8 1000000 2147483776 2147483807 = true := by decide +kernel
set_option maxRecDepth 1000000 in
theorem ax_q813_5 : ax_b8 1000000 2147483808 2147483839 = true := by decide +kernel
set_option maxRecDepth 1000000 in
theorem ax_q813_6 : ax_b8 1000000 2147483840 2147483871 = true := by decide +kernel
set_option maxRecDepth 1000000 in
theorem ax_q813_7 : ax_b8 1000000 2147483872 2147483903 = true := by decide +kernel
set_option maxRecDepth 1000000 in
theorem ax_q813 : ax_chkR (ax_runB ax_b813 ax_g813 100000) ax_c813 = true := by decide +kernel
