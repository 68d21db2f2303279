/-! ax: brides, the values one after the other -/
set_option maxRecDepth 1000000 in
theorem ax_q815_0 : ax_b8 1000000 2147483649 2147483679 = true := by decide +kernel
set_option maxRecDepth 1000000 in
theorem ax_q815_1 : ax_b8 1000000 2147483680 2147483711 = true := by decide +kernel
set_option maxRecDepth 1000000 in
theorem ax_q815_2 : ax_b8 1000000 2147483712 2147483743 = true := by decide +kernel
set_option maxRecDepth 1000000 in
theorem ax_q815_3 : ax_b8 1000000 2147483744 2147483775 = true := by decide +kernel
set_option maxRecDepth 1000000 in
theorem ax_q815_4 : ax_b8 1000000 2147483776 2147483807 = true := by decide +kernel
set_option maxRecDepth 1000000 in
theorem ax_q815_5 : ax_b8 1000000 2147483808 2147483839 = true := by decide +kernel
set_option maxRecDepth 1000000 in
theorem ax_q815_6 : ax_b8 1000000 2147483840 2147483871 = true := by decide +kernel
set_option maxRecDepth 1000000 in
theorem ax_q815_7 : ax_b8 1000000 2147483872 2147483903 = true := by decide +kernel
