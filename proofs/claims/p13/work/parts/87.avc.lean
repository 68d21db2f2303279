/-! ax: bits of a byte, and of none -/
def ax_g766 : ax_G := (0x0, 1, [], [], [], 0, 1, [])
set_option maxRecDepth 1000000 in
theorem ax_q766_0 : ax_chk ax_g766 (329, 0, [(1, 2147483648, 2147483679)], [], 0x0, 0, [(1, 1, 2147483648, 2147483656, [])]) 1 1000000 = true := by decide +kernel
set_option maxRecDepth 1000000 in
theorem ax_q766_1 : ax_chk ax_g766 (329, 0, [(1, 2147483680, 2147483711)], [], 0x0, 0, [(1, 1, 2147483648, 2147483656, [])]) 1 1000000 = true := by decide +kernel
set_option maxRecDepth 1000000 in
theorem ax_q766_2 : ax_chk ax_g766 (329, 0, [(1, 2147483712, 2147483743)], [], 0x0, 0, [(1, 1, 2147483648, 2147483656, [])]) 1 1000000 = true := by decide +kernel
set_option maxRecDepth 1000000 in
theorem ax_q766_3 : ax_chk ax_g766 (329, 0, [(1, 2147483744, 2147483775)], [], 0x0, 0, [(1, 1, 2147483648, 2147483656, [])]) 1 1000000 = true := by decide +kernel
set_option maxRecDepth 1000000 in
theorem ax_q766_4 : ax_chk ax_g766 (329, 0, [(1, 2147483776, 2147483807)], [], 0x0, 0, [(1, 1, 2147483648, 2147483656, [])]) 1 1000000 = true := by decide +kernel
set_option maxRecDepth 1000000 in
theorem ax_q766_5 : ax_chk ax_g766 (329, 0, [(1, 2147483808, 2147483839)], [], 0x0, 0, [(1, 1, 2147483648, 2147483656, [])]) 1 1000000 = true := by decide +kernel
set_option maxRecDepth 1000000 in
theorem ax_q766_6 : ax_chk ax_g766 (329, 0, [(1, 2147483840, 2147483871)], [], 0x0, 0, [(1, 1, 2147483648, 2147483656, [])]) 1 1000000 = true := by decide +kernel
set_option maxRecDepth 1000000 in
theorem ax_q766_7 : ax_chk ax_g766 (329, 0, [(1, 2147483872, 2147483903)], [], 0x0, 0, [(1, 1, 2147483648, 2147483656, [])]) 1 1000000 = true := by decide +kernel
theorem ax_v766 {N : Nat} {sy : sx_Y} (h : ax_Sc N sy) : ax_Valid N sy ax_c766 := ax_vcut 2147483679 (ax_vd (g := ax_g766) h True.intro rfl rfl rfl ax_q766_0) (ax_vcut 2147483711 (ax_vd (g := ax_g766) h True.intro rfl rfl rfl ax_q766_1) (ax_vcut 2147483743 (ax_vd (g := ax_g766) h True.intro rfl rfl rfl ax_q766_2) (ax_vcut 2147483775 (ax_vd (g := ax_g766) h True.intro rfl rfl rfl ax_q766_3) (ax_vcut 2147483807 (ax_vd (g := ax_g766) h True.intro rfl rfl rfl ax_q766_4) (ax_vcut 2147483839 (ax_vd (g := ax_g766) h True.intro rfl rfl rfl ax_q766_5) (ax_vcut 2147483871 (ax_vd (g := ax_g766) h True.intro rfl rfl rfl ax_q766_6) (ax_vd (g := ax_g766) h True.intro rfl rfl rfl ax_q766_7)))))))
