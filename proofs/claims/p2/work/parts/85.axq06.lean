/-! ax: runs of contracts, written by a program -/
def ax_g709 : ax_G := (0x0, 1, [], [(342, 0x10, [(4, [(1, 2147483648, 2147483903, 0), (2, 2147483648, 2147483656, 0)], [], 0x0, 0, 2, 1)])], [], 0, 1, [])
set_option maxRecDepth 1000000 in
theorem ax_q709 : ax_chk ax_g709 ax_c709 0 1000000 = true := by decide +kernel
def ax_g710 : ax_G := (0x0, 1, [], [(135, 0x10, [(4, [(2, 2147483648, 2147483903, 0), (3, 2147483648, 2147483656, 0)], [], 0x0, 0, 3, 1)])], [], 0, 1, [])
set_option maxRecDepth 1000000 in
theorem ax_q710 : ax_chk ax_g710 ax_c710 0 1000000 = true := by decide +kernel
def ax_g711 : ax_G := (0x0, 1, [], [], [], 0, 1, [])
set_option maxRecDepth 1000000 in
theorem ax_q711 : ax_chk ax_g711 ax_c711 1 1000000 = true := by decide +kernel
def ax_g712 : ax_G := (0x100000000000000000000000000000000000000000000000000000000000000000000000000000000000000000000000000000000000000000000000000000000000000000000000000000000000000000000000000000000000000000000000000000000000000000000000000000000000000000000000000000000000000000000000000000000000000000000000000000000000000000000000000000000000000000000000000000000000000000000000000000000000000000000000000000000000000000000000000000000000000000000000000000000, 1, [], [(198, 0x4000004, [(2, [(3, 2147483648, 2147483658, 0)], [], 0x0, 0, 3, 1), (26, [(3, 2147483648, 4294967295, 0), (4, 2147483648, 2147483656, 0), (5, 1, 0, 0)], [], 0x0, 0, 4, 1)])], [], 0, 1, [])
set_option maxRecDepth 1000000 in
theorem ax_q712 : ax_chk ax_g712 ax_c712 0 1000000 = true := by decide +kernel
def ax_g713 : ax_G := (0x0, 1, [], [(345, 0x10, [(4, [(2, 0, 4294967295, 0), (3, 2147483648, 2147483656, 0)], [], 0x0, 0, 3, 1)])], [], 0, 1, [])
set_option maxRecDepth 1000000 in
theorem ax_q713 : ax_chk ax_g713 ax_c713 0 1000000 = true := by decide +kernel
def ax_g714 : ax_G := (0x0, 1, [], [], [], 0, 1, [])
set_option maxRecDepth 1000000 in
theorem ax_q714 : ax_chk ax_g714 ax_c714 0 1000000 = true := by decide +kernel
def ax_g715 : ax_G := (0x0, 1, [], [(346, 0x40020, [(5, [(3, 2147483648, 4294967295, 0), (4, 2147483648, 2147483658, 0), (5, 1, 0, 0), (6, 1, 0, 0)], [], 0x0, 0, 4, 1), (18, [(5, 0, 4294967295, 0), (6, 2147483648, 2147483656, 0)], [], 0x0, 0, 6, 1)])], [], 0, 1, [])
set_option maxRecDepth 1000000 in
theorem ax_q715 : ax_chk ax_g715 ax_c715 0 1000000 = true := by decide +kernel
def ax_g716 : ax_G := (0x0, 1, [], [(22, 0x8, [(3, [(4, 2147483648, 2147483654, 0)], [], 0x0, 0, 4, 1)])], [], 0, 1, [])
set_option maxRecDepth 1000000 in
theorem ax_q716 : ax_chk ax_g716 ax_c716 0 1000000 = true := by decide +kernel
def ax_g717 : ax_G := (0x0, 1, [(22, [ax_c716])], [(21, 0x8010, [(4, [(2, 0, 4294967295, 0), (3, 2147483648, 2147483656, 0), (4, 1, 0, 0)], [], 0x0, 0, 3, 1), (15, [(2, 0, 4294967295, 0), (4, 2147483649, 2147483656, 0)], [], 0x0, 0, 4, 1)])], [], 0, 1, [])
set_option maxRecDepth 1000000 in
theorem ax_q717 : ax_chk ax_g717 ax_c717 0 1000000 = true := by decide +kernel
def ax_g718 : ax_G := (0x0, 1, [], [], [], 0, 1, [])
set_option maxRecDepth 1000000 in
theorem ax_q718 : ax_chk ax_g718 ax_c718 1 1000000 = true := by decide +kernel
def ax_g719 : ax_G := (0x0, 1, [(20, [ax_c718, ax_c711]), (21, [ax_c717])], [(19, 0x10, [(4, [(1, 2147483647, 2147483747, 0), (2, 2147483649, 2147483747, 0), (3, 1, 0, 0)], [], 0x0, 0, 2, 1)])], [], 0, 1, [])
set_option maxRecDepth 1000000 in
theorem ax_q719 : ax_chk ax_g719 ax_c719 0 1000000 = true := by decide +kernel
def ax_g720 : ax_G := (0x0, 1, [], [(349, 0x40, [(6, [(4, 2147483648, 2147483649, 0), (5, 2147483648, 2147483654, 0)], [], 0x0, 0, 5, 1)])], [], 0, 1, [])
set_option maxRecDepth 1000000 in
theorem ax_q720 : ax_chk ax_g720 ax_c720 0 1000000 = true := by decide +kernel
def ax_g721 : ax_G := (0x0, 1, [(349, [ax_c720])], [(348, 0x8010, [(4, [(2, 0, 4294967295, 0), (3, 2147483648, 2147483656, 0), (4, 1, 0, 0)], [], 0x0, 0, 3, 1), (15, [(2, 0, 4294967295, 0), (4, 2147483649, 2147483656, 0)], [], 0x0, 0, 4, 1)])], [], 0, 1, [])
set_option maxRecDepth 1000000 in
theorem ax_q721 : ax_chk ax_g721 ax_c721 0 1000000 = true := by decide +kernel
def ax_g723 : ax_G := (0x0, 1, [(305, [ax_c173])], [], [], 0, 1, [])
set_option maxRecDepth 1000000 in
theorem ax_q723 : ax_chk ax_g723 ax_c723 0 1000000 = true := by decide +kernel
def ax_g724 : ax_G := (0x0, 1, [], [], [], 0, 1, [])
set_option maxRecDepth 1000000 in
theorem ax_q724 : ax_chk ax_g724 ax_c724 1 1000000 = true := by decide +kernel
