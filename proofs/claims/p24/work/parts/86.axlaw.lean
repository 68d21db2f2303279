/-! ax: the law, case by case, written by a program -/
def ax_all : Nat := 2 ^ 8192 - 1 - 2 ^ 5120
def ax_lI : ax_I := (23, 1, [5, 2, 1186, 1274, 4503599630516233, 7, 7], [], [(1, 148, 8, 1, 0, 0), (0, 148, 3, 15, 0, 0)], [], 0, 0, 0)
noncomputable def ax_case (g : ax_G) (d pc fuel : Nat) : Bool := Option.rec false (fun os => List.rec true (fun _ _ _ => false) os) (ax_mtK 0 (fun cd _ => ax_run g fuel d 0 cd [ax_lI] false pc [5, 2, 1186, 1274, 4503599627370505, 7, 7] [] [(1, 8, 4503599627370513), (148, 64, 4503599627370513), (0, 120, 4503599627370521), (148, 24, 4503599627370521)] [(1, 0, 34359738374)] [(2147483648, 2147483649, 0, 0, 0, 0), (2147483648, 2147484048, 0, 0, 0, 0), (2147483648, 2147486720, 0, 0, 0, 0), (2147483648, 2147486720, 0, 0, 0, 0)] 4 0))
def ax_gL1 : ax_G := (ax_all, 1, [], [], [], 4503599627370497, 2, [])
set_option maxRecDepth 1000000 in
theorem ax_qL1 : ax_case ax_gL1 2 373 1000000 = true := by decide +kernel
def ax_gL3 : ax_G := (ax_all, 1, [(117, [ax_c117]), (294, [ax_c157])], [], [], 4503599627370497, 2, [])
set_option maxRecDepth 1000000 in
theorem ax_qL3 : ax_case ax_gL3 33 414 1000000 = true := by decide +kernel
def ax_gL4 : ax_G := (ax_all, 1, [(17, [ax_c158]), (295, [ax_c159])], [], [], 4503599627370497, 2, [])
set_option maxRecDepth 1000000 in
theorem ax_qL4 : ax_case ax_gL4 1 430 1000000 = true := by decide +kernel
def ax_gL5 : ax_G := (ax_all, 1, [(121, [ax_c168]), (296, [ax_c187])], [], [], 4503599627370497, 2, [])
set_option maxRecDepth 1000000 in
theorem ax_qL5 : ax_case ax_gL5 35 443 1000000 = true := by decide +kernel
def ax_gL6 : ax_G := (ax_all, 1, [(137, [ax_c188]), (310, [ax_c189])], [], [], 4503599627370497, 2, [])
set_option maxRecDepth 1000000 in
theorem ax_qL6 : ax_case ax_gL6 3 483 1000000 = true := by decide +kernel
def ax_gL7 : ax_G := (ax_all, 1, [(141, [ax_c192]), (314, [ax_c194])], [], [], 4503599627370497, 2, [])
set_option maxRecDepth 1000000 in
theorem ax_qL7 : ax_case ax_gL7 35 523 1000000 = true := by decide +kernel
def ax_gL8 : ax_G := (ax_all, 1, [(146, [ax_c195]), (317, [ax_c196])], [], [], 4503599627370497, 2, [])
set_option maxRecDepth 1000000 in
theorem ax_qL8 : ax_case ax_gL8 3 575 1000000 = true := by decide +kernel
def ax_gL9 : ax_G := (ax_all, 1, [(149, [ax_c198]), (318, [ax_c201])], [], [], 4503599627370497, 2, [])
set_option maxRecDepth 1000000 in
theorem ax_qL9 : ax_case ax_gL9 4 615 1000000 = true := by decide +kernel
def ax_gL10 : ax_G := (ax_all, 1, [(154, [ax_c202]), (323, [ax_c203])], [], [], 4503599627370497, 2, [])
set_option maxRecDepth 1000000 in
theorem ax_qL10 : ax_case ax_gL10 4 643 1000000 = true := by decide +kernel
def ax_gL11 : ax_G := (ax_all, 1, [(159, [ax_c718]), (324, [ax_c723])], [], [], 4503599627370497, 2, [])
set_option maxRecDepth 1000000 in
theorem ax_qL11 : ax_case ax_gL11 37 671 1000000 = true := by decide +kernel
def ax_gL12 : ax_G := (ax_all, 1, [(167, [ax_c724]), (331, [ax_c725])], [], [], 4503599627370497, 2, [])
set_option maxRecDepth 1000000 in
theorem ax_qL12 : ax_case ax_gL12 35 699 1000000 = true := by decide +kernel
def ax_gL13 : ax_G := (ax_all, 1, [(169, [ax_c726]), (332, [ax_c727])], [], [], 4503599627370497, 2, [])
set_option maxRecDepth 1000000 in
theorem ax_qL13 : ax_case ax_gL13 4 727 1000000 = true := by decide +kernel
def ax_gL14 : ax_G := (ax_all, 1, [(171, [ax_c728]), (333, [ax_c729])], [], [], 4503599627370497, 2, [])
set_option maxRecDepth 1000000 in
theorem ax_qL14 : ax_case ax_gL14 4 755 1000000 = true := by decide +kernel
def ax_gL15 : ax_G := (ax_all, 1, [(174, [ax_c730]), (335, [ax_c731])], [], [], 4503599627370497, 2, [])
set_option maxRecDepth 1000000 in
theorem ax_qL15 : ax_case ax_gL15 4 795 1000000 = true := by decide +kernel
def ax_gL16 : ax_G := (ax_all, 1, [(176, [ax_c733]), (336, [ax_c735])], [], [], 4503599627370497, 2, [])
set_option maxRecDepth 1000000 in
theorem ax_qL16 : ax_case ax_gL16 38 835 1000000 = true := by decide +kernel
def ax_gL17 : ax_G := (ax_all, 1, [(179, [ax_c736]), (338, [ax_c737])], [], [], 4503599627370497, 2, [])
set_option maxRecDepth 1000000 in
theorem ax_qL17 : ax_case ax_gL17 5 863 1000000 = true := by decide +kernel
def ax_gL18 : ax_G := (ax_all, 1, [(181, [ax_c738]), (339, [ax_c739])], [], [], 4503599627370497, 2, [])
set_option maxRecDepth 1000000 in
theorem ax_qL18 : ax_case ax_gL18 5 903 1000000 = true := by decide +kernel
def ax_gL19 : ax_G := (ax_all, 1, [(183, [ax_c744]), (340, [ax_c747])], [], [], 4503599627370497, 2, [])
set_option maxRecDepth 1000000 in
theorem ax_qL19 : ax_case ax_gL19 7 943 1000000 = true := by decide +kernel
def ax_gL20 : ax_G := (ax_all, 1, [(192, [ax_c748]), (343, [ax_c749])], [], [], 4503599627370497, 2, [])
set_option maxRecDepth 1000000 in
theorem ax_qL20 : ax_case ax_gL20 7 987 1000000 = true := by decide +kernel
def ax_gL21 : ax_G := (ax_all, 1, [(195, [ax_c753]), (344, [ax_c757])], [], [], 4503599627370497, 2, [])
set_option maxRecDepth 1000000 in
theorem ax_qL21 : ax_case ax_gL21 7 1003 1000000 = true := by decide +kernel
def ax_gL23 : ax_G := (ax_all, 1, [(199, [ax_c767]), (350, [ax_c768])], [], [], 4503599627370497, 2, [])
set_option maxRecDepth 1000000 in
theorem ax_qL23 : ax_case ax_gL23 5 1032 1000000 = true := by decide +kernel
def ax_gL24 : ax_G := (ax_all, 1, [(201, [ax_c769]), (351, [ax_c770])], [], [], 4503599627370497, 2, [])
set_option maxRecDepth 1000000 in
theorem ax_qL24 : ax_case ax_gL24 35 1060 1000000 = true := by decide +kernel
def ax_gL25 : ax_G := (ax_all, 1, [(25, [ax_c771]), (352, [ax_c773])], [], [], 4503599627370497, 2, [])
set_option maxRecDepth 1000000 in
theorem ax_qL25 : ax_case ax_gL25 5 1088 1000000 = true := by decide +kernel
def ax_gL26 : ax_G := (ax_all, 1, [(29, [ax_c776]), (354, [ax_c778])], [], [], 4503599627370497, 2, [])
set_option maxRecDepth 1000000 in
theorem ax_qL26 : ax_case ax_gL26 5 1113 1000000 = true := by decide +kernel
def ax_gL27 : ax_G := (ax_all, 1, [(205, [ax_c780]), (356, [ax_c783])], [], [], 4503599627370497, 2, [])
set_option maxRecDepth 1000000 in
theorem ax_qL27 : ax_case ax_gL27 7 1126 1000000 = true := by decide +kernel
def ax_gL28 : ax_G := (ax_all, 1, [(207, [ax_c784]), (359, [ax_c787])], [], [], 4503599627370497, 2, [])
set_option maxRecDepth 1000000 in
theorem ax_qL28 : ax_case ax_gL28 6 1154 1000000 = true := by decide +kernel
def ax_gL29 : ax_G := (ax_all, 1, [(34, [ax_c789]), (361, [ax_c790])], [], [], 4503599627370497, 2, [])
set_option maxRecDepth 1000000 in
theorem ax_qL29 : ax_case ax_gL29 5 1182 1000000 = true := by decide +kernel
def ax_gL30 : ax_G := (ax_all, 1, [(39, [ax_c792]), (362, [ax_c794])], [], [], 4503599627370497, 2, [])
set_option maxRecDepth 1000000 in
theorem ax_qL30 : ax_case ax_gL30 7 1195 1000000 = true := by decide +kernel
def ax_gL31 : ax_G := (ax_all, 1, [(42, [ax_c795]), (364, [ax_c796])], [], [], 4503599627370497, 2, [])
set_option maxRecDepth 1000000 in
theorem ax_qL31 : ax_case ax_gL31 7 1208 1000000 = true := by decide +kernel
def ax_gL32 : ax_G := (ax_all, 1, [(45, [ax_c797]), (365, [ax_c798])], [], [], 4503599627370497, 2, [])
set_option maxRecDepth 1000000 in
theorem ax_qL32 : ax_case ax_gL32 5 1221 1000000 = true := by decide +kernel
def ax_gL33 : ax_G := (ax_all, 1, [(210, [ax_c800]), (366, [ax_c802])], [], [], 4503599627370497, 2, [])
set_option maxRecDepth 1000000 in
theorem ax_qL33 : ax_case ax_gL33 8 1246 1000000 = true := by decide +kernel
def ax_gL34 : ax_G := (ax_all, 1, [(46, [ax_c805]), (368, [ax_c807])], [], [], 4503599627370497, 2, [])
set_option maxRecDepth 1000000 in
theorem ax_qL34 : ax_case ax_gL34 8 1274 1000000 = true := by decide +kernel
def ax_gL35 : ax_G := (ax_all, 1, [(212, [ax_c812]), (370, [ax_c815])], [], [], 4503599627370497, 2, [])
set_option maxRecDepth 1000000 in
theorem ax_qL35 : ax_case ax_gL35 6 1287 1000000 = true := by decide +kernel
def ax_gL36 : ax_G := (ax_all, 1, [(223, [ax_c816]), (375, [ax_c818])], [], [], 4503599627370497, 2, [])
set_option maxRecDepth 1000000 in
theorem ax_qL36 : ax_case ax_gL36 5 1315 1000000 = true := by decide +kernel
def ax_gL37 : ax_G := (ax_all, 1, [(227, [ax_c819]), (378, [ax_c820])], [], [], 4503599627370497, 2, [])
set_option maxRecDepth 1000000 in
theorem ax_qL37 : ax_case ax_gL37 3 1331 1000000 = true := by decide +kernel
def ax_gL38 : ax_G := (ax_all, 1, [(47, [ax_c821]), (379, [ax_c822])], [], [], 4503599627370497, 2, [])
set_option maxRecDepth 1000000 in
theorem ax_qL38 : ax_case ax_gL38 3 1359 1000000 = true := by decide +kernel
def ax_gL39 : ax_G := (ax_all, 1, [(50, [ax_c823]), (380, [ax_c824])], [], [], 4503599627370497, 2, [])
set_option maxRecDepth 1000000 in
theorem ax_qL39 : ax_case ax_gL39 2 1372 1000000 = true := by decide +kernel
def ax_gL40 : ax_G := (ax_all, 1, [(230, [ax_c825]), (381, [ax_c826])], [], [], 4503599627370497, 2, [])
set_option maxRecDepth 1000000 in
theorem ax_qL40 : ax_case ax_gL40 5 1385 1000000 = true := by decide +kernel
def ax_gL41 : ax_G := (ax_all, 1, [(52, [ax_c827]), (382, [ax_c829])], [], [], 4503599627370497, 2, [])
set_option maxRecDepth 1000000 in
theorem ax_qL41 : ax_case ax_gL41 5 1413 1000000 = true := by decide +kernel
def ax_gL42 : ax_G := (ax_all, 1, [(54, [ax_c830]), (384, [ax_c831])], [], [], 4503599627370497, 2, [])
set_option maxRecDepth 1000000 in
theorem ax_qL42 : ax_case ax_gL42 5 1426 1000000 = true := by decide +kernel
def ax_gL43 : ax_G := (ax_all, 1, [(56, [ax_c832]), (385, [ax_c833])], [], [], 4503599627370497, 2, [])
set_option maxRecDepth 1000000 in
theorem ax_qL43 : ax_case ax_gL43 4 1439 1000000 = true := by decide +kernel
def ax_gL44 : ax_G := (ax_all, 1, [(57, [ax_c834]), (386, [ax_c835])], [], [], 4503599627370497, 2, [])
set_option maxRecDepth 1000000 in
theorem ax_qL44 : ax_case ax_gL44 5 1452 1000000 = true := by decide +kernel
def ax_gL45 : ax_G := (ax_all, 1, [(233, [ax_c838]), (389, [ax_c839])], [], [], 4503599627370497, 2, [])
set_option maxRecDepth 1000000 in
theorem ax_qL45 : ax_case ax_gL45 6 1465 1000000 = true := by decide +kernel
def ax_gL46 : ax_G := (ax_all, 1, [(238, [ax_c840]), (390, [ax_c842])], [], [], 4503599627370497, 2, [])
set_option maxRecDepth 1000000 in
theorem ax_qL46 : ax_case ax_gL46 36 1517 1000000 = true := by decide +kernel
def ax_gL47 : ax_G := (ax_all, 1, [(59, [ax_c843]), (388, [ax_c844])], [], [], 4503599627370497, 2, [])
set_option maxRecDepth 1000000 in
theorem ax_qL47 : ax_case ax_gL47 5 1545 1000000 = true := by decide +kernel
def ax_gL48 : ax_G := (ax_all, 1, [(242, [ax_c851]), (393, [ax_c852])], [], [], 4503599627370497, 2, [])
set_option maxRecDepth 1000000 in
theorem ax_qL48 : ax_case ax_gL48 38 1558 1000000 = true := by decide +kernel
def ax_gL49 : ax_G := (ax_all, 1, [(60, [ax_c853]), (394, [ax_c854])], [], [], 4503599627370497, 2, [])
set_option maxRecDepth 1000000 in
theorem ax_qL49 : ax_case ax_gL49 2 1586 1000000 = true := by decide +kernel
def ax_gL50 : ax_G := (ax_all, 1, [(244, [ax_c855]), (395, [ax_c856])], [], [], 4503599627370497, 2, [])
set_option maxRecDepth 1000000 in
theorem ax_qL50 : ax_case ax_gL50 35 1599 1000000 = true := by decide +kernel
def ax_gL51 : ax_G := (ax_all, 1, [(246, [ax_c858]), (396, [ax_c859])], [], [], 4503599627370497, 2, [])
set_option maxRecDepth 1000000 in
theorem ax_qL51 : ax_case ax_gL51 38 1627 1000000 = true := by decide +kernel
def ax_gL52 : ax_G := (ax_all, 1, [(248, [ax_c860]), (398, [ax_c863])], [], [], 4503599627370497, 2, [])
set_option maxRecDepth 1000000 in
theorem ax_qL52 : ax_case ax_gL52 38 1667 1000000 = true := by decide +kernel
def ax_gL53 : ax_G := (ax_all, 1, [(252, [ax_c864]), (401, [ax_c866])], [], [], 4503599627370497, 2, [])
set_option maxRecDepth 1000000 in
theorem ax_qL53 : ax_case ax_gL53 38 1723 1000000 = true := by decide +kernel
def ax_gL54 : ax_G := (ax_all, 1, [(255, [ax_c867]), (403, [ax_c868])], [], [], 4503599627370497, 2, [])
set_option maxRecDepth 1000000 in
theorem ax_qL54 : ax_case ax_gL54 4 1779 1000000 = true := by decide +kernel
def ax_gL55 : ax_G := (ax_all, 1, [(260, [ax_c869]), (405, [ax_c870])], [], [], 4503599627370497, 2, [])
set_option maxRecDepth 1000000 in
theorem ax_qL55 : ax_case ax_gL55 3 1835 1000000 = true := by decide +kernel
def ax_gL56 : ax_G := (ax_all, 1, [(61, [ax_c871]), (406, [ax_c872])], [], [], 4503599627370497, 2, [])
set_option maxRecDepth 1000000 in
theorem ax_qL56 : ax_case ax_gL56 1 1875 1000000 = true := by decide +kernel
def ax_gL57 : ax_G := (ax_all, 1, [(62, [ax_c873]), (407, [ax_c874])], [], [], 4503599627370497, 2, [])
set_option maxRecDepth 1000000 in
theorem ax_qL57 : ax_case ax_gL57 2 1900 1000000 = true := by decide +kernel
def ax_gL60 : ax_G := (ax_all, 1, [(68, [ax_c879]), (410, [ax_c880])], [], [], 4503599627370497, 2, [])
set_option maxRecDepth 1000000 in
theorem ax_qL60 : ax_case ax_gL60 4 1937 1000000 = true := by decide +kernel
def ax_gL61 : ax_G := (ax_all, 1, [], [], [], 4503599627370497, 2, [])
set_option maxRecDepth 1000000 in
theorem ax_qL61 : ax_case ax_gL61 0 1962 1000000 = true := by decide +kernel
