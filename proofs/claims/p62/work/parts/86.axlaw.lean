/-! ax: the law, case by case, written by a program -/
def ax_all : Nat := 2 ^ 8192 - 1 - 187749072224295762487282918043534149672470009810028327446062532949270681368263448156264983145200663884619493081843424850553458510424937353747698511092651944999383530635650627168388024112296818670064233670545534759067796275364875594403085934611959934748173732166968622651096830994914001503841858916073244783210567434468715027665342442385036324113167518184722191455502218070447553379234170180461217948121444337817460918516387922453057319874971208529446141871086725766355110682271873914896071126753478203400133638145757484230639564058937480061358385378978886950247322225251438850904026179256460006317078952899293388222179653832359520344425482532289361909315042990502474557731273692949341569707200130375576528537794428703943891415110998505816202134284652965523400015668645098153947306455216698470898776062583548440831145848149891146409030845586402112884622158686735419876500963594582471417737698989671343404909014432892148933249405493388137760185150084434416658113216945777746572054728403570735023321196483939203955956794695837514273256495341428683728644171269369471562486543729964879584813897241036753731093567098517192586069878437787891363819775355090103054912465843757405927311968621687925536487156606256256337915961031017331144598931658761387048706412068920579423064101332506635890189783595515638697250861236564112648299111023602105423963470503545011766309729248800617984215110986015158922774334408787456501388917546396738132451981020718330589224131375116156872097280811656637776882355997699023454904495491989510684862816406506877065525166080
def ax_lI : ax_I := (23, 1, [5, 2, 1186, 1274, 4503599630516233, 7, 7], [], [(1, 148, 8, 1, 0, 0), (0, 148, 3, 15, 0, 0)], [], 0, 0, 0)
noncomputable def ax_case (g : ax_G) (d pc fuel : Nat) : Bool := Option.rec false (fun os => List.rec true (fun _ _ _ => false) os) (ax_mtK 0 (fun cd _ => ax_run g fuel d 0 cd [ax_lI] false pc [5, 2, 1186, 1274, 4503599627370505, 7, 7] [] [(1, 8, 4503599627370513), (148, 64, 4503599627370513), (0, 120, 4503599627370521), (148, 24, 4503599627370521)] [(1, 0, 34359738374)] [(2147483648, 2147483649, 0, 0, 0, 0), (2147483648, 2147484048, 0, 0, 0, 0), (2147483648, 2147486720, 0, 0, 0, 0), (2147483648, 2147486720, 0, 0, 0, 0)] 4 0))
def ax_gL1 : ax_G := (ax_all, 1, [], [], [], 4503599627370497, 2, [])
set_option maxRecDepth 1000000 in
theorem ax_qL1 : ax_case ax_gL1 2 373 1000000 = true := by decide +kernel
def ax_gL4 : ax_G := (ax_all, 1, [(17, [ax_c158]), (295, [ax_c159])], [], [], 4503599627370497, 2, [])
set_option maxRecDepth 1000000 in
theorem ax_qL4 : ax_case ax_gL4 1 430 1000000 = true := by decide +kernel
def ax_gL5 : ax_G := (ax_all, 1, [(121, [ax_c168]), (296, [ax_c187])], [], [], 4503599627370497, 2, [])
set_option maxRecDepth 1000000 in
theorem ax_qL5 : ax_case ax_gL5 35 443 1000000 = true := by decide +kernel
def ax_gL6 : ax_G := (ax_all, 1, [(137, [ax_c188]), (310, [ax_c189])], [], [], 4503599627370497, 2, [])
set_option maxRecDepth 1000000 in
theorem ax_qL6 : ax_case ax_gL6 3 483 1000000 = true := by decide +kernel
def ax_gL7 : ax_G := (ax_all, 1, [(141, [ax_c192]), (314, [ax_c194])], [], [], 4503599627370497, 2, [])
set_option maxRecDepth 1000000 in
theorem ax_qL7 : ax_case ax_gL7 35 523 1000000 = true := by decide +kernel
def ax_gL8 : ax_G := (ax_all, 1, [(146, [ax_c195]), (317, [ax_c196])], [], [], 4503599627370497, 2, [])
set_option maxRecDepth 1000000 in
theorem ax_qL8 : ax_case ax_gL8 3 575 1000000 = true := by decide +kernel
def ax_gL17 : ax_G := (ax_all, 1, [(179, [ax_c736]), (338, [ax_c737])], [], [], 4503599627370497, 2, [])
set_option maxRecDepth 1000000 in
theorem ax_qL17 : ax_case ax_gL17 5 863 1000000 = true := by decide +kernel
def ax_gL18 : ax_G := (ax_all, 1, [(181, [ax_c738]), (339, [ax_c739])], [], [], 4503599627370497, 2, [])
set_option maxRecDepth 1000000 in
theorem ax_qL18 : ax_case ax_gL18 5 903 1000000 = true := by decide +kernel
def ax_gL19 : ax_G := (ax_all, 1, [(183, [ax_c744]), (340, [ax_c747])], [], [], 4503599627370497, 2, [])
set_option maxRecDepth 1000000 in
theorem ax_qL19 : ax_case ax_gL19 7 943 1000000 = true := by decide +kernel
def ax_gL20 : ax_G := (ax_all, 1, [(192, [ax_c748]), (343, [ax_c749])], [], [], 4503599627370497, 2, [])
set_option maxRecDepth 1000000 in
theorem ax_qL20 : ax_case ax_gL20 7 987 1000000 = true := by decide +kernel
def ax_gL21 : ax_G := (ax_all, 1, [(195, [ax_c753]), (344, [ax_c757])], [], [], 4503599627370497, 2, [])
set_option maxRecDepth 1000000 in
theorem ax_qL21 : ax_case ax_gL21 7 1003 1000000 = true := by decide +kernel
def ax_gL22 : ax_G := (ax_all, 1, [(18, [ax_c762]), (347, [ax_c766])], [], [], 4503599627370497, 2, [])
set_option maxRecDepth 1000000 in
theorem ax_qL22 : ax_case ax_gL22 5 1019 1000000 = true := by decide +kernel
def ax_gL23 : ax_G := (ax_all, 1, [(199, [ax_c767]), (350, [ax_c768])], [], [], 4503599627370497, 2, [])
set_option maxRecDepth 1000000 in
theorem ax_qL23 : ax_case ax_gL23 5 1032 1000000 = true := by decide +kernel
def ax_gL24 : ax_G := (ax_all, 1, [(201, [ax_c769]), (351, [ax_c770])], [], [], 4503599627370497, 2, [])
set_option maxRecDepth 1000000 in
theorem ax_qL24 : ax_case ax_gL24 35 1060 1000000 = true := by decide +kernel
def ax_gL25 : ax_G := (ax_all, 1, [(25, [ax_c771]), (352, [ax_c773])], [], [], 4503599627370497, 2, [])
set_option maxRecDepth 1000000 in
theorem ax_qL25 : ax_case ax_gL25 5 1088 1000000 = true := by decide +kernel
def ax_gL26 : ax_G := (ax_all, 1, [(29, [ax_c776]), (354, [ax_c778])], [], [], 4503599627370497, 2, [])
set_option maxRecDepth 1000000 in
theorem ax_qL26 : ax_case ax_gL26 5 1113 1000000 = true := by decide +kernel
def ax_gL27 : ax_G := (ax_all, 1, [(205, [ax_c780]), (356, [ax_c783])], [], [], 4503599627370497, 2, [])
set_option maxRecDepth 1000000 in
theorem ax_qL27 : ax_case ax_gL27 7 1126 1000000 = true := by decide +kernel
def ax_gL28 : ax_G := (ax_all, 1, [(207, [ax_c784]), (359, [ax_c787])], [], [], 4503599627370497, 2, [])
set_option maxRecDepth 1000000 in
theorem ax_qL28 : ax_case ax_gL28 6 1154 1000000 = true := by decide +kernel
def ax_gL29 : ax_G := (ax_all, 1, [(34, [ax_c789]), (361, [ax_c790])], [], [], 4503599627370497, 2, [])
set_option maxRecDepth 1000000 in
theorem ax_qL29 : ax_case ax_gL29 5 1182 1000000 = true := by decide +kernel
def ax_gL30 : ax_G := (ax_all, 1, [(39, [ax_c792]), (362, [ax_c794])], [], [], 4503599627370497, 2, [])
set_option maxRecDepth 1000000 in
theorem ax_qL30 : ax_case ax_gL30 7 1195 1000000 = true := by decide +kernel
def ax_gL31 : ax_G := (ax_all, 1, [(42, [ax_c795]), (364, [ax_c796])], [], [], 4503599627370497, 2, [])
set_option maxRecDepth 1000000 in
theorem ax_qL31 : ax_case ax_gL31 7 1208 1000000 = true := by decide +kernel
def ax_gL32 : ax_G := (ax_all, 1, [(45, [ax_c797]), (365, [ax_c798])], [], [], 4503599627370497, 2, [])
set_option maxRecDepth 1000000 in
theorem ax_qL32 : ax_case ax_gL32 5 1221 1000000 = true := by decide +kernel
def ax_gL33 : ax_G := (ax_all, 1, [(210, [ax_c800]), (366, [ax_c802])], [], [], 4503599627370497, 2, [])
set_option maxRecDepth 1000000 in
theorem ax_qL33 : ax_case ax_gL33 8 1246 1000000 = true := by decide +kernel
def ax_gL34 : ax_G := (ax_all, 1, [(46, [ax_c805]), (368, [ax_c807])], [], [], 4503599627370497, 2, [])
set_option maxRecDepth 1000000 in
theorem ax_qL34 : ax_case ax_gL34 8 1274 1000000 = true := by decide +kernel
def ax_gL35 : ax_G := (ax_all, 1, [(212, [ax_c812]), (370, [ax_c815])], [], [], 4503599627370497, 2, [])
set_option maxRecDepth 1000000 in
theorem ax_qL35 : ax_case ax_gL35 6 1287 1000000 = true := by decide +kernel
def ax_gL36 : ax_G := (ax_all, 1, [(223, [ax_c816]), (375, [ax_c818])], [], [], 4503599627370497, 2, [])
set_option maxRecDepth 1000000 in
theorem ax_qL36 : ax_case ax_gL36 5 1315 1000000 = true := by decide +kernel
def ax_gL37 : ax_G := (ax_all, 1, [(227, [ax_c819]), (378, [ax_c820])], [], [], 4503599627370497, 2, [])
set_option maxRecDepth 1000000 in
theorem ax_qL37 : ax_case ax_gL37 3 1331 1000000 = true := by decide +kernel
def ax_gL38 : ax_G := (ax_all, 1, [(47, [ax_c821]), (379, [ax_c822])], [], [], 4503599627370497, 2, [])
set_option maxRecDepth 1000000 in
theorem ax_qL38 : ax_case ax_gL38 3 1359 1000000 = true := by decide +kernel
def ax_gL39 : ax_G := (ax_all, 1, [(50, [ax_c823]), (380, [ax_c824])], [], [], 4503599627370497, 2, [])
set_option maxRecDepth 1000000 in
theorem ax_qL39 : ax_case ax_gL39 2 1372 1000000 = true := by decide +kernel
def ax_gL40 : ax_G := (ax_all, 1, [(230, [ax_c825]), (381, [ax_c826])], [], [], 4503599627370497, 2, [])
set_option maxRecDepth 1000000 in
theorem ax_qL40 : ax_case ax_gL40 5 1385 1000000 = true := by decide +kernel
def ax_gL41 : ax_G := (ax_all, 1, [(52, [ax_c827]), (382, [ax_c829])], [], [], 4503599627370497, 2, [])
set_option maxRecDepth 1000000 in
theorem ax_qL41 : ax_case ax_gL41 5 1413 1000000 = true := by decide +kernel
def ax_gL42 : ax_G := (ax_all, 1, [(54, [ax_c830]), (384, [ax_c831])], [], [], 4503599627370497, 2, [])
set_option maxRecDepth 1000000 in
theorem ax_qL42 : ax_case ax_gL42 5 1426 1000000 = true := by decide +kernel
def ax_gL43 : ax_G := (ax_all, 1, [(56, [ax_c832]), (385, [ax_c833])], [], [], 4503599627370497, 2, [])
set_option maxRecDepth 1000000 in
theorem ax_qL43 : ax_case ax_gL43 4 1439 1000000 = true := by decide +kernel
def ax_gL44 : ax_G := (ax_all, 1, [(57, [ax_c834]), (386, [ax_c835])], [], [], 4503599627370497, 2, [])
set_option maxRecDepth 1000000 in
theorem ax_qL44 : ax_case ax_gL44 5 1452 1000000 = true := by decide +kernel
def ax_gL45 : ax_G := (ax_all, 1, [(233, [ax_c838]), (389, [ax_c839])], [], [], 4503599627370497, 2, [])
set_option maxRecDepth 1000000 in
theorem ax_qL45 : ax_case ax_gL45 6 1465 1000000 = true := by decide +kernel
def ax_gL46 : ax_G := (ax_all, 1, [(238, [ax_c840]), (390, [ax_c842])], [], [], 4503599627370497, 2, [])
set_option maxRecDepth 1000000 in
theorem ax_qL46 : ax_case ax_gL46 36 1517 1000000 = true := by decide +kernel
def ax_gL47 : ax_G := (ax_all, 1, [(59, [ax_c843]), (388, [ax_c844])], [], [], 4503599627370497, 2, [])
set_option maxRecDepth 1000000 in
theorem ax_qL47 : ax_case ax_gL47 5 1545 1000000 = true := by decide +kernel
def ax_gL48 : ax_G := (ax_all, 1, [(242, [ax_c851]), (393, [ax_c852])], [], [], 4503599627370497, 2, [])
set_option maxRecDepth 1000000 in
theorem ax_qL48 : ax_case ax_gL48 38 1558 1000000 = true := by decide +kernel
def ax_gL49 : ax_G := (ax_all, 1, [(60, [ax_c853]), (394, [ax_c854])], [], [], 4503599627370497, 2, [])
set_option maxRecDepth 1000000 in
theorem ax_qL49 : ax_case ax_gL49 2 1586 1000000 = true := by decide +kernel
def ax_gL50 : ax_G := (ax_all, 1, [(244, [ax_c855]), (395, [ax_c856])], [], [], 4503599627370497, 2, [])
set_option maxRecDepth 1000000 in
theorem ax_qL50 : ax_case ax_gL50 35 1599 1000000 = true := by decide +kernel
def ax_gL51 : ax_G := (ax_all, 1, [(246, [ax_c858]), (396, [ax_c859])], [], [], 4503599627370497, 2, [])
set_option maxRecDepth 1000000 in
theorem ax_qL51 : ax_case ax_gL51 38 1627 1000000 = true := by decide +kernel
def ax_gL52 : ax_G := (ax_all, 1, [(248, [ax_c860]), (398, [ax_c863])], [], [], 4503599627370497, 2, [])
set_option maxRecDepth 1000000 in
theorem ax_qL52 : ax_case ax_gL52 38 1667 1000000 = true := by decide +kernel
def ax_gL53 : ax_G := (ax_all, 1, [(252, [ax_c864]), (401, [ax_c866])], [], [], 4503599627370497, 2, [])
set_option maxRecDepth 1000000 in
theorem ax_qL53 : ax_case ax_gL53 38 1723 1000000 = true := by decide +kernel
def ax_gL54 : ax_G := (ax_all, 1, [(255, [ax_c867]), (403, [ax_c868])], [], [], 4503599627370497, 2, [])
set_option maxRecDepth 1000000 in
theorem ax_qL54 : ax_case ax_gL54 4 1779 1000000 = true := by decide +kernel
def ax_gL55 : ax_G := (ax_all, 1, [(260, [ax_c869]), (405, [ax_c870])], [], [], 4503599627370497, 2, [])
set_option maxRecDepth 1000000 in
theorem ax_qL55 : ax_case ax_gL55 3 1835 1000000 = true := by decide +kernel
def ax_gL61 : ax_G := (ax_all, 1, [], [], [], 4503599627370497, 2, [])
set_option maxRecDepth 1000000 in
theorem ax_qL61 : ax_case ax_gL61 0 1962 1000000 = true := by decide +kernel
