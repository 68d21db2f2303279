/-! joined: 83.cfya 83.cfyb 83.cfyc 83.cfyd 83.cfye 83.cfyf 83.cfyg 83.cfyh 83.cfyi 83.cfyj 83.cfyk 83.cfyl 83.cfym 83.cfyn -/
section
/-! fx: the class's house() -/
def cpH (g : Nat → Nat → Int) (a b : Nat) : Nat → Nat → Int := fu (fu (fu (fu (fu (fu (fcy (fcy (fcy (fcy g (a + 1) (b + 1)) (a + 2) (b + 2)) (a + 3) (b + 3)) (a + 4) (b + 4)) b 4 (g a 4)) b 5 (g a 5)) b 6 (g a 6)) b 7 (g a 7)) b 8 (g a 8)) b 9 (g a 9)
def cpT (g : Nat → Nat → Int) (a b : Nat) : Nat → Nat → Int := fu (fu (fu (fu (fu (fu (fcy (fcy (fcy (fcy (fcy g (a + 1) (b + 1)) (a + 2) (b + 2)) (a + 3) (b + 3)) (a + 4) (b + 4)) (a + 5) (b + 5)) b 5 (g a 5)) b 6 (g a 6)) b 7 (g a 7)) b 8 (g a 8)) b 9 (g a 9)) b 10 (g a 10)
theorem cpH_ne {g : Nat → Nat → Int} {a b c j : Nat} (h : c < b ∨ b + 4 < c) : cpH g a b c j = g c j := by
  unfold cpH
  rw [fu_nc (by omega), fu_nc (by omega), fu_nc (by omega), fu_nc (by omega), fu_nc (by omega), fu_nc (by omega), fcy_app, if_neg (by omega), fcy_app, if_neg (by omega), fcy_app, if_neg (by omega), fcy_app, if_neg (by omega)]
theorem cpT_ne {g : Nat → Nat → Int} {a b c j : Nat} (h : c < b ∨ b + 5 < c) : cpT g a b c j = g c j := by
  unfold cpT
  rw [fu_nc (by omega), fu_nc (by omega), fu_nc (by omega), fu_nc (by omega), fu_nc (by omega), fu_nc (by omega), fcy_app, if_neg (by omega), fcy_app, if_neg (by omega), fcy_app, if_neg (by omega), fcy_app, if_neg (by omega), fcy_app, if_neg (by omega)]
theorem cpH_f {g : Nat → Nat → Int} {a b j : Nat} (h4 : 4 ≤ j) (h9 : j ≤ 9) : cpH g a b b j = g a j := by
  unfold cpH
  rcases (by omega : j = 4 ∨ j = 5 ∨ j = 6 ∨ j = 7 ∨ j = 8 ∨ j = 9) with rfl | rfl | rfl | rfl | rfl | rfl
  all_goals simp only [fu_app, Nat.reduceEqDiff, and_true, and_false, if_true, if_false, ite_true, ite_false, reduceIte]
theorem cpH_a {g : Nat → Nat → Int} {a b i j : Nat} (h1 : 1 ≤ i) (h4 : i ≤ 4) (hd : a + 4 < b ∨ b + 4 < a) : cpH g a b (b + i) j = g (a + i) j := by
  unfold cpH
  rw [fu_nc (by omega), fu_nc (by omega), fu_nc (by omega), fu_nc (by omega), fu_nc (by omega), fu_nc (by omega)]
  rcases (by omega : i = 1 ∨ i = 2 ∨ i = 3 ∨ i = 4) with rfl | rfl | rfl | rfl
  · rw [fcy_app, if_neg (by omega), fcy_app, if_neg (by omega), fcy_app, if_neg (by omega), fcy_app, if_pos rfl]
  · rw [fcy_app, if_neg (by omega), fcy_app, if_neg (by omega), fcy_app, if_pos rfl, fcy_app, if_neg (by omega)]
  · rw [fcy_app, if_neg (by omega), fcy_app, if_pos rfl, fcy_app, if_neg (by omega), fcy_app, if_neg (by omega)]
  · rw [fcy_app, if_pos rfl, fcy_app, if_neg (by omega), fcy_app, if_neg (by omega), fcy_app, if_neg (by omega)]
section FYA
variable {W : ax_W} {r : Nat} {g : Nat → Nat → Int} {Q : Nat → Nat → (Nat → Nat → Int) → Prop} {T : Int → Int} {E : Int}
theorem sp_cpH_house_draft (kq : Q 0 0 (cpH g 3 29)) : fx W r 0 65 0 [234, 26] [] g Q := by
  refine fx_rg (fun hg => ?_)
  have v4 := hg 3 4 (by decide) (by decide +kernel) (by decide +kernel)
  have v5 := hg 3 5 (by decide) (by decide +kernel) (by decide +kernel)
  have v6 := hg 3 6 (by decide) (by decide +kernel) (by decide +kernel)
  have v7 := hg 3 7 (by decide) (by decide +kernel) (by decide +kernel)
  have v8 := hg 3 8 (by decide) (by decide +kernel) (by decide +kernel)
  have v9 := hg 3 9 (by decide) (by decide +kernel) (by decide +kernel)
  unfold fR at v4 v5 v6 v7 v8 v9
  refine fx_la 1 1 (v := 26) (by decide +kernel) rfl (by decide +kernel) ?_
  refine fx_gp 26 3 0 34 4 (by decide +kernel) ?_
  refine fx_ci (0) 5 (by decide +kernel) ?_
  refine fx_la 0 6 (v := 234) (by decide +kernel) rfl (by decide +kernel) ?_
  refine fx_gp 234 29 0 242 9 (by decide +kernel) ?_
  refine fx_ci (0) 10 (by decide +kernel) ?_
  refine fx_ci (8) 12 (by decide +kernel) ?_
  refine fx_cpy 34 4 242 30 8 15 (by decide +kernel) rfl ?_
  refine fx_la 1 16 (v := 26) (by decide +kernel) rfl (by decide +kernel) ?_
  refine fx_gp 26 3 1 42 19 (by decide +kernel) ?_
  refine fx_ci (0) 20 (by decide +kernel) ?_
  refine fx_la 0 21 (v := 234) (by decide +kernel) rfl (by decide +kernel) ?_
  refine fx_gp 234 29 1 250 24 (by decide +kernel) ?_
  refine fx_ci (0) 25 (by decide +kernel) ?_
  refine fx_ci (8) 27 (by decide +kernel) ?_
  refine fx_cpy 42 5 250 31 8 30 (by decide +kernel) rfl ?_
  refine fx_la 1 31 (v := 26) (by decide +kernel) rfl (by decide +kernel) ?_
  refine fx_gp 26 3 2 50 34 (by decide +kernel) ?_
  refine fx_ci (0) 35 (by decide +kernel) ?_
  refine fx_la 0 36 (v := 234) (by decide +kernel) rfl (by decide +kernel) ?_
  refine fx_gp 234 29 2 258 39 (by decide +kernel) ?_
  refine fx_ci (0) 40 (by decide +kernel) ?_
  refine fx_ci (48) 42 (by decide +kernel) ?_
  refine fx_cpy 50 6 258 32 48 45 (by decide +kernel) rfl ?_
  refine fx_la 1 46 (v := 26) (by decide +kernel) rfl (by decide +kernel) ?_
  refine fx_gp 26 3 3 58 49 (by decide +kernel) ?_
  refine fx_ci (0) 50 (by decide +kernel) ?_
  refine fx_la 0 51 (v := 234) (by decide +kernel) rfl (by decide +kernel) ?_
  refine fx_gp 234 29 3 266 54 (by decide +kernel) ?_
  refine fx_ci (0) 55 (by decide +kernel) ?_
  refine fx_ci (8) 57 (by decide +kernel) ?_
  refine fx_cpy 58 7 266 33 8 60 (by decide +kernel) rfl ?_
  refine fx_la 0 61 (v := 234) (by decide +kernel) rfl (by decide +kernel) ?_
  refine fx_la 1 62 (v := 26) (by decide +kernel) rfl (by decide +kernel) ?_
  refine fx_gi 26 3 4 65 (by decide +kernel) ?_
  try simp only [fu_app, fcy_app, Nat.reduceEqDiff, and_true, and_false, false_and, true_and, if_true, if_false, ite_true, ite_false, reduceIte, Int.reduceToNat, fx_simp0]
  refine fx_pi 234 29 4 68 (by decide +kernel) (by unfold fR; omega) ?_
  refine fx_la 0 69 (v := 234) (by decide +kernel) rfl (by decide +kernel) ?_
  refine fx_la 1 70 (v := 26) (by decide +kernel) rfl (by decide +kernel) ?_
  refine fx_gi 26 3 5 73 (by decide +kernel) ?_
  try simp only [fu_app, fcy_app, Nat.reduceEqDiff, and_true, and_false, false_and, true_and, if_true, if_false, ite_true, ite_false, reduceIte, Int.reduceToNat, fx_simp0]
  refine fx_pi 234 29 5 76 (by decide +kernel) (by unfold fR; omega) ?_
  refine fx_la 0 77 (v := 234) (by decide +kernel) rfl (by decide +kernel) ?_
  refine fx_la 1 78 (v := 26) (by decide +kernel) rfl (by decide +kernel) ?_
  refine fx_gi 26 3 6 81 (by decide +kernel) ?_
  try simp only [fu_app, fcy_app, Nat.reduceEqDiff, and_true, and_false, false_and, true_and, if_true, if_false, ite_true, ite_false, reduceIte, Int.reduceToNat, fx_simp0]
  refine fx_pi 234 29 6 84 (by decide +kernel) (by unfold fR; omega) ?_
  refine fx_la 0 85 (v := 234) (by decide +kernel) rfl (by decide +kernel) ?_
  refine fx_la 1 86 (v := 26) (by decide +kernel) rfl (by decide +kernel) ?_
  refine fx_gi 26 3 7 89 (by decide +kernel) ?_
  try simp only [fu_app, fcy_app, Nat.reduceEqDiff, and_true, and_false, false_and, true_and, if_true, if_false, ite_true, ite_false, reduceIte, Int.reduceToNat, fx_simp0]
  refine fx_pi 234 29 7 92 (by decide +kernel) (by unfold fR; omega) ?_
  refine fx_la 0 93 (v := 234) (by decide +kernel) rfl (by decide +kernel) ?_
  refine fx_la 1 94 (v := 26) (by decide +kernel) rfl (by decide +kernel) ?_
  refine fx_gi 26 3 8 97 (by decide +kernel) ?_
  try simp only [fu_app, fcy_app, Nat.reduceEqDiff, and_true, and_false, false_and, true_and, if_true, if_false, ite_true, ite_false, reduceIte, Int.reduceToNat, fx_simp0]
  refine fx_pi 234 29 8 100 (by decide +kernel) (by unfold fR; omega) ?_
  refine fx_la 0 101 (v := 234) (by decide +kernel) rfl (by decide +kernel) ?_
  refine fx_la 1 102 (v := 26) (by decide +kernel) rfl (by decide +kernel) ?_
  refine fx_gi 26 3 9 105 (by decide +kernel) ?_
  try simp only [fu_app, fcy_app, Nat.reduceEqDiff, and_true, and_false, false_and, true_and, if_true, if_false, ite_true, ite_false, reduceIte, Int.reduceToNat, fx_simp0]
  refine fx_pi 234 29 9 108 (by decide +kernel) (by unfold fR; omega) ?_
  refine fx_vret (by decide +kernel) ?_
  exact kq
theorem sp_cpH_draft_house (kq : Q 0 0 (cpH g 29 3)) : fx W r 0 65 0 [26, 234] [] g Q := by
  refine fx_rg (fun hg => ?_)
  have v4 := hg 29 4 (by decide) (by decide +kernel) (by decide +kernel)
  have v5 := hg 29 5 (by decide) (by decide +kernel) (by decide +kernel)
  have v6 := hg 29 6 (by decide) (by decide +kernel) (by decide +kernel)
  have v7 := hg 29 7 (by decide) (by decide +kernel) (by decide +kernel)
  have v8 := hg 29 8 (by decide) (by decide +kernel) (by decide +kernel)
  have v9 := hg 29 9 (by decide) (by decide +kernel) (by decide +kernel)
  unfold fR at v4 v5 v6 v7 v8 v9
  refine fx_la 1 1 (v := 234) (by decide +kernel) rfl (by decide +kernel) ?_
  refine fx_gp 234 29 0 242 4 (by decide +kernel) ?_
  refine fx_ci (0) 5 (by decide +kernel) ?_
  refine fx_la 0 6 (v := 26) (by decide +kernel) rfl (by decide +kernel) ?_
  refine fx_gp 26 3 0 34 9 (by decide +kernel) ?_
  refine fx_ci (0) 10 (by decide +kernel) ?_
  refine fx_ci (8) 12 (by decide +kernel) ?_
  refine fx_cpy 242 30 34 4 8 15 (by decide +kernel) rfl ?_
  refine fx_la 1 16 (v := 234) (by decide +kernel) rfl (by decide +kernel) ?_
  refine fx_gp 234 29 1 250 19 (by decide +kernel) ?_
  refine fx_ci (0) 20 (by decide +kernel) ?_
  refine fx_la 0 21 (v := 26) (by decide +kernel) rfl (by decide +kernel) ?_
  refine fx_gp 26 3 1 42 24 (by decide +kernel) ?_
  refine fx_ci (0) 25 (by decide +kernel) ?_
  refine fx_ci (8) 27 (by decide +kernel) ?_
  refine fx_cpy 250 31 42 5 8 30 (by decide +kernel) rfl ?_
  refine fx_la 1 31 (v := 234) (by decide +kernel) rfl (by decide +kernel) ?_
  refine fx_gp 234 29 2 258 34 (by decide +kernel) ?_
  refine fx_ci (0) 35 (by decide +kernel) ?_
  refine fx_la 0 36 (v := 26) (by decide +kernel) rfl (by decide +kernel) ?_
  refine fx_gp 26 3 2 50 39 (by decide +kernel) ?_
  refine fx_ci (0) 40 (by decide +kernel) ?_
  refine fx_ci (48) 42 (by decide +kernel) ?_
  refine fx_cpy 258 32 50 6 48 45 (by decide +kernel) rfl ?_
  refine fx_la 1 46 (v := 234) (by decide +kernel) rfl (by decide +kernel) ?_
  refine fx_gp 234 29 3 266 49 (by decide +kernel) ?_
  refine fx_ci (0) 50 (by decide +kernel) ?_
  refine fx_la 0 51 (v := 26) (by decide +kernel) rfl (by decide +kernel) ?_
  refine fx_gp 26 3 3 58 54 (by decide +kernel) ?_
  refine fx_ci (0) 55 (by decide +kernel) ?_
  refine fx_ci (8) 57 (by decide +kernel) ?_
  refine fx_cpy 266 33 58 7 8 60 (by decide +kernel) rfl ?_
  refine fx_la 0 61 (v := 26) (by decide +kernel) rfl (by decide +kernel) ?_
  refine fx_la 1 62 (v := 234) (by decide +kernel) rfl (by decide +kernel) ?_
  refine fx_gi 234 29 4 65 (by decide +kernel) ?_
  try simp only [fu_app, fcy_app, Nat.reduceEqDiff, and_true, and_false, false_and, true_and, if_true, if_false, ite_true, ite_false, reduceIte, Int.reduceToNat, fx_simp0]
  refine fx_pi 26 3 4 68 (by decide +kernel) (by unfold fR; omega) ?_
  refine fx_la 0 69 (v := 26) (by decide +kernel) rfl (by decide +kernel) ?_
  refine fx_la 1 70 (v := 234) (by decide +kernel) rfl (by decide +kernel) ?_
  refine fx_gi 234 29 5 73 (by decide +kernel) ?_
  try simp only [fu_app, fcy_app, Nat.reduceEqDiff, and_true, and_false, false_and, true_and, if_true, if_false, ite_true, ite_false, reduceIte, Int.reduceToNat, fx_simp0]
  refine fx_pi 26 3 5 76 (by decide +kernel) (by unfold fR; omega) ?_
  refine fx_la 0 77 (v := 26) (by decide +kernel) rfl (by decide +kernel) ?_
  refine fx_la 1 78 (v := 234) (by decide +kernel) rfl (by decide +kernel) ?_
  refine fx_gi 234 29 6 81 (by decide +kernel) ?_
  try simp only [fu_app, fcy_app, Nat.reduceEqDiff, and_true, and_false, false_and, true_and, if_true, if_false, ite_true, ite_false, reduceIte, Int.reduceToNat, fx_simp0]
  refine fx_pi 26 3 6 84 (by decide +kernel) (by unfold fR; omega) ?_
  refine fx_la 0 85 (v := 26) (by decide +kernel) rfl (by decide +kernel) ?_
  refine fx_la 1 86 (v := 234) (by decide +kernel) rfl (by decide +kernel) ?_
  refine fx_gi 234 29 7 89 (by decide +kernel) ?_
  try simp only [fu_app, fcy_app, Nat.reduceEqDiff, and_true, and_false, false_and, true_and, if_true, if_false, ite_true, ite_false, reduceIte, Int.reduceToNat, fx_simp0]
  refine fx_pi 26 3 7 92 (by decide +kernel) (by unfold fR; omega) ?_
  refine fx_la 0 93 (v := 26) (by decide +kernel) rfl (by decide +kernel) ?_
  refine fx_la 1 94 (v := 234) (by decide +kernel) rfl (by decide +kernel) ?_
  refine fx_gi 234 29 8 97 (by decide +kernel) ?_
  try simp only [fu_app, fcy_app, Nat.reduceEqDiff, and_true, and_false, false_and, true_and, if_true, if_false, ite_true, ite_false, reduceIte, Int.reduceToNat, fx_simp0]
  refine fx_pi 26 3 8 100 (by decide +kernel) (by unfold fR; omega) ?_
  refine fx_la 0 101 (v := 26) (by decide +kernel) rfl (by decide +kernel) ?_
  refine fx_la 1 102 (v := 234) (by decide +kernel) rfl (by decide +kernel) ?_
  refine fx_gi 234 29 9 105 (by decide +kernel) ?_
  try simp only [fu_app, fcy_app, Nat.reduceEqDiff, and_true, and_false, false_and, true_and, if_true, if_false, ite_true, ite_false, reduceIte, Int.reduceToNat, fx_simp0]
  refine fx_pi 26 3 9 108 (by decide +kernel) (by unfold fR; omega) ?_
  refine fx_vret (by decide +kernel) ?_
  exact kq
theorem sp_cpH_house_image (kq : Q 0 0 (cpH g 3 56)) : fx W r 0 65 0 [450, 26] [] g Q := by
  refine fx_rg (fun hg => ?_)
  have v4 := hg 3 4 (by decide) (by decide +kernel) (by decide +kernel)
  have v5 := hg 3 5 (by decide) (by decide +kernel) (by decide +kernel)
  have v6 := hg 3 6 (by decide) (by decide +kernel) (by decide +kernel)
  have v7 := hg 3 7 (by decide) (by decide +kernel) (by decide +kernel)
  have v8 := hg 3 8 (by decide) (by decide +kernel) (by decide +kernel)
  have v9 := hg 3 9 (by decide) (by decide +kernel) (by decide +kernel)
  unfold fR at v4 v5 v6 v7 v8 v9
  refine fx_la 1 1 (v := 26) (by decide +kernel) rfl (by decide +kernel) ?_
  refine fx_gp 26 3 0 34 4 (by decide +kernel) ?_
  refine fx_ci (0) 5 (by decide +kernel) ?_
  refine fx_la 0 6 (v := 450) (by decide +kernel) rfl (by decide +kernel) ?_
  refine fx_gp 450 56 0 458 9 (by decide +kernel) ?_
  refine fx_ci (0) 10 (by decide +kernel) ?_
  refine fx_ci (8) 12 (by decide +kernel) ?_
  refine fx_cpy 34 4 458 57 8 15 (by decide +kernel) rfl ?_
  refine fx_la 1 16 (v := 26) (by decide +kernel) rfl (by decide +kernel) ?_
  refine fx_gp 26 3 1 42 19 (by decide +kernel) ?_
  refine fx_ci (0) 20 (by decide +kernel) ?_
  refine fx_la 0 21 (v := 450) (by decide +kernel) rfl (by decide +kernel) ?_
  refine fx_gp 450 56 1 466 24 (by decide +kernel) ?_
  refine fx_ci (0) 25 (by decide +kernel) ?_
  refine fx_ci (8) 27 (by decide +kernel) ?_
  refine fx_cpy 42 5 466 58 8 30 (by decide +kernel) rfl ?_
  refine fx_la 1 31 (v := 26) (by decide +kernel) rfl (by decide +kernel) ?_
  refine fx_gp 26 3 2 50 34 (by decide +kernel) ?_
  refine fx_ci (0) 35 (by decide +kernel) ?_
  refine fx_la 0 36 (v := 450) (by decide +kernel) rfl (by decide +kernel) ?_
  refine fx_gp 450 56 2 474 39 (by decide +kernel) ?_
  refine fx_ci (0) 40 (by decide +kernel) ?_
  refine fx_ci (48) 42 (by decide +kernel) ?_
  refine fx_cpy 50 6 474 59 48 45 (by decide +kernel) rfl ?_
  refine fx_la 1 46 (v := 26) (by decide +kernel) rfl (by decide +kernel) ?_
  refine fx_gp 26 3 3 58 49 (by decide +kernel) ?_
  refine fx_ci (0) 50 (by decide +kernel) ?_
  refine fx_la 0 51 (v := 450) (by decide +kernel) rfl (by decide +kernel) ?_
  refine fx_gp 450 56 3 482 54 (by decide +kernel) ?_
  refine fx_ci (0) 55 (by decide +kernel) ?_
  refine fx_ci (8) 57 (by decide +kernel) ?_
  refine fx_cpy 58 7 482 60 8 60 (by decide +kernel) rfl ?_
  refine fx_la 0 61 (v := 450) (by decide +kernel) rfl (by decide +kernel) ?_
  refine fx_la 1 62 (v := 26) (by decide +kernel) rfl (by decide +kernel) ?_
  refine fx_gi 26 3 4 65 (by decide +kernel) ?_
  try simp only [fu_app, fcy_app, Nat.reduceEqDiff, and_true, and_false, false_and, true_and, if_true, if_false, ite_true, ite_false, reduceIte, Int.reduceToNat, fx_simp0]
  refine fx_pi 450 56 4 68 (by decide +kernel) (by unfold fR; omega) ?_
  refine fx_la 0 69 (v := 450) (by decide +kernel) rfl (by decide +kernel) ?_
  refine fx_la 1 70 (v := 26) (by decide +kernel) rfl (by decide +kernel) ?_
  refine fx_gi 26 3 5 73 (by decide +kernel) ?_
  try simp only [fu_app, fcy_app, Nat.reduceEqDiff, and_true, and_false, false_and, true_and, if_true, if_false, ite_true, ite_false, reduceIte, Int.reduceToNat, fx_simp0]
  refine fx_pi 450 56 5 76 (by decide +kernel) (by unfold fR; omega) ?_
  refine fx_la 0 77 (v := 450) (by decide +kernel) rfl (by decide +kernel) ?_
  refine fx_la 1 78 (v := 26) (by decide +kernel) rfl (by decide +kernel) ?_
  refine fx_gi 26 3 6 81 (by decide +kernel) ?_
  try simp only [fu_app, fcy_app, Nat.reduceEqDiff, and_true, and_false, false_and, true_and, if_true, if_false, ite_true, ite_false, reduceIte, Int.reduceToNat, fx_simp0]
  refine fx_pi 450 56 6 84 (by decide +kernel) (by unfold fR; omega) ?_
  refine fx_la 0 85 (v := 450) (by decide +kernel) rfl (by decide +kernel) ?_
  refine fx_la 1 86 (v := 26) (by decide +kernel) rfl (by decide +kernel) ?_
  refine fx_gi 26 3 7 89 (by decide +kernel) ?_
  try simp only [fu_app, fcy_app, Nat.reduceEqDiff, and_true, and_false, false_and, true_and, if_true, if_false, ite_true, ite_false, reduceIte, Int.reduceToNat, fx_simp0]
  refine fx_pi 450 56 7 92 (by decide +kernel) (by unfold fR; omega) ?_
  refine fx_la 0 93 (v := 450) (by decide +kernel) rfl (by decide +kernel) ?_
  refine fx_la 1 94 (v := 26) (by decide +kernel) rfl (by decide +kernel) ?_
  refine fx_gi 26 3 8 97 (by decide +kernel) ?_
  try simp only [fu_app, fcy_app, Nat.reduceEqDiff, and_true, and_false, false_and, true_and, if_true, if_false, ite_true, ite_false, reduceIte, Int.reduceToNat, fx_simp0]
  refine fx_pi 450 56 8 100 (by decide +kernel) (by unfold fR; omega) ?_
  refine fx_la 0 101 (v := 450) (by decide +kernel) rfl (by decide +kernel) ?_
  refine fx_la 1 102 (v := 26) (by decide +kernel) rfl (by decide +kernel) ?_
  refine fx_gi 26 3 9 105 (by decide +kernel) ?_
  try simp only [fu_app, fcy_app, Nat.reduceEqDiff, and_true, and_false, false_and, true_and, if_true, if_false, ite_true, ite_false, reduceIte, Int.reduceToNat, fx_simp0]
  refine fx_pi 450 56 9 108 (by decide +kernel) (by unfold fR; omega) ?_
  refine fx_vret (by decide +kernel) ?_
  exact kq
theorem sp_cpH_image_house (kq : Q 0 0 (cpH g 56 3)) : fx W r 0 65 0 [26, 450] [] g Q := by
  refine fx_rg (fun hg => ?_)
  have v4 := hg 56 4 (by decide) (by decide +kernel) (by decide +kernel)
  have v5 := hg 56 5 (by decide) (by decide +kernel) (by decide +kernel)
  have v6 := hg 56 6 (by decide) (by decide +kernel) (by decide +kernel)
  have v7 := hg 56 7 (by decide) (by decide +kernel) (by decide +kernel)
  have v8 := hg 56 8 (by decide) (by decide +kernel) (by decide +kernel)
  have v9 := hg 56 9 (by decide) (by decide +kernel) (by decide +kernel)
  unfold fR at v4 v5 v6 v7 v8 v9
  refine fx_la 1 1 (v := 450) (by decide +kernel) rfl (by decide +kernel) ?_
  refine fx_gp 450 56 0 458 4 (by decide +kernel) ?_
  refine fx_ci (0) 5 (by decide +kernel) ?_
  refine fx_la 0 6 (v := 26) (by decide +kernel) rfl (by decide +kernel) ?_
  refine fx_gp 26 3 0 34 9 (by decide +kernel) ?_
  refine fx_ci (0) 10 (by decide +kernel) ?_
  refine fx_ci (8) 12 (by decide +kernel) ?_
  refine fx_cpy 458 57 34 4 8 15 (by decide +kernel) rfl ?_
  refine fx_la 1 16 (v := 450) (by decide +kernel) rfl (by decide +kernel) ?_
  refine fx_gp 450 56 1 466 19 (by decide +kernel) ?_
  refine fx_ci (0) 20 (by decide +kernel) ?_
  refine fx_la 0 21 (v := 26) (by decide +kernel) rfl (by decide +kernel) ?_
  refine fx_gp 26 3 1 42 24 (by decide +kernel) ?_
  refine fx_ci (0) 25 (by decide +kernel) ?_
  refine fx_ci (8) 27 (by decide +kernel) ?_
  refine fx_cpy 466 58 42 5 8 30 (by decide +kernel) rfl ?_
  refine fx_la 1 31 (v := 450) (by decide +kernel) rfl (by decide +kernel) ?_
  refine fx_gp 450 56 2 474 34 (by decide +kernel) ?_
  refine fx_ci (0) 35 (by decide +kernel) ?_
  refine fx_la 0 36 (v := 26) (by decide +kernel) rfl (by decide +kernel) ?_
  refine fx_gp 26 3 2 50 39 (by decide +kernel) ?_
  refine fx_ci (0) 40 (by decide +kernel) ?_
  refine fx_ci (48) 42 (by decide +kernel) ?_
  refine fx_cpy 474 59 50 6 48 45 (by decide +kernel) rfl ?_
  refine fx_la 1 46 (v := 450) (by decide +kernel) rfl (by decide +kernel) ?_
  refine fx_gp 450 56 3 482 49 (by decide +kernel) ?_
  refine fx_ci (0) 50 (by decide +kernel) ?_
  refine fx_la 0 51 (v := 26) (by decide +kernel) rfl (by decide +kernel) ?_
  refine fx_gp 26 3 3 58 54 (by decide +kernel) ?_
  refine fx_ci (0) 55 (by decide +kernel) ?_
  refine fx_ci (8) 57 (by decide +kernel) ?_
  refine fx_cpy 482 60 58 7 8 60 (by decide +kernel) rfl ?_
  refine fx_la 0 61 (v := 26) (by decide +kernel) rfl (by decide +kernel) ?_
  refine fx_la 1 62 (v := 450) (by decide +kernel) rfl (by decide +kernel) ?_
  refine fx_gi 450 56 4 65 (by decide +kernel) ?_
  try simp only [fu_app, fcy_app, Nat.reduceEqDiff, and_true, and_false, false_and, true_and, if_true, if_false, ite_true, ite_false, reduceIte, Int.reduceToNat, fx_simp0]
  refine fx_pi 26 3 4 68 (by decide +kernel) (by unfold fR; omega) ?_
  refine fx_la 0 69 (v := 26) (by decide +kernel) rfl (by decide +kernel) ?_
  refine fx_la 1 70 (v := 450) (by decide +kernel) rfl (by decide +kernel) ?_
  refine fx_gi 450 56 5 73 (by decide +kernel) ?_
  try simp only [fu_app, fcy_app, Nat.reduceEqDiff, and_true, and_false, false_and, true_and, if_true, if_false, ite_true, ite_false, reduceIte, Int.reduceToNat, fx_simp0]
  refine fx_pi 26 3 5 76 (by decide +kernel) (by unfold fR; omega) ?_
  refine fx_la 0 77 (v := 26) (by decide +kernel) rfl (by decide +kernel) ?_
  refine fx_la 1 78 (v := 450) (by decide +kernel) rfl (by decide +kernel) ?_
  refine fx_gi 450 56 6 81 (by decide +kernel) ?_
  try simp only [fu_app, fcy_app, Nat.reduceEqDiff, and_true, and_false, false_and, true_and, if_true, if_false, ite_true, ite_false, reduceIte, Int.reduceToNat, fx_simp0]
  refine fx_pi 26 3 6 84 (by decide +kernel) (by unfold fR; omega) ?_
  refine fx_la 0 85 (v := 26) (by decide +kernel) rfl (by decide +kernel) ?_
  refine fx_la 1 86 (v := 450) (by decide +kernel) rfl (by decide +kernel) ?_
  refine fx_gi 450 56 7 89 (by decide +kernel) ?_
  try simp only [fu_app, fcy_app, Nat.reduceEqDiff, and_true, and_false, false_and, true_and, if_true, if_false, ite_true, ite_false, reduceIte, Int.reduceToNat, fx_simp0]
  refine fx_pi 26 3 7 92 (by decide +kernel) (by unfold fR; omega) ?_
  refine fx_la 0 93 (v := 26) (by decide +kernel) rfl (by decide +kernel) ?_
  refine fx_la 1 94 (v := 450) (by decide +kernel) rfl (by decide +kernel) ?_
  refine fx_gi 450 56 8 97 (by decide +kernel) ?_
  try simp only [fu_app, fcy_app, Nat.reduceEqDiff, and_true, and_false, false_and, true_and, if_true, if_false, ite_true, ite_false, reduceIte, Int.reduceToNat, fx_simp0]
  refine fx_pi 26 3 8 100 (by decide +kernel) (by unfold fR; omega) ?_
  refine fx_la 0 101 (v := 26) (by decide +kernel) rfl (by decide +kernel) ?_
  refine fx_la 1 102 (v := 450) (by decide +kernel) rfl (by decide +kernel) ?_
  refine fx_gi 450 56 9 105 (by decide +kernel) ?_
  try simp only [fu_app, fcy_app, Nat.reduceEqDiff, and_true, and_false, false_and, true_and, if_true, if_false, ite_true, ite_false, reduceIte, Int.reduceToNat, fx_simp0]
  refine fx_pi 26 3 9 108 (by decide +kernel) (by unfold fR; omega) ?_
  refine fx_vret (by decide +kernel) ?_
  exact kq
theorem sp_cpT_table_scratch (kq : Q 0 0 (cpT g 16 22)) : fx W r 0 63 0 [178, 130] [] g Q := by
  refine fx_rg (fun hg => ?_)
  have v5 := hg 16 5 (by decide) (by decide +kernel) (by decide +kernel)
  have v6 := hg 16 6 (by decide) (by decide +kernel) (by decide +kernel)
  have v7 := hg 16 7 (by decide) (by decide +kernel) (by decide +kernel)
  have v8 := hg 16 8 (by decide) (by decide +kernel) (by decide +kernel)
  have v9 := hg 16 9 (by decide) (by decide +kernel) (by decide +kernel)
  have v10 := hg 16 10 (by decide) (by decide +kernel) (by decide +kernel)
  unfold fR at v5 v6 v7 v8 v9 v10
  refine fx_la 1 1 (v := 130) (by decide +kernel) rfl (by decide +kernel) ?_
  refine fx_gp 130 16 0 138 4 (by decide +kernel) ?_
  refine fx_ci (0) 5 (by decide +kernel) ?_
  refine fx_la 0 6 (v := 178) (by decide +kernel) rfl (by decide +kernel) ?_
  refine fx_gp 178 22 0 186 9 (by decide +kernel) ?_
  refine fx_ci (0) 10 (by decide +kernel) ?_
  refine fx_ci (8) 12 (by decide +kernel) ?_
  refine fx_cpy 138 17 186 23 8 15 (by decide +kernel) rfl ?_
  refine fx_la 1 16 (v := 130) (by decide +kernel) rfl (by decide +kernel) ?_
  refine fx_gp 130 16 1 146 19 (by decide +kernel) ?_
  refine fx_ci (0) 20 (by decide +kernel) ?_
  refine fx_la 0 21 (v := 178) (by decide +kernel) rfl (by decide +kernel) ?_
  refine fx_gp 178 22 1 194 24 (by decide +kernel) ?_
  refine fx_ci (0) 25 (by decide +kernel) ?_
  refine fx_ci (8) 27 (by decide +kernel) ?_
  refine fx_cpy 146 18 194 24 8 30 (by decide +kernel) rfl ?_
  refine fx_la 1 31 (v := 130) (by decide +kernel) rfl (by decide +kernel) ?_
  refine fx_gp 130 16 2 154 34 (by decide +kernel) ?_
  refine fx_ci (0) 35 (by decide +kernel) ?_
  refine fx_la 0 36 (v := 178) (by decide +kernel) rfl (by decide +kernel) ?_
  refine fx_gp 178 22 2 202 39 (by decide +kernel) ?_
  refine fx_ci (0) 40 (by decide +kernel) ?_
  refine fx_ci (8) 42 (by decide +kernel) ?_
  refine fx_cpy 154 19 202 25 8 45 (by decide +kernel) rfl ?_
  refine fx_la 1 46 (v := 130) (by decide +kernel) rfl (by decide +kernel) ?_
  refine fx_gp 130 16 3 162 49 (by decide +kernel) ?_
  refine fx_ci (0) 50 (by decide +kernel) ?_
  refine fx_la 0 51 (v := 178) (by decide +kernel) rfl (by decide +kernel) ?_
  refine fx_gp 178 22 3 210 54 (by decide +kernel) ?_
  refine fx_ci (0) 55 (by decide +kernel) ?_
  refine fx_ci (8) 57 (by decide +kernel) ?_
  refine fx_cpy 162 20 210 26 8 60 (by decide +kernel) rfl ?_
  refine fx_la 1 61 (v := 130) (by decide +kernel) rfl (by decide +kernel) ?_
  refine fx_gp 130 16 4 170 64 (by decide +kernel) ?_
  refine fx_ci (0) 65 (by decide +kernel) ?_
  refine fx_la 0 66 (v := 178) (by decide +kernel) rfl (by decide +kernel) ?_
  refine fx_gp 178 22 4 218 69 (by decide +kernel) ?_
  refine fx_ci (0) 70 (by decide +kernel) ?_
  refine fx_ci (60) 72 (by decide +kernel) ?_
  refine fx_cpy 170 21 218 27 60 75 (by decide +kernel) rfl ?_
  refine fx_la 0 76 (v := 178) (by decide +kernel) rfl (by decide +kernel) ?_
  refine fx_la 1 77 (v := 130) (by decide +kernel) rfl (by decide +kernel) ?_
  refine fx_gi 130 16 5 80 (by decide +kernel) ?_
  try simp only [fu_app, fcy_app, Nat.reduceEqDiff, and_true, and_false, false_and, true_and, if_true, if_false, ite_true, ite_false, reduceIte, Int.reduceToNat, fx_simp0]
  refine fx_pi 178 22 5 83 (by decide +kernel) (by unfold fR; omega) ?_
  refine fx_la 0 84 (v := 178) (by decide +kernel) rfl (by decide +kernel) ?_
  refine fx_la 1 85 (v := 130) (by decide +kernel) rfl (by decide +kernel) ?_
  refine fx_gi 130 16 6 88 (by decide +kernel) ?_
  try simp only [fu_app, fcy_app, Nat.reduceEqDiff, and_true, and_false, false_and, true_and, if_true, if_false, ite_true, ite_false, reduceIte, Int.reduceToNat, fx_simp0]
  refine fx_pi 178 22 6 91 (by decide +kernel) (by unfold fR; omega) ?_
  refine fx_la 0 92 (v := 178) (by decide +kernel) rfl (by decide +kernel) ?_
  refine fx_la 1 93 (v := 130) (by decide +kernel) rfl (by decide +kernel) ?_
  refine fx_gi 130 16 7 96 (by decide +kernel) ?_
  try simp only [fu_app, fcy_app, Nat.reduceEqDiff, and_true, and_false, false_and, true_and, if_true, if_false, ite_true, ite_false, reduceIte, Int.reduceToNat, fx_simp0]
  refine fx_pi 178 22 7 99 (by decide +kernel) (by unfold fR; omega) ?_
  refine fx_la 0 100 (v := 178) (by decide +kernel) rfl (by decide +kernel) ?_
  refine fx_la 1 101 (v := 130) (by decide +kernel) rfl (by decide +kernel) ?_
  refine fx_gi 130 16 8 104 (by decide +kernel) ?_
  try simp only [fu_app, fcy_app, Nat.reduceEqDiff, and_true, and_false, false_and, true_and, if_true, if_false, ite_true, ite_false, reduceIte, Int.reduceToNat, fx_simp0]
  refine fx_pi 178 22 8 107 (by decide +kernel) (by unfold fR; omega) ?_
  refine fx_la 0 108 (v := 178) (by decide +kernel) rfl (by decide +kernel) ?_
  refine fx_la 1 109 (v := 130) (by decide +kernel) rfl (by decide +kernel) ?_
  refine fx_gi 130 16 9 112 (by decide +kernel) ?_
  try simp only [fu_app, fcy_app, Nat.reduceEqDiff, and_true, and_false, false_and, true_and, if_true, if_false, ite_true, ite_false, reduceIte, Int.reduceToNat, fx_simp0]
  refine fx_pi 178 22 9 115 (by decide +kernel) (by unfold fR; omega) ?_
  refine fx_la 0 116 (v := 178) (by decide +kernel) rfl (by decide +kernel) ?_
  refine fx_la 1 117 (v := 130) (by decide +kernel) rfl (by decide +kernel) ?_
  refine fx_gi 130 16 10 120 (by decide +kernel) ?_
  try simp only [fu_app, fcy_app, Nat.reduceEqDiff, and_true, and_false, false_and, true_and, if_true, if_false, ite_true, ite_false, reduceIte, Int.reduceToNat, fx_simp0]
  refine fx_pi 178 22 10 123 (by decide +kernel) (by unfold fR; omega) ?_
  refine fx_vret (by decide +kernel) ?_
  exact kq
theorem sp_cpT_scratch_table (kq : Q 0 0 (cpT g 22 16)) : fx W r 0 63 0 [130, 178] [] g Q := by
  refine fx_rg (fun hg => ?_)
  have v5 := hg 22 5 (by decide) (by decide +kernel) (by decide +kernel)
  have v6 := hg 22 6 (by decide) (by decide +kernel) (by decide +kernel)
  have v7 := hg 22 7 (by decide) (by decide +kernel) (by decide +kernel)
  have v8 := hg 22 8 (by decide) (by decide +kernel) (by decide +kernel)
  have v9 := hg 22 9 (by decide) (by decide +kernel) (by decide +kernel)
  have v10 := hg 22 10 (by decide) (by decide +kernel) (by decide +kernel)
  unfold fR at v5 v6 v7 v8 v9 v10
  refine fx_la 1 1 (v := 178) (by decide +kernel) rfl (by decide +kernel) ?_
  refine fx_gp 178 22 0 186 4 (by decide +kernel) ?_
  refine fx_ci (0) 5 (by decide +kernel) ?_
  refine fx_la 0 6 (v := 130) (by decide +kernel) rfl (by decide +kernel) ?_
  refine fx_gp 130 16 0 138 9 (by decide +kernel) ?_
  refine fx_ci (0) 10 (by decide +kernel) ?_
  refine fx_ci (8) 12 (by decide +kernel) ?_
  refine fx_cpy 186 23 138 17 8 15 (by decide +kernel) rfl ?_
  refine fx_la 1 16 (v := 178) (by decide +kernel) rfl (by decide +kernel) ?_
  refine fx_gp 178 22 1 194 19 (by decide +kernel) ?_
  refine fx_ci (0) 20 (by decide +kernel) ?_
  refine fx_la 0 21 (v := 130) (by decide +kernel) rfl (by decide +kernel) ?_
  refine fx_gp 130 16 1 146 24 (by decide +kernel) ?_
  refine fx_ci (0) 25 (by decide +kernel) ?_
  refine fx_ci (8) 27 (by decide +kernel) ?_
  refine fx_cpy 194 24 146 18 8 30 (by decide +kernel) rfl ?_
  refine fx_la 1 31 (v := 178) (by decide +kernel) rfl (by decide +kernel) ?_
  refine fx_gp 178 22 2 202 34 (by decide +kernel) ?_
  refine fx_ci (0) 35 (by decide +kernel) ?_
  refine fx_la 0 36 (v := 130) (by decide +kernel) rfl (by decide +kernel) ?_
  refine fx_gp 130 16 2 154 39 (by decide +kernel) ?_
  refine fx_ci (0) 40 (by decide +kernel) ?_
  refine fx_ci (8) 42 (by decide +kernel) ?_
  refine fx_cpy 202 25 154 19 8 45 (by decide +kernel) rfl ?_
  refine fx_la 1 46 (v := 178) (by decide +kernel) rfl (by decide +kernel) ?_
  refine fx_gp 178 22 3 210 49 (by decide +kernel) ?_
  refine fx_ci (0) 50 (by decide +kernel) ?_
  refine fx_la 0 51 (v := 130) (by decide +kernel) rfl (by decide +kernel) ?_
  refine fx_gp 130 16 3 162 54 (by decide +kernel) ?_
  refine fx_ci (0) 55 (by decide +kernel) ?_
  refine fx_ci (8) 57 (by decide +kernel) ?_
  refine fx_cpy 210 26 162 20 8 60 (by decide +kernel) rfl ?_
  refine fx_la 1 61 (v := 178) (by decide +kernel) rfl (by decide +kernel) ?_
  refine fx_gp 178 22 4 218 64 (by decide +kernel) ?_
  refine fx_ci (0) 65 (by decide +kernel) ?_
  refine fx_la 0 66 (v := 130) (by decide +kernel) rfl (by decide +kernel) ?_
  refine fx_gp 130 16 4 170 69 (by decide +kernel) ?_
  refine fx_ci (0) 70 (by decide +kernel) ?_
  refine fx_ci (60) 72 (by decide +kernel) ?_
  refine fx_cpy 218 27 170 21 60 75 (by decide +kernel) rfl ?_
  refine fx_la 0 76 (v := 130) (by decide +kernel) rfl (by decide +kernel) ?_
  refine fx_la 1 77 (v := 178) (by decide +kernel) rfl (by decide +kernel) ?_
  refine fx_gi 178 22 5 80 (by decide +kernel) ?_
  try simp only [fu_app, fcy_app, Nat.reduceEqDiff, and_true, and_false, false_and, true_and, if_true, if_false, ite_true, ite_false, reduceIte, Int.reduceToNat, fx_simp0]
  refine fx_pi 130 16 5 83 (by decide +kernel) (by unfold fR; omega) ?_
  refine fx_la 0 84 (v := 130) (by decide +kernel) rfl (by decide +kernel) ?_
  refine fx_la 1 85 (v := 178) (by decide +kernel) rfl (by decide +kernel) ?_
  refine fx_gi 178 22 6 88 (by decide +kernel) ?_
  try simp only [fu_app, fcy_app, Nat.reduceEqDiff, and_true, and_false, false_and, true_and, if_true, if_false, ite_true, ite_false, reduceIte, Int.reduceToNat, fx_simp0]
  refine fx_pi 130 16 6 91 (by decide +kernel) (by unfold fR; omega) ?_
  refine fx_la 0 92 (v := 130) (by decide +kernel) rfl (by decide +kernel) ?_
  refine fx_la 1 93 (v := 178) (by decide +kernel) rfl (by decide +kernel) ?_
  refine fx_gi 178 22 7 96 (by decide +kernel) ?_
  try simp only [fu_app, fcy_app, Nat.reduceEqDiff, and_true, and_false, false_and, true_and, if_true, if_false, ite_true, ite_false, reduceIte, Int.reduceToNat, fx_simp0]
  refine fx_pi 130 16 7 99 (by decide +kernel) (by unfold fR; omega) ?_
  refine fx_la 0 100 (v := 130) (by decide +kernel) rfl (by decide +kernel) ?_
  refine fx_la 1 101 (v := 178) (by decide +kernel) rfl (by decide +kernel) ?_
  refine fx_gi 178 22 8 104 (by decide +kernel) ?_
  try simp only [fu_app, fcy_app, Nat.reduceEqDiff, and_true, and_false, false_and, true_and, if_true, if_false, ite_true, ite_false, reduceIte, Int.reduceToNat, fx_simp0]
  refine fx_pi 130 16 8 107 (by decide +kernel) (by unfold fR; omega) ?_
  refine fx_la 0 108 (v := 130) (by decide +kernel) rfl (by decide +kernel) ?_
  refine fx_la 1 109 (v := 178) (by decide +kernel) rfl (by decide +kernel) ?_
  refine fx_gi 178 22 9 112 (by decide +kernel) ?_
  try simp only [fu_app, fcy_app, Nat.reduceEqDiff, and_true, and_false, false_and, true_and, if_true, if_false, ite_true, ite_false, reduceIte, Int.reduceToNat, fx_simp0]
  refine fx_pi 130 16 9 115 (by decide +kernel) (by unfold fR; omega) ?_
  refine fx_la 0 116 (v := 130) (by decide +kernel) rfl (by decide +kernel) ?_
  refine fx_la 1 117 (v := 178) (by decide +kernel) rfl (by decide +kernel) ?_
  refine fx_gi 178 22 10 120 (by decide +kernel) ?_
  try simp only [fu_app, fcy_app, Nat.reduceEqDiff, and_true, and_false, false_and, true_and, if_true, if_false, ite_true, ite_false, reduceIte, Int.reduceToNat, fx_simp0]
  refine fx_pi 130 16 10 123 (by decide +kernel) (by unfold fR; omega) ?_
  refine fx_vret (by decide +kernel) ?_
  exact kq
theorem sp_cpT_table_image (kq : Q 0 0 (cpT g 16 69)) : fx W r 0 63 0 [554, 130] [] g Q := by
  refine fx_rg (fun hg => ?_)
  have v5 := hg 16 5 (by decide) (by decide +kernel) (by decide +kernel)
  have v6 := hg 16 6 (by decide) (by decide +kernel) (by decide +kernel)
  have v7 := hg 16 7 (by decide) (by decide +kernel) (by decide +kernel)
  have v8 := hg 16 8 (by decide) (by decide +kernel) (by decide +kernel)
  have v9 := hg 16 9 (by decide) (by decide +kernel) (by decide +kernel)
  have v10 := hg 16 10 (by decide) (by decide +kernel) (by decide +kernel)
  unfold fR at v5 v6 v7 v8 v9 v10
  refine fx_la 1 1 (v := 130) (by decide +kernel) rfl (by decide +kernel) ?_
  refine fx_gp 130 16 0 138 4 (by decide +kernel) ?_
  refine fx_ci (0) 5 (by decide +kernel) ?_
  refine fx_la 0 6 (v := 554) (by decide +kernel) rfl (by decide +kernel) ?_
  refine fx_gp 554 69 0 562 9 (by decide +kernel) ?_
  refine fx_ci (0) 10 (by decide +kernel) ?_
  refine fx_ci (8) 12 (by decide +kernel) ?_
  refine fx_cpy 138 17 562 70 8 15 (by decide +kernel) rfl ?_
  refine fx_la 1 16 (v := 130) (by decide +kernel) rfl (by decide +kernel) ?_
  refine fx_gp 130 16 1 146 19 (by decide +kernel) ?_
  refine fx_ci (0) 20 (by decide +kernel) ?_
  refine fx_la 0 21 (v := 554) (by decide +kernel) rfl (by decide +kernel) ?_
  refine fx_gp 554 69 1 570 24 (by decide +kernel) ?_
  refine fx_ci (0) 25 (by decide +kernel) ?_
  refine fx_ci (8) 27 (by decide +kernel) ?_
  refine fx_cpy 146 18 570 71 8 30 (by decide +kernel) rfl ?_
  refine fx_la 1 31 (v := 130) (by decide +kernel) rfl (by decide +kernel) ?_
  refine fx_gp 130 16 2 154 34 (by decide +kernel) ?_
  refine fx_ci (0) 35 (by decide +kernel) ?_
  refine fx_la 0 36 (v := 554) (by decide +kernel) rfl (by decide +kernel) ?_
  refine fx_gp 554 69 2 578 39 (by decide +kernel) ?_
  refine fx_ci (0) 40 (by decide +kernel) ?_
  refine fx_ci (8) 42 (by decide +kernel) ?_
  refine fx_cpy 154 19 578 72 8 45 (by decide +kernel) rfl ?_
  refine fx_la 1 46 (v := 130) (by decide +kernel) rfl (by decide +kernel) ?_
  refine fx_gp 130 16 3 162 49 (by decide +kernel) ?_
  refine fx_ci (0) 50 (by decide +kernel) ?_
  refine fx_la 0 51 (v := 554) (by decide +kernel) rfl (by decide +kernel) ?_
  refine fx_gp 554 69 3 586 54 (by decide +kernel) ?_
  refine fx_ci (0) 55 (by decide +kernel) ?_
  refine fx_ci (8) 57 (by decide +kernel) ?_
  refine fx_cpy 162 20 586 73 8 60 (by decide +kernel) rfl ?_
  refine fx_la 1 61 (v := 130) (by decide +kernel) rfl (by decide +kernel) ?_
  refine fx_gp 130 16 4 170 64 (by decide +kernel) ?_
  refine fx_ci (0) 65 (by decide +kernel) ?_
  refine fx_la 0 66 (v := 554) (by decide +kernel) rfl (by decide +kernel) ?_
  refine fx_gp 554 69 4 594 69 (by decide +kernel) ?_
  refine fx_ci (0) 70 (by decide +kernel) ?_
  refine fx_ci (60) 72 (by decide +kernel) ?_
  refine fx_cpy 170 21 594 74 60 75 (by decide +kernel) rfl ?_
  refine fx_la 0 76 (v := 554) (by decide +kernel) rfl (by decide +kernel) ?_
  refine fx_la 1 77 (v := 130) (by decide +kernel) rfl (by decide +kernel) ?_
  refine fx_gi 130 16 5 80 (by decide +kernel) ?_
  try simp only [fu_app, fcy_app, Nat.reduceEqDiff, and_true, and_false, false_and, true_and, if_true, if_false, ite_true, ite_false, reduceIte, Int.reduceToNat, fx_simp0]
  refine fx_pi 554 69 5 83 (by decide +kernel) (by unfold fR; omega) ?_
  refine fx_la 0 84 (v := 554) (by decide +kernel) rfl (by decide +kernel) ?_
  refine fx_la 1 85 (v := 130) (by decide +kernel) rfl (by decide +kernel) ?_
  refine fx_gi 130 16 6 88 (by decide +kernel) ?_
  try simp only [fu_app, fcy_app, Nat.reduceEqDiff, and_true, and_false, false_and, true_and, if_true, if_false, ite_true, ite_false, reduceIte, Int.reduceToNat, fx_simp0]
  refine fx_pi 554 69 6 91 (by decide +kernel) (by unfold fR; omega) ?_
  refine fx_la 0 92 (v := 554) (by decide +kernel) rfl (by decide +kernel) ?_
  refine fx_la 1 93 (v := 130) (by decide +kernel) rfl (by decide +kernel) ?_
  refine fx_gi 130 16 7 96 (by decide +kernel) ?_
  try simp only [fu_app, fcy_app, Nat.reduceEqDiff, and_true, and_false, false_and, true_and, if_true, if_false, ite_true, ite_false, reduceIte, Int.reduceToNat, fx_simp0]
  refine fx_pi 554 69 7 99 (by decide +kernel) (by unfold fR; omega) ?_
  refine fx_la 0 100 (v := 554) (by decide +kernel) rfl (by decide +kernel) ?_
  refine fx_la 1 101 (v := 130) (by decide +kernel) rfl (by decide +kernel) ?_
  refine fx_gi 130 16 8 104 (by decide +kernel) ?_
  try simp only [fu_app, fcy_app, Nat.reduceEqDiff, and_true, and_false, false_and, true_and, if_true, if_false, ite_true, ite_false, reduceIte, Int.reduceToNat, fx_simp0]
  refine fx_pi 554 69 8 107 (by decide +kernel) (by unfold fR; omega) ?_
  refine fx_la 0 108 (v := 554) (by decide +kernel) rfl (by decide +kernel) ?_
  refine fx_la 1 109 (v := 130) (by decide +kernel) rfl (by decide +kernel) ?_
  refine fx_gi 130 16 9 112 (by decide +kernel) ?_
  try simp only [fu_app, fcy_app, Nat.reduceEqDiff, and_true, and_false, false_and, true_and, if_true, if_false, ite_true, ite_false, reduceIte, Int.reduceToNat, fx_simp0]
  refine fx_pi 554 69 9 115 (by decide +kernel) (by unfold fR; omega) ?_
  refine fx_la 0 116 (v := 554) (by decide +kernel) rfl (by decide +kernel) ?_
  refine fx_la 1 117 (v := 130) (by decide +kernel) rfl (by decide +kernel) ?_
  refine fx_gi 130 16 10 120 (by decide +kernel) ?_
  try simp only [fu_app, fcy_app, Nat.reduceEqDiff, and_true, and_false, false_and, true_and, if_true, if_false, ite_true, ite_false, reduceIte, Int.reduceToNat, fx_simp0]
  refine fx_pi 554 69 10 123 (by decide +kernel) (by unfold fR; omega) ?_
  refine fx_vret (by decide +kernel) ?_
  exact kq
theorem sp_cpT_image_table (kq : Q 0 0 (cpT g 69 16)) : fx W r 0 63 0 [130, 554] [] g Q := by
  refine fx_rg (fun hg => ?_)
  have v5 := hg 69 5 (by decide) (by decide +kernel) (by decide +kernel)
  have v6 := hg 69 6 (by decide) (by decide +kernel) (by decide +kernel)
  have v7 := hg 69 7 (by decide) (by decide +kernel) (by decide +kernel)
  have v8 := hg 69 8 (by decide) (by decide +kernel) (by decide +kernel)
  have v9 := hg 69 9 (by decide) (by decide +kernel) (by decide +kernel)
  have v10 := hg 69 10 (by decide) (by decide +kernel) (by decide +kernel)
  unfold fR at v5 v6 v7 v8 v9 v10
  refine fx_la 1 1 (v := 554) (by decide +kernel) rfl (by decide +kernel) ?_
  refine fx_gp 554 69 0 562 4 (by decide +kernel) ?_
  refine fx_ci (0) 5 (by decide +kernel) ?_
  refine fx_la 0 6 (v := 130) (by decide +kernel) rfl (by decide +kernel) ?_
  refine fx_gp 130 16 0 138 9 (by decide +kernel) ?_
  refine fx_ci (0) 10 (by decide +kernel) ?_
  refine fx_ci (8) 12 (by decide +kernel) ?_
  refine fx_cpy 562 70 138 17 8 15 (by decide +kernel) rfl ?_
  refine fx_la 1 16 (v := 554) (by decide +kernel) rfl (by decide +kernel) ?_
  refine fx_gp 554 69 1 570 19 (by decide +kernel) ?_
  refine fx_ci (0) 20 (by decide +kernel) ?_
  refine fx_la 0 21 (v := 130) (by decide +kernel) rfl (by decide +kernel) ?_
  refine fx_gp 130 16 1 146 24 (by decide +kernel) ?_
  refine fx_ci (0) 25 (by decide +kernel) ?_
  refine fx_ci (8) 27 (by decide +kernel) ?_
  refine fx_cpy 570 71 146 18 8 30 (by decide +kernel) rfl ?_
  refine fx_la 1 31 (v := 554) (by decide +kernel) rfl (by decide +kernel) ?_
  refine fx_gp 554 69 2 578 34 (by decide +kernel) ?_
  refine fx_ci (0) 35 (by decide +kernel) ?_
  refine fx_la 0 36 (v := 130) (by decide +kernel) rfl (by decide +kernel) ?_
  refine fx_gp 130 16 2 154 39 (by decide +kernel) ?_
  refine fx_ci (0) 40 (by decide +kernel) ?_
  refine fx_ci (8) 42 (by decide +kernel) ?_
  refine fx_cpy 578 72 154 19 8 45 (by decide +kernel) rfl ?_
  refine fx_la 1 46 (v := 554) (by decide +kernel) rfl (by decide +kernel) ?_
  refine fx_gp 554 69 3 586 49 (by decide +kernel) ?_
  refine fx_ci (0) 50 (by decide +kernel) ?_
  refine fx_la 0 51 (v := 130) (by decide +kernel) rfl (by decide +kernel) ?_
  refine fx_gp 130 16 3 162 54 (by decide +kernel) ?_
  refine fx_ci (0) 55 (by decide +kernel) ?_
  refine fx_ci (8) 57 (by decide +kernel) ?_
  refine fx_cpy 586 73 162 20 8 60 (by decide +kernel) rfl ?_
  refine fx_la 1 61 (v := 554) (by decide +kernel) rfl (by decide +kernel) ?_
  refine fx_gp 554 69 4 594 64 (by decide +kernel) ?_
  refine fx_ci (0) 65 (by decide +kernel) ?_
  refine fx_la 0 66 (v := 130) (by decide +kernel) rfl (by decide +kernel) ?_
  refine fx_gp 130 16 4 170 69 (by decide +kernel) ?_
  refine fx_ci (0) 70 (by decide +kernel) ?_
  refine fx_ci (60) 72 (by decide +kernel) ?_
  refine fx_cpy 594 74 170 21 60 75 (by decide +kernel) rfl ?_
  refine fx_la 0 76 (v := 130) (by decide +kernel) rfl (by decide +kernel) ?_
  refine fx_la 1 77 (v := 554) (by decide +kernel) rfl (by decide +kernel) ?_
  refine fx_gi 554 69 5 80 (by decide +kernel) ?_
  try simp only [fu_app, fcy_app, Nat.reduceEqDiff, and_true, and_false, false_and, true_and, if_true, if_false, ite_true, ite_false, reduceIte, Int.reduceToNat, fx_simp0]
  refine fx_pi 130 16 5 83 (by decide +kernel) (by unfold fR; omega) ?_
  refine fx_la 0 84 (v := 130) (by decide +kernel) rfl (by decide +kernel) ?_
  refine fx_la 1 85 (v := 554) (by decide +kernel) rfl (by decide +kernel) ?_
  refine fx_gi 554 69 6 88 (by decide +kernel) ?_
  try simp only [fu_app, fcy_app, Nat.reduceEqDiff, and_true, and_false, false_and, true_and, if_true, if_false, ite_true, ite_false, reduceIte, Int.reduceToNat, fx_simp0]
  refine fx_pi 130 16 6 91 (by decide +kernel) (by unfold fR; omega) ?_
  refine fx_la 0 92 (v := 130) (by decide +kernel) rfl (by decide +kernel) ?_
  refine fx_la 1 93 (v := 554) (by decide +kernel) rfl (by decide +kernel) ?_
  refine fx_gi 554 69 7 96 (by decide +kernel) ?_
  try simp only [fu_app, fcy_app, Nat.reduceEqDiff, and_true, and_false, false_and, true_and, if_true, if_false, ite_true, ite_false, reduceIte, Int.reduceToNat, fx_simp0]
  refine fx_pi 130 16 7 99 (by decide +kernel) (by unfold fR; omega) ?_
  refine fx_la 0 100 (v := 130) (by decide +kernel) rfl (by decide +kernel) ?_
  refine fx_la 1 101 (v := 554) (by decide +kernel) rfl (by decide +kernel) ?_
  refine fx_gi 554 69 8 104 (by decide +kernel) ?_
  try simp only [fu_app, fcy_app, Nat.reduceEqDiff, and_true, and_false, false_and, true_and, if_true, if_false, ite_true, ite_false, reduceIte, Int.reduceToNat, fx_simp0]
  refine fx_pi 130 16 8 107 (by decide +kernel) (by unfold fR; omega) ?_
  refine fx_la 0 108 (v := 130) (by decide +kernel) rfl (by decide +kernel) ?_
  refine fx_la 1 109 (v := 554) (by decide +kernel) rfl (by decide +kernel) ?_
  refine fx_gi 554 69 9 112 (by decide +kernel) ?_
  try simp only [fu_app, fcy_app, Nat.reduceEqDiff, and_true, and_false, false_and, true_and, if_true, if_false, ite_true, ite_false, reduceIte, Int.reduceToNat, fx_simp0]
  refine fx_pi 130 16 9 115 (by decide +kernel) (by unfold fR; omega) ?_
  refine fx_la 0 116 (v := 130) (by decide +kernel) rfl (by decide +kernel) ?_
  refine fx_la 1 117 (v := 554) (by decide +kernel) rfl (by decide +kernel) ?_
  refine fx_gi 554 69 10 120 (by decide +kernel) ?_
  try simp only [fu_app, fcy_app, Nat.reduceEqDiff, and_true, and_false, false_and, true_and, if_true, if_false, ite_true, ite_false, reduceIte, Int.reduceToNat, fx_simp0]
  refine fx_pi 130 16 10 123 (by decide +kernel) (by unfold fR; omega) ?_
  refine fx_vret (by decide +kernel) ?_
  exact kq
theorem sp_useUp (kq : Q 1 (fI (g 1 1)) (fu g 1 1 0)) : fx W r 0 73 0 [10, 7] [] g Q := by
  refine fx_rg (fun hg => ?_)
  refine fx_la 0 1 (v := 10) (by decide +kernel) rfl (by decide +kernel) ?_
  refine fx_gi 10 1 1 4 (by decide +kernel) ?_
  refine fx_si 1 5 (by decide +kernel) (Or.inr (f_n4p (v := 10) rfl (by decide))) rfl ?_
  dsimp only [List.set]
  refine fx_la 0 6 (v := 10) (by decide +kernel) rfl (by decide +kernel) ?_
  refine fx_ci (0) 7 (by decide +kernel) ?_
  refine fx_pi 10 1 1 10 (by decide +kernel) (by unfold fR; omega) ?_
  refine fx_li 1 11 (by decide +kernel) rfl ?_
  refine fx_ret (by decide +kernel) ?_
  exact kq
/-- the tape is used up, the text begins -/
def fUse (T : Int → Int) (E : Int) (g : Nat → Nat → Int) : Nat → Nat → Int := cAt T E (fu (fu (fu (fu g 1 1 0) 28 4 (g 1 1)) 28 1 (-1)) 28 3 0) (pSk T E 0)
theorem sp_useTape (hT : ∀ k : Int, 0 ≤ k → k < 400 → g 2 k.toNat = T k ∧ 0 ≤ T k ∧ T k ≤ 255) (hE : g 1 1 = E) (hE0 : 0 ≤ E) (hE1 : E ≤ 400) (kq : Q 0 0 (fUse T E g)) : fx W r 1 72 0 [226] [] g Q := by
  refine fx_la 0 1 (v := 226) (by decide +kernel) rfl (by decide +kernel) ?_
  refine fx_la 0 2 (v := 226) (by decide +kernel) rfl (by decide +kernel) ?_
  refine fx_gp 226 28 0 10 5 (by decide +kernel) ?_
  refine fx_c1 73 21 8 0 [7] (by decide +kernel) (by decide) rfl (by first | decide | omega) ?_
  refine sp_useUp (fK1 ?_)
  refine fx_pi 226 28 4 11 (by decide +kernel) (by unfold fR; omega) ?_
  refine fx_la 0 12 (v := 226) (by decide +kernel) rfl (by decide +kernel) ?_
  refine fx_ci (-1) 13 (by decide +kernel) ?_
  refine fx_pi 226 28 1 16 (by decide +kernel) (by unfold fR; omega) ?_
  refine fx_la 0 17 (v := 226) (by decide +kernel) rfl (by decide +kernel) ?_
  refine fx_ci (0) 18 (by decide +kernel) ?_
  refine fx_pi 226 28 3 21 (by decide +kernel) (by unfold fR; omega) ?_
  refine fx_la 0 22 (v := 226) (by decide +kernel) rfl (by decide +kernel) ?_
  refine fx_c1 74 21 25 0 [7] (by decide +kernel) (by decide) rfl (by first | decide | omega) ?_
  refine sp_advance (T := T) (E := E) ⟨?_, hE0, hE1, fun k h0 h1 => ?_⟩ (by rw [fu_eq]; omega) (by rw [fu_eq]; exact hE0) (fK0 ?_)
  · rw [fu_nj (by decide), fu_nj (by decide), fu_eq]; exact hE
  · rw [fu_nc (by decide), fu_nc (by decide), fu_nc (by decide), fu_nc (by decide)]
    exact hT k h0 h1
  rw [fu_eq]
  refine fx_vret (by decide +kernel) ?_
  exact kq
theorem fUse_st (hT : ∀ k : Int, 0 ≤ k → k < 400 → g 2 k.toNat = T k ∧ 0 ≤ T k ∧ T k ≤ 255) (hE : g 1 1 = E) (hE0 : 0 ≤ E) (hE1 : E ≤ 400) : cSt T E (fUse T E g) (pSk T E 0) := by
  refine cSt_at ⟨?_, hE0, hE1, fun k h0 h1 => ?_⟩ (pOk_sk (Int.le_refl 0) hE0)
  · rw [fu_nj (by decide), fu_nj (by decide), fu_eq]; exact hE
  · rw [fu_nc (by decide), fu_nc (by decide), fu_nc (by decide), fu_nc (by decide)]
    exact hT k h0 h1
theorem fUse_ne {c j : Nat} (h1 : c ≠ 28) (h2 : ¬ (c = 1 ∧ j = 1)) : fUse T E g c j = g c j := by
  unfold fUse cAt
  rw [fu_nc h1, fu_nc h1, fu_nc h1, fu_nc h1, fu_nc h1, fu_ne h2]
theorem fUse_w : fUse T E g 28 1 = -1 := by
  unfold fUse cAt
  rw [fu_nj (by decide), fu_nj (by decide), fu_nj (by decide), fu_eq]
theorem fUse_l : fUse T E g 1 1 = 0 := by
  unfold fUse cAt
  rw [fu_nc (by decide), fu_nc (by decide), fu_nc (by decide), fu_nc (by decide), fu_nc (by decide), fu_eq]
theorem sp_startFrom (hT : ∀ k : Int, 0 ≤ k → k < 400 → g 2 k.toNat = T k ∧ 0 ≤ T k ∧ T k ≤ 255) (hE : g 1 1 = E) (hE0 : 0 ≤ E) (hE1 : E ≤ 400) (kq : Q 0 0 (cpT (cpH (fUse T E g) 3 29) 16 22)) : fx W r 2 71 0 [226, 26, 130] [] g Q := by
  refine fx_la 0 1 (v := 226) (by decide +kernel) rfl (by decide +kernel) ?_
  refine fx_c1 72 21 4 1 [] (by decide +kernel) (by decide) rfl (by first | decide | omega) ?_
  refine sp_useTape hT hE hE0 hE1 (fK0 ?_)
  refine fx_la 0 5 (v := 226) (by decide +kernel) rfl (by decide +kernel) ?_
  refine fx_gp 226 28 5 234 8 (by decide +kernel) ?_
  refine fx_la 1 9 (v := 26) (by decide +kernel) rfl (by decide +kernel) ?_
  refine fx_c2 65 21 12 0 [] (by decide +kernel) (by decide) (by decide) (by decide) rfl (by first | decide | omega) ?_
  refine sp_cpH_house_draft (fK0 ?_)
  refine fx_la 0 13 (v := 226) (by decide +kernel) rfl (by decide +kernel) ?_
  refine fx_gp 226 28 6 178 16 (by decide +kernel) ?_
  refine fx_la 2 17 (v := 130) (by decide +kernel) rfl (by decide +kernel) ?_
  refine fx_c2 63 21 20 0 [] (by decide +kernel) (by decide) (by decide) (by decide) rfl (by first | decide | omega) ?_
  refine sp_cpT_table_scratch (fK0 ?_)
  refine fx_vret (by decide +kernel) ?_
  exact kq
end FYA
end
section
/-! fx: the class's house(), whole -/
/-- nothing but the text's own, the draft, what is tried out, the tape's length, the wrong byte -/
def frc (g g' : Nat → Nat → Int) : Prop := ∀ c j, ¬ (22 ≤ c ∧ c ≤ 33) → ¬ (c = 1 ∧ j = 1) → ¬ (c = 0 ∧ j = 18) → g' c j = g c j
/-- and the house, the table, how much is remembered -/
def frd (g g' : Nat → Nat → Int) : Prop := ∀ c j, ¬ (3 ≤ c ∧ c ≤ 3 + 4) → ¬ (16 ≤ c ∧ c ≤ 33) → ¬ (c = 1 ∧ j = 1) → ¬ (c = 0 ∧ (j = 18 ∨ j = 16)) → g' c j = g c j
section FYB
variable {W : ax_W} {r : Nat} {g : Nat → Nat → Int} {Q : Nat → Nat → (Nat → Nat → Int) → Prop} {T : Int → Int} {E : Int}
theorem sp_chouse (hr : 1 ≤ r) (hT : ∀ k : Int, 0 ≤ k → k < 400 → g 2 k.toNat = T k ∧ 0 ≤ T k ∧ T k ≤ 255) (hE : g 1 1 = E) (hE0 : 0 ≤ E) (hE1 : E ≤ 400) (hp0 : 0 ≤ g 3 4) (hp1 : g 3 4 ≤ 8) (hd0 : 0 ≤ g 3 5) (hd1 : g 3 5 ≤ 6) (ht0 : 0 ≤ g 3 6) (ht1 : g 3 6 ≤ 12)
    (k1 : ∀ q, pText T E (g 3 4) (g 3 5) = Sum.inl q → ∀ g', frc g g' → g' 1 1 = 0 → g' 0 18 = q → Q 2 0 g')
    (k2 : ∀ us, pText T E (g 3 4) (g 3 5) = Sum.inr us → g 3 6 = 12 → ∀ g', frc g g' → g' 1 1 = 0 → g' 0 18 = -1 → Q 3 0 g')
    (k3 : ∀ us, pText T E (g 3 4) (g 3 5) = Sum.inr us → g 3 6 ≠ 12 → ∀ A, (∀ gm, RHx 3 g gm → 0 ≤ gm 149 3 → gm 149 3 ≤ 8 → 0 ≤ gm 149 4 → gm 149 4 ≤ 6 → RHx 29 A (apLs T us gm)) → ∀ g', frd g g' → g' 1 1 = 0 → g' 0 18 = -1 → g' 0 16 = 0 → g' 3 6 = g 3 6 + 1 → (∀ j, 4 ≤ j → j ≤ 9 → j ≠ 6 → g' 3 j = A 29 j) → (∀ i j, 1 ≤ i → i ≤ 4 → g' (3 + i) j = A (29 + i) j) → Q 1 (fI (g 3 6 + 1)) g') : fx W r 10 70 0 [2, 7] [] g Q := by
  have st := fUse_st (T := T) (E := E) hT hE hE0 hE1
  have ne : ∀ c j, (c < 22 ∨ 33 < c) → ¬ (c = 1 ∧ j = 1) → cpT (cpH (fUse T E g) 3 29) 16 22 c j = g c j := fun c j h1 h2 => by
    rw [cpT_ne (by omega), cpH_ne (by omega), fUse_ne (by omega) h2]
  have n28 : ∀ j, cpT (cpH (fUse T E g) 3 29) 16 22 28 j = fUse T E g 28 j := fun j => by
    rw [cpT_ne (by decide), cpH_ne (by decide)]
  have dr : ∀ j, 4 ≤ j → j ≤ 9 → cpT (cpH (fUse T E g) 3 29) 16 22 29 j = g 3 j := fun j h1 h2 => by
    rw [cpT_ne (by decide), cpH_f h1 h2, fUse_ne (by decide) (fun t => absurd t.1 (by decide))]
  have da : ∀ i j, 1 ≤ i → i ≤ 4 → cpT (cpH (fUse T E g) 3 29) 16 22 (29 + i) j = g (3 + i) j := fun i j h1 h2 => by
    rw [cpT_ne (by omega), cpH_a h1 h2 (by decide), fUse_ne (by omega) (by omega)]
  have le : cpT (cpH (fUse T E g) 3 29) 16 22 1 1 = 0 := by
    rw [cpT_ne (by decide), cpH_ne (by decide), fUse_l]
  have wr : cpT (cpH (fUse T E g) 3 29) 16 22 28 1 = -1 := by
    rw [n28, fUse_w]
  have st : cSt T E (cpT (cpH (fUse T E g) 3 29) 16 22) (pSk T E 0) := by
    obtain ⟨s1, s2, s3, s4⟩ := st
    exact ⟨CT_eq s1 (n28 _) (fun j => by rw [cpT_ne (by decide), cpH_ne (by decide)]), by rw [n28]; exact s2, by rw [n28]; exact s3, s4⟩
  refine fx_la 0 1 (v := 2) (by decide +kernel) rfl (by decide +kernel) ?_
  refine fx_gp 2 0 5 226 4 (by decide +kernel) ?_
  refine fx_la 0 5 (v := 2) (by decide +kernel) rfl (by decide +kernel) ?_
  refine fx_gp 2 0 1 26 8 (by decide +kernel) ?_
  refine fx_la 0 9 (v := 2) (by decide +kernel) rfl (by decide +kernel) ?_
  refine fx_gp 2 0 3 130 12 (by decide +kernel) ?_
  refine fx_c3 71 21 15 2 [] (by decide +kernel) (by decide) (by decide) (by decide) (by decide) rfl (by first | decide | omega) ?_
  refine sp_startFrom hT hE hE0 hE1 (fK0 ?_)
  generalize cpT (cpH (fUse T E g) 3 29) 16 22 = G at *
  refine fx_la 0 16 (v := 2) (by decide +kernel) rfl (by decide +kernel) ?_
  refine fx_gp 2 0 5 226 19 (by decide +kernel) ?_
  refine fx_ci (14) 21 (by decide +kernel) ?_
  refine fx_c2 75 21 24 9 [7] (by decide +kernel) (by decide) (by decide) (fI_n4 _) rfl (by first | decide | omega) ?_
  refine sp_readLines st wr (by rw [dr 4 (by decide) (by decide)]; exact hp0) (by rw [dr 4 (by decide) (by decide)]; exact hp1) (by rw [dr 5 (by decide) (by decide)]; exact hd0) (by rw [dr 5 (by decide) (by decide)]; exact hd1) (fun us e f' => fK1 ?_) (fun q e g' e1 e2 => fK1 ?_)
  · rw [dr 4 (by decide) (by decide), dr 5 (by decide) (by decide)] at e
    have eG : pText T E (G 29 4) (G 29 5) = Sum.inr us := by rw [dr 4 (by decide) (by decide), dr 5 (by decide) (by decide)]; exact e
    obtain ⟨x1, x2, x3⟩ := pText_cls hE0 eG (by rw [dr 4 (by decide) (by decide)]; exact hp0) (by rw [dr 4 (by decide) (by decide)]; exact hp1) (by rw [dr 5 (by decide) (by decide)]; exact hd0) (by rw [dr 5 (by decide) (by decide)]; exact hd1)
    have xr : ∀ gm, RHx 3 g gm → 0 ≤ gm 149 3 → gm 149 3 ≤ 8 → 0 ≤ gm 149 4 → gm 149 4 ≤ 6 → RHx 29 (apCs T us G) (apLs T us gm) := fun gm h a1 a2 a3 a4 => by
      obtain ⟨h1, h2, h3, h4, h5⟩ := h
      refine pText_rel hE0 (by rw [← h1, ← h2]; exact e) a1 a2 a3 a4 ⟨by rw [dr 4 (by decide) (by decide)]; exact h1, by rw [dr 5 (by decide) (by decide)]; exact h2, by rw [dr 6 (by decide) (by decide)]; exact h3, fun j hj => ?_, fun j hj => ?_⟩
      · rw [dr 5 (by decide) (by decide)] at hj
        rw [da 3 j (by decide) (by decide)]
        exact h4 j hj
      · rw [da 4 j (by decide) (by decide)]
        exact h5 j hj
    have cw : cAt T E (apCs T us G) f' 28 1 = -1 := by unfold cAt; rw [fu_nj (by decide), fu_nj (by decide), x2]; exact wr
    have cn : ∀ c j, c ≠ 28 → cAt T E (apCs T us G) f' c j = apCs T us G c j := fun c j h => by unfold cAt; rw [fu_nc h, fu_nc h]
    have cx : ∀ c j, (c < 22 ∨ 33 < c) → ¬ (c = 1 ∧ j = 1) → cAt T E (apCs T us G) f' c j = g c j := fun c j h1 h2 => by rw [cn c j (by omega), x1 c j (by omega)]; exact ne c j h1 h2
    have cl : cAt T E (apCs T us G) f' 1 1 = 0 := by rw [cn _ _ (by decide), x1 _ _ (by decide)]; exact le
    have c6 : cAt T E (apCs T us G) f' 29 6 = g 3 6 := by rw [cn _ _ (by decide), x3]; exact dr 6 (by decide) (by decide)
    generalize cAt T E (apCs T us G) f' = A at *
    refine fx_si 1 25 (by decide +kernel) (Or.inr (f_n4p (v := 2) rfl (by decide))) rfl ?_
    dsimp only [List.set]
    refine fx_la 0 26 (v := 2) (by decide +kernel) rfl (by decide +kernel) ?_
    refine fx_la 0 27 (v := 2) (by decide +kernel) rfl (by decide +kernel) ?_
    refine fx_gp 2 0 5 226 30 (by decide +kernel) ?_
    refine fx_gi 226 28 1 33 (by decide +kernel) ?_
    try simp only [fu_app, fcy_app, Nat.reduceEqDiff, and_true, and_false, false_and, true_and, if_true, if_false, ite_true, ite_false, reduceIte, Int.reduceToNat, fx_simp0]
    rw [cw]
    refine fx_pi 2 0 18 36 (by decide +kernel) (by unfold fR; omega) ?_
    refine fx_li 1 37 (by decide +kernel) rfl ?_
    refine fx_zne 50 40 (by decide +kernel) (by unfold fR; omega) (fun _ => ?_) (fun hc => absurd hc (by decide))
    refine fx_la 0 51 (v := 2) (by decide +kernel) rfl (by decide +kernel) ?_
    refine fx_gp 2 0 1 26 54 (by decide +kernel) ?_
    skip
    refine fx_gi 26 3 6 57 (by decide +kernel) ?_
    try simp only [fu_app, fcy_app, Nat.reduceEqDiff, and_true, and_false, false_and, true_and, if_true, if_false, ite_true, ite_false, reduceIte, Int.reduceToNat, fx_simp0]
    rw [cx _ _ (by decide) (by decide)]
    refine fx_ci (12) 59 (by decide +kernel) ?_
    refine fx_ilt 72 62 (by decide +kernel) (by unfold fR; omega) (by unfold fR; omega) (fun h59 => ?_) (fun h59 => ?_)
    · refine fx_la 0 73 (v := 2) (by decide +kernel) rfl (by decide +kernel) ?_
      refine fx_gp 2 0 1 26 76 (by decide +kernel) ?_
      refine fx_la 0 77 (v := 2) (by decide +kernel) rfl (by decide +kernel) ?_
      refine fx_gp 2 0 5 226 80 (by decide +kernel) ?_
      refine fx_gp 226 28 5 234 83 (by decide +kernel) ?_
      refine fx_c2 65 21 86 0 [] (by decide +kernel) (by decide) (by decide) (by decide) rfl (by first | decide | omega) ?_
      refine sp_cpH_draft_house (fK0 ?_)
      refine fx_la 0 87 (v := 2) (by decide +kernel) rfl (by decide +kernel) ?_
      refine fx_gp 2 0 1 26 90 (by decide +kernel) ?_
      refine fx_dup 91 (by decide +kernel) rfl (by decide) ?_
      refine fx_gi 26 3 6 94 (by decide +kernel) ?_
      try simp only [fu_app, fcy_app, Nat.reduceEqDiff, and_true, and_false, false_and, true_and, if_true, if_false, ite_true, ite_false, reduceIte, Int.reduceToNat, fx_simp0]
      rw [cpH_f (by decide) (by decide), fu_nc (by decide), c6]
      refine fx_ci (1) 95 (by decide +kernel) ?_
      refine fx_add 96 (by decide +kernel) rfl ?_
      refine fx_pi 26 3 6 99 (by decide +kernel) (by unfold fR; omega) ?_
      refine fx_la 0 100 (v := 2) (by decide +kernel) rfl (by decide +kernel) ?_
      refine fx_gp 2 0 3 130 103 (by decide +kernel) ?_
      refine fx_la 0 104 (v := 2) (by decide +kernel) rfl (by decide +kernel) ?_
      refine fx_gp 2 0 4 178 107 (by decide +kernel) ?_
      refine fx_c2 63 21 110 0 [] (by decide +kernel) (by decide) (by decide) (by decide) rfl (by first | decide | omega) ?_
      refine sp_cpT_scratch_table (fK0 ?_)
      refine fx_la 0 111 (v := 2) (by decide +kernel) rfl (by decide +kernel) ?_
      refine fx_ci (0) 112 (by decide +kernel) ?_
      refine fx_pi 2 0 16 115 (by decide +kernel) (by unfold fR; omega) ?_
      refine fx_la 0 116 (v := 2) (by decide +kernel) rfl (by decide +kernel) ?_
      refine fx_gp 2 0 1 26 119 (by decide +kernel) ?_
      refine fx_gi 26 3 6 122 (by decide +kernel) ?_
      try simp only [fu_app, fcy_app, Nat.reduceEqDiff, and_true, and_false, false_and, true_and, if_true, if_false, ite_true, ite_false, reduceIte, Int.reduceToNat, fx_simp0]
      refine fx_ret (by decide +kernel) ?_
      have kk := k3 us e (by omega) (apCs T us G) xr
      generalize apCs T us G = B at *
      refine kk _ (fun c j h1 h2 h3 h4 => ?_) ?_ ?_ ?_ ?_ (fun j h1 h2 h3 => ?_) (fun i j h1 h2 => ?_)
      · rw [fu_ne (by omega), cpT_ne (by omega), fu_nc (by omega), cpH_ne (by omega), fu_ne (by omega)]
        exact cx c j (by omega) h3
      · rw [fu_nc (by decide), cpT_ne (by decide), fu_nc (by decide), cpH_ne (by decide), fu_nc (by decide)]; exact cl
      · rw [fu_nj (by decide), cpT_ne (by decide), fu_nc (by decide), cpH_ne (by decide), fu_eq]
      · rw [fu_eq]
      · rw [fu_nc (by decide), cpT_ne (by decide), fu_eq]
      · rw [fu_nc (by decide), cpT_ne (by decide), fu_nj h3, cpH_f h1 h2, fu_nc (by decide)]
        exact cn _ _ (by decide)
      · rw [fu_nc (by omega), cpT_ne (by omega), fu_nc (by omega), cpH_a h1 h2 (by decide), fu_nc (by omega)]
        exact cn _ _ (by omega)
    · refine fx_throw 1 (by decide +kernel) rfl (by omega) ?_
      refine k2 us e (by omega) _ (fun c j h1 h2 h3 => ?_) ?_ ?_
      · rw [fu_ne (fun t => h3 t)]
        exact cx c j (by omega) h2
      · rw [fu_nc (by decide)]; exact cl
      · rw [fu_eq]
  · rw [dr 4 (by decide) (by decide), dr 5 (by decide) (by decide)] at e
    have qb := pText_bad hE0 e hp1 hd1
    refine fx_si 1 25 (by decide +kernel) (Or.inr (f_n4p (v := 2) rfl (by decide))) rfl ?_
    dsimp only [List.set]
    refine fx_la 0 26 (v := 2) (by decide +kernel) rfl (by decide +kernel) ?_
    refine fx_la 0 27 (v := 2) (by decide +kernel) rfl (by decide +kernel) ?_
    refine fx_gp 2 0 5 226 30 (by decide +kernel) ?_
    refine fx_gi 226 28 1 33 (by decide +kernel) ?_
    try simp only [fu_app, fcy_app, Nat.reduceEqDiff, and_true, and_false, false_and, true_and, if_true, if_false, ite_true, ite_false, reduceIte, Int.reduceToNat, fx_simp0]
    refine fx_pi 2 0 18 36 (by decide +kernel) (by unfold fR; omega) ?_
    refine fx_li 1 37 (by decide +kernel) rfl ?_
    refine fx_zne 50 40 (by decide +kernel) (by unfold fR; omega) (fun hc => absurd hc (by decide)) (fun _ => ?_)
    refine fx_throw 0 (by decide +kernel) rfl (by omega) ?_
    refine k1 q e _ (fun c j h1 h2 h3 => ?_) ?_ ?_
    · rw [fu_ne (fun t => h3 t), e1 c j h1]
      exact ne c j (by omega) h2
    · rw [fu_nc (by decide), e1 _ _ (by decide)]; exact le
    · rw [fu_eq]; exact e2
end FYB
end
section
/-! fx: what is remembered -/
def fsh (g : Nat → Nat → Int) (n : Nat) : Nat → Nat → Int := fun c j => if c = 152 ∧ j < n then g 152 (j + 364) else g c j
theorem fsh_s {g : Nat → Nat → Int} {k : Nat} : fu (fsh g k) 152 k (g 152 (k + 364)) = fsh g (k + 1) := by
  funext c j
  unfold fu fsh
  by_cases h1 : c = 152 ∧ j = k
  · rw [if_pos h1, if_pos ⟨h1.1, by omega⟩, h1.2]
  · rw [if_neg h1]
    by_cases h2 : c = 152 ∧ j < k
    · rw [if_pos h2, if_pos ⟨h2.1, by omega⟩]
    · rw [if_neg h2, if_neg (by omega)]
theorem fsh_0 {g : Nat → Nat → Int} : fsh g 0 = g := by
  funext c j
  unfold fsh
  rw [if_neg (by omega)]
theorem fsh_nc {g : Nat → Nat → Int} {n c j : Nat} (h : c ≠ 152) : fsh g n c j = g c j := if_neg (fun t => h t.1)
/-- the row m as the row a of what is remembered -/
def frw (g : Nat → Nat → Int) (a n : Nat) : Nat → Nat → Int := fun c j => if c = 152 ∧ 364 * a ≤ j ∧ j < 364 * a + n then g 149 (j - 364 * a) else g c j
theorem frw_s {g : Nat → Nat → Int} {a k : Nat} : fu (frw g a k) 152 (364 * a + k) (g 149 k) = frw g a (k + 1) := by
  funext c j
  unfold fu frw
  by_cases h1 : c = 152 ∧ j = 364 * a + k
  · rw [if_pos h1, if_pos ⟨h1.1, by omega, by omega⟩, h1.2, show 364 * a + k - 364 * a = k by omega]
  · rw [if_neg h1]
    by_cases h2 : c = 152 ∧ 364 * a ≤ j ∧ j < 364 * a + k
    · rw [if_pos h2, if_pos ⟨h2.1, by omega, by omega⟩]
    · rw [if_neg h2, if_neg (by omega)]
theorem frw_0 {g : Nat → Nat → Int} {a : Nat} : frw g a 0 = g := by
  funext c j
  unfold frw
  rw [if_neg (by omega)]
theorem frw_nc {g : Nat → Nat → Int} {a n c j : Nat} (h : c ≠ 152) : frw g a n c j = g c j := if_neg (fun t => h t.1)
/-- what is kept, of the cells as a function -/
def gxh (g : Nat → Nat → Int) (a b : Nat) : Prop := g a 4 = g b 3 ∧ g a 5 = g b 4 ∧ g a 6 = g b 0 ∧ (∀ j : Nat, j < 48 → (j : Int) < 8 * g a 5 → g (a + 3) j = g b (68 + j)) ∧ (∀ j : Nat, j < 8 → g (a + 4) j = g b (116 + j)) ∧ 0 ≤ g a 6 ∧ g a 6 ≤ 12
def gxa (g : Nat → Nat → Int) : Prop := ∀ r k : Nat, (r : Int) < g 148 6 → r < 12 → gx_P k → g 152 (364 * r + k) = g 149 k
def gxg (g : Nat → Nat → Int) : Prop := (∀ j, j < 400 → g 2 j = g 153 j) ∧ gxh g 3 149 ∧ gxh g 56 150 ∧ gxa g
/-- the first three, where nothing of them is written -/
theorem gxg_cg {g g' : Nat → Nat → Int} (h : gxg g) (q : ∀ c j, gx_K c j → c ≠ 152 → ¬ (c = 148 ∧ j = 6) → g' c j = g c j) (ha : gxa g') : gxg g' := by
  obtain ⟨g1, g2, g3, g4⟩ := h
  have hm : ∀ a b, (a = 3 ∧ b = 149) ∨ (a = 56 ∧ b = 150) → gxh g a b → gxh g' a b := by
    intro a b ab g
    obtain ⟨k1, k2, k3, k4, k5, k6⟩ := g
    have f : ∀ j, 4 ≤ j → j ≤ 6 → g' a j = _ := fun j j1 j2 => q a j (Or.inr (Or.inr (Or.inl ⟨by omega, j1, j2⟩))) (by omega) (by omega)
    have m : ∀ j, gx_P j → g' b j = _ := fun j hj => q b j (by
      rcases ab with ⟨-, rfl⟩ | ⟨-, rfl⟩
      · exact Or.inl ⟨rfl, hj⟩
      · unfold gx_K; omega) (by omega) (by omega)
    have e1 : ∀ j, g' (a + 3) j = _ := fun j => q _ j (by unfold gx_K; omega) (by omega) (by omega)
    have e2 : ∀ j, g' (a + 4) j = _ := fun j => q _ j (by unfold gx_K; omega) (by omega) (by omega)
    refine ⟨?_, ?_, ?_, fun j j1 j2 => ?_, fun j j1 => ?_, by rw [f 6 (by omega) (by omega)]; exact k6⟩
    · rw [f 4 (by omega) (by omega), m 3 (by unfold gx_P; omega)]; exact k1
    · rw [f 5 (by omega) (by omega), m 4 (by unfold gx_P; omega)]; exact k2
    · rw [f 6 (by omega) (by omega), m 0 (by unfold gx_P; omega)]; exact k3
    · rw [f 5 (by omega) (by omega)] at j2
      rw [e1, m _ (by unfold gx_P; omega)]
      exact k4 j j1 j2
    · rw [e2, m _ (by unfold gx_P; omega)]
      exact k5 j j1
  refine ⟨fun j hj => ?_, hm _ _ (Or.inl ⟨rfl, rfl⟩) g2, hm _ _ (Or.inr ⟨rfl, rfl⟩) g3, ha⟩
  rw [q 2 j (by unfold gx_K; omega) (by decide) (by omega), q 153 j (by unfold gx_K; omega) (by decide) (by omega)]
  exact g1 j hj
section FYC
variable {W : ax_W} {r : Nat} {g : Nat → Nat → Int} {Q : Nat → Nat → (Nat → Nat → Int) → Prop}
theorem sp_rem_2 (a : Nat) (ha : a ≤ 11) (hac : g 148 6 = a) (kq : fx W r 0 319 86 [1186, fI 364] [] (frw g a 364) Q) : ∀ (n k : Nat), k + n = 364 → fx W r 0 319 52 [1186, fI (k : Int)] [] (frw g a k) Q
  | n, k, hn => by
    refine fx_rg (fun hg => ?_)
    have hv := hgA hg 764 (c := 149) (j := k) (by decide +kernel) (by omega)
    rw [frw_nc (by decide)] at hv
    unfold fR at hv
    have ea : frw g a k 148 6 = a := by rw [frw_nc (by decide)]; exact hac
    refine fx_li 1 53 (by decide +kernel) rfl ?_
    refine fx_ci (364) 56 (by decide +kernel) ?_
    refine fx_ige 86 59 (by decide +kernel) (by unfold fR; omega) (by unfold fR; omega) (fun h56 => ?_) (fun h56 => ?_)
    · have e : k = 364 := by omega
      subst e
      exact kq
    · refine fx_la 0 60 (v := 1186) (by decide +kernel) rfl (by decide +kernel) ?_
      refine fx_gp 1186 148 5 1218 63 (by decide +kernel) ?_
      refine fx_ci (364) 66 (by decide +kernel) ?_
      refine fx_la 0 67 (v := 1186) (by decide +kernel) rfl (by decide +kernel) ?_
      refine fx_gi 1186 148 6 70 (by decide +kernel) ?_
      rw [ea]
      refine fx_mul 71 (by decide +kernel) rfl ?_
      refine fx_li 1 72 (by decide +kernel) rfl ?_
      refine fx_add 73 (by decide +kernel) rfl ?_
      refine fx_la 0 74 (v := 1186) (by decide +kernel) rfl (by decide +kernel) ?_
      refine fx_gp 1186 148 1 1194 77 (by decide +kernel) ?_
      refine fx_li 1 78 (by decide +kernel) rfl ?_
      refine fx_al 1194 149 764 79 (by decide +kernel) rfl (by omega) (by omega) rfl ?_
      rw [show ((k : Int)).toNat = k from rfl, frw_nc (by decide)]
      refine fx_as 1218 152 4368 80 (by decide +kernel) rfl (by omega) (by omega) rfl (by unfold fR; omega) ?_
      rw [show (364 * (a : Int) + (k : Int)).toNat = 364 * a + k by omega, frw_s]
      refine fx_inc 1 83 (1) (by decide +kernel) rfl (Or.inr (f_n4p (v := 1186) rfl (by decide))) rfl ?_
      dsimp only [List.set]
      refine fx_go 52 (by decide +kernel) ?_
      match n, hn with
      | 0, hn => exfalso; omega
      | n + 1, hn => exact sp_rem_2 a ha hac kq n (k + 1) (by omega)
theorem sp_rem_1 (kq : fx W r 0 319 40 [1186, fI 4004] [] (fsh g 4004) Q) : ∀ (n k : Nat), k + n = 4004 → fx W r 0 319 11 [1186, fI (k : Int)] [] (fsh g k) Q
  | n, k, hn => by
    refine fx_rg (fun hg => ?_)
    have ev : fsh g k 152 (k + 364) = g 152 (k + 364) := if_neg (by omega)
    refine fx_li 1 12 (by decide +kernel) rfl ?_
    refine fx_ci (4004) 15 (by decide +kernel) ?_
    refine fx_ige 40 18 (by decide +kernel) (by unfold fR; omega) (by unfold fR; omega) (fun h15 => ?_) (fun h15 => ?_)
    · have e : k = 4004 := by omega
      subst e
      exact kq
    · refine fx_la 0 19 (v := 1186) (by decide +kernel) rfl (by decide +kernel) ?_
      refine fx_gp 1186 148 5 1218 22 (by decide +kernel) ?_
      refine fx_li 1 23 (by decide +kernel) rfl ?_
      refine fx_la 0 24 (v := 1186) (by decide +kernel) rfl (by decide +kernel) ?_
      refine fx_gp 1186 148 5 1218 27 (by decide +kernel) ?_
      refine fx_li 1 28 (by decide +kernel) rfl ?_
      refine fx_ci (364) 31 (by decide +kernel) ?_
      refine fx_add 32 (by decide +kernel) rfl ?_
      refine fx_al 1218 152 4368 33 (by decide +kernel) rfl (by omega) (by omega) rfl ?_
      have hv := hgA hg 4368 (c := 152) (j := k + 364) (by decide +kernel) (by omega)
      rw [ev] at hv
      unfold fR at hv
      rw [show ((k : Int) + 364).toNat = k + 364 by omega, ev]
      refine fx_as 1218 152 4368 34 (by decide +kernel) rfl (by omega) (by omega) rfl (by unfold fR; omega) ?_
      rw [show ((k : Int)).toNat = k from rfl, fsh_s]
      refine fx_inc 1 37 (1) (by decide +kernel) rfl (Or.inr (f_n4p (v := 1186) rfl (by decide))) rfl ?_
      dsimp only [List.set]
      refine fx_go 11 (by decide +kernel) ?_
      match n, hn with
      | 0, hn => exfalso; omega
      | n + 1, hn => exact sp_rem_1 kq n (k + 1) (by omega)
theorem gxa_rw {a : Nat} (hac : g 148 6 = a) (h : gxa g) : gxa (fu (frw g a 364) 148 6 (a + 1)) := by
  intro r k hr hr2 hk
  rw [fu_eq] at hr
  rw [fu_nc (by decide), fu_nc (by decide), frw_nc (j := k) (by decide)]
  unfold frw
  have k2 : k < 364 := by unfold gx_P at hk; omega
  by_cases e : r = a
  · subst e
    rw [if_pos ⟨rfl, by omega, by omega⟩, show 364 * r + k - 364 * r = k by omega]
  · rw [if_neg (by omega)]
    exact h r k (by rw [hac]; omega) hr2 hk
theorem sp_remembers (h : gxg g) (h0 : 0 ≤ g 148 6) (h1 : g 148 6 ≤ 12) (kq : ∀ g', gxg g' → Q 0 0 g') : fx W r 0 319 0 [1186, 7] [] g Q := by
  refine fx_rg (fun hg => ?_)
  have fin : ∀ (G : Nat → Nat → Int) (a : Nat) (z : Int), a ≤ 11 → G 148 6 = a → gxg G → fx W r 0 319 52 [1186, fI 0] [] G Q := by
    intro G a z ha hac hG
    have st := sp_rem_2 (W := W) (r := r) (Q := Q) (g := G) a ha hac ?_ 364 0 rfl
    · rw [frw_0] at st
      exact st
    · have ea : frw G a 364 148 6 = a := by rw [frw_nc (by decide)]; exact hac
      refine fx_la 0 87 (v := 1186) (by decide +kernel) rfl (by decide +kernel) ?_
      refine fx_dup 88 (by decide +kernel) rfl (by decide) ?_
      refine fx_gi 1186 148 6 91 (by decide +kernel) ?_
      rw [ea]
      refine fx_ci (1) 92 (by decide +kernel) ?_
      refine fx_add 93 (by decide +kernel) rfl ?_
      refine fx_pi 1186 148 6 96 (by decide +kernel) (by unfold fR; omega) ?_
      refine fx_vret (by decide +kernel) ?_
      refine kq _ (gxg_cg hG (fun c j k e1 e2 => ?_) (gxa_rw hac hG.2.2.2))
      rw [fu_ne e2, frw_nc e1]
  refine fx_la 0 1 (v := 1186) (by decide +kernel) rfl (by decide +kernel) ?_
  refine fx_gi 1186 148 6 4 (by decide +kernel) ?_
  refine fx_ci (12) 6 (by decide +kernel) ?_
  refine fx_ine 50 9 (by decide +kernel) (by first | exact hg 148 6 (by decide) (by decide +kernel) (by decide +kernel) | (unfold fR; omega)) (by unfold fR; omega) (fun h6 => ?_) (fun h6 => ?_)
  · refine fx_ci (0) 51 (by decide +kernel) ?_
    refine fx_si 1 52 (by decide +kernel) (Or.inr (f_n4p (v := 1186) rfl (by decide))) rfl ?_
    dsimp only [List.set]
    exact fin g (g 148 6).toNat 0 (by omega) (by omega) h
  · refine fx_ci (0) 10 (by decide +kernel) ?_
    refine fx_si 1 11 (by decide +kernel) (Or.inr (f_n4p (v := 1186) rfl (by decide))) rfl ?_
    dsimp only [List.set]
    have st := sp_rem_1 (W := W) (r := r) (Q := Q) (g := g) ?_ 4004 0 rfl
    · rw [fsh_0] at st
      exact st
    · have ea : fsh g 4004 148 6 = 12 := by rw [fsh_nc (by decide)]; exact h6
      refine fx_la 0 41 (v := 1186) (by decide +kernel) rfl (by decide +kernel) ?_
      refine fx_dup 42 (by decide +kernel) rfl (by decide) ?_
      refine fx_gi 1186 148 6 45 (by decide +kernel) ?_
      rw [ea]
      refine fx_ci (1) 46 (by decide +kernel) ?_
      refine fx_sub 47 (by decide +kernel) rfl ?_
      refine fx_pi 1186 148 6 50 (by decide +kernel) (by unfold fR; omega) ?_
      refine fx_ci (0) 51 (by decide +kernel) ?_
      refine fx_si 1 52 (by decide +kernel) (Or.inr (f_n4p (v := 1186) rfl (by decide))) rfl ?_
      dsimp only [List.set]
      refine fin _ 11 0 (by decide) (by rw [fu_eq]; rfl) (gxg_cg h (fun c j k e1 e2 => ?_) ?_)
      · rw [fu_ne e2, fsh_nc e1]
      · intro r k hr hr2 hk
        rw [fu_eq] at hr
        have k2 : k < 364 := by unfold gx_P at hk; omega
        rw [fu_nc (by decide), fu_nc (by decide), fsh_nc (j := k) (by decide)]
        have e : fsh g 4004 152 (364 * r + k) = g 152 (364 * r + k + 364) := if_pos ⟨rfl, by omega⟩
        rw [e, show 364 * r + k + 364 = 364 * (r + 1) + k by omega]
        exact h.2.2.2 (r + 1) k (by omega) (by omega) hk
end FYC
end
section
/-! fx: undo keeps what is kept -/
/-- the row a of what is remembered as the row m -/
def fun1 (g : Nat → Nat → Int) (a n : Nat) : Nat → Nat → Int := fun c j => if c = 149 ∧ j < n then g 152 (364 * a + j) else g c j
theorem fun1_s {g : Nat → Nat → Int} {a k : Nat} : fu (fun1 g a k) 149 k (g 152 (364 * a + k)) = fun1 g a (k + 1) := by
  funext c j
  unfold fu fun1
  by_cases h1 : c = 149 ∧ j = k
  · rw [if_pos h1, if_pos ⟨h1.1, by omega⟩, h1.2]
  · rw [if_neg h1]
    by_cases h2 : c = 149 ∧ j < k
    · rw [if_pos h2, if_pos ⟨h2.1, by omega⟩]
    · rw [if_neg h2, if_neg (by omega)]
theorem fun1_0 {g : Nat → Nat → Int} {a : Nat} : fun1 g a 0 = g := by
  funext c j
  unfold fun1
  rw [if_neg (by omega)]
theorem fun1_nc {g : Nat → Nat → Int} {a n c j : Nat} (h : c ≠ 149) : fun1 g a n c j = g c j := if_neg (fun t => h t.1)
section FYD
variable {W : ax_W} {r : Nat} {g : Nat → Nat → Int} {Q : Nat → Nat → (Nat → Nat → Int) → Prop}
theorem sp_undo_1 (a : Nat) (ha : a ≤ 11) (hac : g 148 6 = a) (kq : Q 1 (fI 1) (fun1 g a 364)) : ∀ (n k : Nat), k + n = 364 → fx W r 0 407 26 [1186, fI (k : Int)] [] (fun1 g a k) Q
  | n, k, hn => by
    refine fx_rg (fun hg => ?_)
    have ea : fun1 g a k 148 6 = a := by rw [fun1_nc (by decide)]; exact hac
    refine fx_li 1 27 (by decide +kernel) rfl ?_
    refine fx_ci (364) 30 (by decide +kernel) ?_
    refine fx_ige 60 33 (by decide +kernel) (by unfold fR; omega) (by unfold fR; omega) (fun h30 => ?_) (fun h30 => ?_)
    · refine fx_ci (1) 61 (by decide +kernel) ?_
      refine fx_retb (by decide +kernel) (by first | exact Or.inl rfl | exact Or.inr rfl | omega) ?_
      have e : k = 364 := by omega
      subst e
      exact kq
    · refine fx_la 0 34 (v := 1186) (by decide +kernel) rfl (by decide +kernel) ?_
      refine fx_gp 1186 148 1 1194 37 (by decide +kernel) ?_
      refine fx_li 1 38 (by decide +kernel) rfl ?_
      refine fx_la 0 39 (v := 1186) (by decide +kernel) rfl (by decide +kernel) ?_
      refine fx_gp 1186 148 5 1218 42 (by decide +kernel) ?_
      refine fx_ci (364) 45 (by decide +kernel) ?_
      refine fx_la 0 46 (v := 1186) (by decide +kernel) rfl (by decide +kernel) ?_
      refine fx_gi 1186 148 6 49 (by decide +kernel) ?_
      rw [ea]
      refine fx_mul 50 (by decide +kernel) rfl ?_
      refine fx_li 1 51 (by decide +kernel) rfl ?_
      refine fx_add 52 (by decide +kernel) rfl ?_
      refine fx_al 1218 152 4368 53 (by decide +kernel) rfl (by omega) (by omega) rfl ?_
      have hv := hgA hg 4368 (c := 152) (j := 364 * a + k) (by decide +kernel) (by omega)
      rw [fun1_nc (by decide)] at hv
      unfold fR at hv
      rw [show (364 * (a : Int) + (k : Int)).toNat = 364 * a + k by omega, fun1_nc (by decide)]
      refine fx_as 1194 149 764 54 (by decide +kernel) rfl (by omega) (by omega) rfl (by unfold fR; omega) ?_
      rw [show ((k : Int)).toNat = k from rfl, fun1_s]
      refine fx_inc 1 57 (1) (by decide +kernel) rfl (Or.inr (f_n4p (v := 1186) rfl (by decide))) rfl ?_
      dsimp only [List.set]
      refine fx_go 26 (by decide +kernel) ?_
      match n, hn with
      | 0, hn => exfalso; omega
      | n + 1, hn => exact sp_undo_1 a ha hac kq n (k + 1) (by omega)
theorem sp_mundo (h : gxg g) (h0 : 0 ≤ g 148 6) (h1 : g 148 6 ≤ 12) (kq : ∀ g' v, gxg g' → Q 1 v g') : fx W r 0 407 0 [1186, 7] [] g Q := by
  refine fx_rg (fun hg => ?_)
  refine fx_la 0 1 (v := 1186) (by decide +kernel) rfl (by decide +kernel) ?_
  refine fx_ci (0) 2 (by decide +kernel) ?_
  refine fx_pi 1186 148 0 5 (by decide +kernel) (by unfold fR; omega) ?_
  refine fx_la 0 6 (v := 1186) (by decide +kernel) rfl (by decide +kernel) ?_
  refine fx_gi 1186 148 6 9 (by decide +kernel) ?_
  try simp only [fu_app, fcy_app, Nat.reduceEqDiff, and_true, and_false, false_and, true_and, if_true, if_false, ite_true, ite_false, reduceIte, Int.reduceToNat, fx_simp0]
  refine fx_zne 14 12 (by decide +kernel) (by unfold fR; omega) (fun h9 => ?_) (fun h9 => ?_)
  · refine fx_la 0 15 (v := 1186) (by decide +kernel) rfl (by decide +kernel) ?_
    refine fx_dup 16 (by decide +kernel) rfl (by decide) ?_
    refine fx_gi 1186 148 6 19 (by decide +kernel) ?_
    try simp only [fu_app, fcy_app, Nat.reduceEqDiff, and_true, and_false, false_and, true_and, if_true, if_false, ite_true, ite_false, reduceIte, Int.reduceToNat, fx_simp0]
    refine fx_ci (1) 20 (by decide +kernel) ?_
    refine fx_sub 21 (by decide +kernel) rfl ?_
    refine fx_pi 1186 148 6 24 (by decide +kernel) (by unfold fR; omega) ?_
    refine fx_ci (0) 25 (by decide +kernel) ?_
    refine fx_si 1 26 (by decide +kernel) (Or.inr (f_n4p (v := 1186) rfl (by decide))) rfl ?_
    dsimp only [List.set]
    have hac : fu (fu g 148 0 0) 148 6 (g 148 6 - 1) 148 6 = ((g 148 6 - 1).toNat : Int) := by rw [fu_eq]; omega
    have st := sp_undo_1 (W := W) (r := r) (Q := Q) (g := fu (fu g 148 0 0) 148 6 (g 148 6 - 1)) (g 148 6 - 1).toNat (by omega) hac ?_ 364 0 rfl
    · rw [fun1_0] at st
      exact st
    · have row : ∀ k, gx_P k → fun1 (fu (fu g 148 0 0) 148 6 (g 148 6 - 1)) (g 148 6 - 1).toNat 364 149 k = g 149 k := fun k hk => by
        have k2 : k < 364 := by unfold gx_P at hk; omega
        unfold fun1
        rw [if_pos ⟨rfl, k2⟩, fu_nc (by decide), fu_nc (by decide)]
        exact h.2.2.2 _ k (by omega) (by omega) hk
      refine kq _ _ (gxg_cg h (fun c j k e1 e2 => ?_) ?_)
      · by_cases e : c = 149
        · subst e
          refine row j ?_
          rcases k with ⟨-, hp⟩ | k
          · exact hp
          · exfalso; omega
        · rw [fun1_nc e, fu_ne e2, fu_ne (by unfold gx_K gx_P at k; omega)]
      · intro r k hr hr2 hk
        rw [fun1_nc (by decide), fu_eq] at hr
        rw [row k hk, fun1_nc (by decide), fu_nc (by decide), fu_nc (by decide)]
        exact h.2.2.2 r k (by omega) hr2 hk
  · refine fx_ci (0) 13 (by decide +kernel) ?_
    refine fx_retb (by decide +kernel) (by first | exact Or.inl rfl | exact Or.inr rfl | omega) ?_
    refine kq _ _ (gxg_cg h (fun c j k e1 e2 => ?_) ?_)
    · rw [fu_ne (by unfold gx_K gx_P at k; omega)]
    · intro r k hr
      rw [fu_nj (by decide)] at hr
      omega
end FYD
end
section
/-! fx: the image -/
def cpL (g : Nat → Nat → Int) (a b : Nat) : Nat → Nat → Int := fu (fu (fcy (fcy (fcy (fcy (fcy g (a + 1) (b + 1)) (a + 2) (b + 2)) (a + 3) (b + 3)) (a + 4) (b + 4)) (a + 5) (b + 5)) b 7 (g a 7)) b 8 (g a 8)
theorem cpL_ne {g : Nat → Nat → Int} {a b c j : Nat} (h : c < b ∨ b + 5 < c) : cpL g a b c j = g c j := by
  unfold cpL
  rw [fu_nc (by omega), fu_nc (by omega), fcy_app, if_neg (by omega), fcy_app, if_neg (by omega), fcy_app, if_neg (by omega), fcy_app, if_neg (by omega), fcy_app, if_neg (by omega)]
section FYE
variable {W : ax_W} {r : Nat} {g : Nat → Nat → Int} {Q : Nat → Nat → (Nat → Nat → Int) → Prop}
theorem sp_cpL_law_image (kq : Q 0 0 (cpL g 8 61)) : fx W r 0 66 0 [490, 66] [] g Q := by
  refine fx_rg (fun hg => ?_)
  have v7 := hg 8 7 (by decide) (by decide +kernel) (by decide +kernel)
  have v8 := hg 8 8 (by decide) (by decide +kernel) (by decide +kernel)
  unfold fR at v7 v8
  refine fx_la 1 1 (v := 66) (by decide +kernel) rfl (by decide +kernel) ?_
  refine fx_gp 66 8 0 74 4 (by decide +kernel) ?_
  refine fx_ci (0) 5 (by decide +kernel) ?_
  refine fx_la 0 6 (v := 490) (by decide +kernel) rfl (by decide +kernel) ?_
  refine fx_gp 490 61 0 498 9 (by decide +kernel) ?_
  refine fx_ci (0) 10 (by decide +kernel) ?_
  refine fx_ci (12) 12 (by decide +kernel) ?_
  refine fx_cpy 74 9 498 62 12 15 (by decide +kernel) rfl ?_
  refine fx_la 1 16 (v := 66) (by decide +kernel) rfl (by decide +kernel) ?_
  refine fx_gp 66 8 1 82 19 (by decide +kernel) ?_
  refine fx_ci (0) 20 (by decide +kernel) ?_
  refine fx_la 0 21 (v := 490) (by decide +kernel) rfl (by decide +kernel) ?_
  refine fx_gp 490 61 1 506 24 (by decide +kernel) ?_
  refine fx_ci (0) 25 (by decide +kernel) ?_
  refine fx_ci (12) 27 (by decide +kernel) ?_
  refine fx_cpy 82 10 506 63 12 30 (by decide +kernel) rfl ?_
  refine fx_la 1 31 (v := 66) (by decide +kernel) rfl (by decide +kernel) ?_
  refine fx_gp 66 8 2 90 34 (by decide +kernel) ?_
  refine fx_ci (0) 35 (by decide +kernel) ?_
  refine fx_la 0 36 (v := 490) (by decide +kernel) rfl (by decide +kernel) ?_
  refine fx_gp 490 61 2 514 39 (by decide +kernel) ?_
  refine fx_ci (0) 40 (by decide +kernel) ?_
  refine fx_ci (12) 42 (by decide +kernel) ?_
  refine fx_cpy 90 11 514 64 12 45 (by decide +kernel) rfl ?_
  refine fx_la 1 46 (v := 66) (by decide +kernel) rfl (by decide +kernel) ?_
  refine fx_gp 66 8 3 98 49 (by decide +kernel) ?_
  refine fx_ci (0) 50 (by decide +kernel) ?_
  refine fx_la 0 51 (v := 490) (by decide +kernel) rfl (by decide +kernel) ?_
  refine fx_gp 490 61 3 522 54 (by decide +kernel) ?_
  refine fx_ci (0) 55 (by decide +kernel) ?_
  refine fx_ci (12) 57 (by decide +kernel) ?_
  refine fx_cpy 98 12 522 65 12 60 (by decide +kernel) rfl ?_
  refine fx_la 1 61 (v := 66) (by decide +kernel) rfl (by decide +kernel) ?_
  refine fx_gp 66 8 4 106 64 (by decide +kernel) ?_
  refine fx_ci (0) 65 (by decide +kernel) ?_
  refine fx_la 0 66 (v := 490) (by decide +kernel) rfl (by decide +kernel) ?_
  refine fx_gp 490 61 4 530 69 (by decide +kernel) ?_
  refine fx_ci (0) 70 (by decide +kernel) ?_
  refine fx_ci (400) 73 (by decide +kernel) ?_
  refine fx_cpy 106 13 530 66 400 76 (by decide +kernel) rfl ?_
  refine fx_la 0 77 (v := 490) (by decide +kernel) rfl (by decide +kernel) ?_
  refine fx_la 1 78 (v := 66) (by decide +kernel) rfl (by decide +kernel) ?_
  refine fx_gi 66 8 7 81 (by decide +kernel) ?_
  try simp only [fu_app, fcy_app, Nat.reduceEqDiff, and_true, and_false, false_and, true_and, if_true, if_false, ite_true, ite_false, reduceIte, Int.reduceToNat, fx_simp0]
  refine fx_pi 490 61 7 84 (by decide +kernel) (by unfold fR; omega) ?_
  refine fx_la 0 85 (v := 490) (by decide +kernel) rfl (by decide +kernel) ?_
  refine fx_la 1 86 (v := 66) (by decide +kernel) rfl (by decide +kernel) ?_
  refine fx_gi 66 8 8 89 (by decide +kernel) ?_
  try simp only [fu_app, fcy_app, Nat.reduceEqDiff, and_true, and_false, false_and, true_and, if_true, if_false, ite_true, ite_false, reduceIte, Int.reduceToNat, fx_simp0]
  refine fx_pi 490 61 8 92 (by decide +kernel) (by unfold fR; omega) ?_
  refine fx_vret (by decide +kernel) ?_
  exact kq
theorem sp_cpL_image_law (kq : Q 0 0 (cpL g 61 8)) : fx W r 0 66 0 [66, 490] [] g Q := by
  refine fx_rg (fun hg => ?_)
  have v7 := hg 61 7 (by decide) (by decide +kernel) (by decide +kernel)
  have v8 := hg 61 8 (by decide) (by decide +kernel) (by decide +kernel)
  unfold fR at v7 v8
  refine fx_la 1 1 (v := 490) (by decide +kernel) rfl (by decide +kernel) ?_
  refine fx_gp 490 61 0 498 4 (by decide +kernel) ?_
  refine fx_ci (0) 5 (by decide +kernel) ?_
  refine fx_la 0 6 (v := 66) (by decide +kernel) rfl (by decide +kernel) ?_
  refine fx_gp 66 8 0 74 9 (by decide +kernel) ?_
  refine fx_ci (0) 10 (by decide +kernel) ?_
  refine fx_ci (12) 12 (by decide +kernel) ?_
  refine fx_cpy 498 62 74 9 12 15 (by decide +kernel) rfl ?_
  refine fx_la 1 16 (v := 490) (by decide +kernel) rfl (by decide +kernel) ?_
  refine fx_gp 490 61 1 506 19 (by decide +kernel) ?_
  refine fx_ci (0) 20 (by decide +kernel) ?_
  refine fx_la 0 21 (v := 66) (by decide +kernel) rfl (by decide +kernel) ?_
  refine fx_gp 66 8 1 82 24 (by decide +kernel) ?_
  refine fx_ci (0) 25 (by decide +kernel) ?_
  refine fx_ci (12) 27 (by decide +kernel) ?_
  refine fx_cpy 506 63 82 10 12 30 (by decide +kernel) rfl ?_
  refine fx_la 1 31 (v := 490) (by decide +kernel) rfl (by decide +kernel) ?_
  refine fx_gp 490 61 2 514 34 (by decide +kernel) ?_
  refine fx_ci (0) 35 (by decide +kernel) ?_
  refine fx_la 0 36 (v := 66) (by decide +kernel) rfl (by decide +kernel) ?_
  refine fx_gp 66 8 2 90 39 (by decide +kernel) ?_
  refine fx_ci (0) 40 (by decide +kernel) ?_
  refine fx_ci (12) 42 (by decide +kernel) ?_
  refine fx_cpy 514 64 90 11 12 45 (by decide +kernel) rfl ?_
  refine fx_la 1 46 (v := 490) (by decide +kernel) rfl (by decide +kernel) ?_
  refine fx_gp 490 61 3 522 49 (by decide +kernel) ?_
  refine fx_ci (0) 50 (by decide +kernel) ?_
  refine fx_la 0 51 (v := 66) (by decide +kernel) rfl (by decide +kernel) ?_
  refine fx_gp 66 8 3 98 54 (by decide +kernel) ?_
  refine fx_ci (0) 55 (by decide +kernel) ?_
  refine fx_ci (12) 57 (by decide +kernel) ?_
  refine fx_cpy 522 65 98 12 12 60 (by decide +kernel) rfl ?_
  refine fx_la 1 61 (v := 490) (by decide +kernel) rfl (by decide +kernel) ?_
  refine fx_gp 490 61 4 530 64 (by decide +kernel) ?_
  refine fx_ci (0) 65 (by decide +kernel) ?_
  refine fx_la 0 66 (v := 66) (by decide +kernel) rfl (by decide +kernel) ?_
  refine fx_gp 66 8 4 106 69 (by decide +kernel) ?_
  refine fx_ci (0) 70 (by decide +kernel) ?_
  refine fx_ci (400) 73 (by decide +kernel) ?_
  refine fx_cpy 530 66 106 13 400 76 (by decide +kernel) rfl ?_
  refine fx_la 0 77 (v := 66) (by decide +kernel) rfl (by decide +kernel) ?_
  refine fx_la 1 78 (v := 490) (by decide +kernel) rfl (by decide +kernel) ?_
  refine fx_gi 490 61 7 81 (by decide +kernel) ?_
  try simp only [fu_app, fcy_app, Nat.reduceEqDiff, and_true, and_false, false_and, true_and, if_true, if_false, ite_true, ite_false, reduceIte, Int.reduceToNat, fx_simp0]
  refine fx_pi 66 8 7 84 (by decide +kernel) (by unfold fR; omega) ?_
  refine fx_la 0 85 (v := 66) (by decide +kernel) rfl (by decide +kernel) ?_
  refine fx_la 1 86 (v := 490) (by decide +kernel) rfl (by decide +kernel) ?_
  refine fx_gi 490 61 8 89 (by decide +kernel) ?_
  try simp only [fu_app, fcy_app, Nat.reduceEqDiff, and_true, and_false, false_and, true_and, if_true, if_false, ite_true, ite_false, reduceIte, Int.reduceToNat, fx_simp0]
  refine fx_pi 66 8 8 92 (by decide +kernel) (by unfold fR; omega) ?_
  refine fx_vret (by decide +kernel) ?_
  exact kq
theorem sp_cimage (kq : ∀ g', (∀ c j, ¬ (56 ≤ c ∧ c ≤ 69 + 5) → ¬ (c = 0 ∧ j = 15) → g' c j = g c j) → g' 0 15 = 1 → (∀ j, 4 ≤ j → j ≤ 9 → g' 56 j = g 3 j) → (∀ i j, 1 ≤ i → i ≤ 4 → g' (56 + i) j = g (3 + i) j) → Q 0 0 g') : fx W r 1 64 0 [2] [] g Q := by
  refine fx_la 0 1 (v := 2) (by decide +kernel) rfl (by decide +kernel) ?_
  refine fx_gp 2 0 11 450 4 (by decide +kernel) ?_
  refine fx_la 0 5 (v := 2) (by decide +kernel) rfl (by decide +kernel) ?_
  refine fx_gp 2 0 1 26 8 (by decide +kernel) ?_
  refine fx_c2 65 21 11 0 [] (by decide +kernel) (by decide) (by decide) (by decide) rfl (by first | decide | omega) ?_
  refine sp_cpH_house_image (fK0 ?_)
  refine fx_la 0 12 (v := 2) (by decide +kernel) rfl (by decide +kernel) ?_
  refine fx_gp 2 0 12 490 15 (by decide +kernel) ?_
  refine fx_la 0 16 (v := 2) (by decide +kernel) rfl (by decide +kernel) ?_
  refine fx_gp 2 0 2 66 19 (by decide +kernel) ?_
  refine fx_c2 66 21 22 0 [] (by decide +kernel) (by decide) (by decide) (by decide) rfl (by first | decide | omega) ?_
  refine sp_cpL_law_image (fK0 ?_)
  refine fx_la 0 23 (v := 2) (by decide +kernel) rfl (by decide +kernel) ?_
  refine fx_gp 2 0 13 554 26 (by decide +kernel) ?_
  refine fx_la 0 27 (v := 2) (by decide +kernel) rfl (by decide +kernel) ?_
  refine fx_gp 2 0 3 130 30 (by decide +kernel) ?_
  refine fx_c2 63 21 33 0 [] (by decide +kernel) (by decide) (by decide) (by decide) rfl (by first | decide | omega) ?_
  refine sp_cpT_table_image (fK0 ?_)
  refine fx_la 0 34 (v := 2) (by decide +kernel) rfl (by decide +kernel) ?_
  refine fx_ci (1) 35 (by decide +kernel) ?_
  refine fx_pb 2 0 15 38 (by decide +kernel) (by first | exact Or.inl rfl | exact Or.inr rfl | omega) ?_
  refine fx_vret (by decide +kernel) ?_
  refine kq _ (fun c j h1 h2 => ?_) ?_ (fun j h1 h2 => ?_) (fun i j h1 h2 => ?_)
  · rw [fu_ne (by omega), cpT_ne (by omega), cpL_ne (by omega), cpH_ne (by omega)]
  · rw [fu_eq]
  · rw [fu_nc (by decide), cpT_ne (by decide), cpL_ne (by decide), cpH_f h1 h2]
  · rw [fu_nc (by omega), cpT_ne (by omega), cpL_ne (by omega), cpH_a h1 h2 (by decide)]
theorem sp_cback (hk : g 0 15 = 0 ∨ g 0 15 = 1) (k0 : g 0 15 = 0 → Q 1 (fI 0) g) (k1 : g 0 15 = 1 → ∀ g', (∀ c j, ¬ (3 ≤ c ∧ c ≤ 16 + 5) → ¬ (c = 0 ∧ j = 16) → g' c j = g c j) → (∀ j, 4 ≤ j → j ≤ 9 → g' 3 j = g 56 j) → (∀ i j, 1 ≤ i → i ≤ 4 → g' (3 + i) j = g (56 + i) j) → Q 1 (fI 1) g') : fx W r 1 67 0 [2] [] g Q := by
  refine fx_la 0 1 (v := 2) (by decide +kernel) rfl (by decide +kernel) ?_
  refine fx_gi 2 0 15 4 (by decide +kernel) ?_
  refine fx_zne 9 7 (by decide +kernel) (by first | exact hg 0 15 (by decide) (by decide +kernel) (by decide +kernel) | (unfold fR; omega)) (fun h4 => ?_) (fun h4 => ?_)
  · refine fx_la 0 10 (v := 2) (by decide +kernel) rfl (by decide +kernel) ?_
    refine fx_gp 2 0 1 26 13 (by decide +kernel) ?_
    refine fx_la 0 14 (v := 2) (by decide +kernel) rfl (by decide +kernel) ?_
    refine fx_gp 2 0 11 450 17 (by decide +kernel) ?_
    refine fx_c2 65 21 20 0 [] (by decide +kernel) (by decide) (by decide) (by decide) rfl (by first | decide | omega) ?_
    refine sp_cpH_image_house (fK0 ?_)
    refine fx_la 0 21 (v := 2) (by decide +kernel) rfl (by decide +kernel) ?_
    refine fx_gp 2 0 2 66 24 (by decide +kernel) ?_
    refine fx_la 0 25 (v := 2) (by decide +kernel) rfl (by decide +kernel) ?_
    refine fx_gp 2 0 12 490 28 (by decide +kernel) ?_
    refine fx_c2 66 21 31 0 [] (by decide +kernel) (by decide) (by decide) (by decide) rfl (by first | decide | omega) ?_
    refine sp_cpL_image_law (fK0 ?_)
    refine fx_la 0 32 (v := 2) (by decide +kernel) rfl (by decide +kernel) ?_
    refine fx_gp 2 0 3 130 35 (by decide +kernel) ?_
    refine fx_la 0 36 (v := 2) (by decide +kernel) rfl (by decide +kernel) ?_
    refine fx_gp 2 0 13 554 39 (by decide +kernel) ?_
    refine fx_c2 63 21 42 0 [] (by decide +kernel) (by decide) (by decide) (by decide) rfl (by first | decide | omega) ?_
    refine sp_cpT_image_table (fK0 ?_)
    refine fx_la 0 43 (v := 2) (by decide +kernel) rfl (by decide +kernel) ?_
    refine fx_ci (0) 44 (by decide +kernel) ?_
    refine fx_pi 2 0 16 47 (by decide +kernel) (by unfold fR; omega) ?_
    refine fx_ci (1) 48 (by decide +kernel) ?_
    refine fx_retb (by decide +kernel) (by first | exact Or.inl rfl | exact Or.inr rfl | omega) ?_
    refine k1 (by omega) _ (fun c j h1 h2 => ?_) (fun j h1 h2 => ?_) (fun i j h1 h2 => ?_)
    · rw [fu_ne (by omega), cpT_ne (by omega), cpL_ne (by omega), cpH_ne (by omega)]
    · rw [fu_nc (by decide), cpT_ne (by decide), cpL_ne (by decide), cpH_f h1 h2]
    · rw [fu_nc (by omega), cpT_ne (by omega), cpL_ne (by omega), cpH_a h1 h2 (by decide)]
  · refine fx_ci (0) 8 (by decide +kernel) ?_
    refine fx_retb (by decide +kernel) (by first | exact Or.inl rfl | exact Or.inr rfl | omega) ?_
    exact k0 (by omega)
theorem sp_mimage_1 (kq : ∀ g', g' = fu (fcpn g 149 150 764) 148 3 1 → Q 0 0 g') : ∀ (n k : Nat), k + n = 764 → fx W r 0 408 7 [1186, fI (k : Int)] [] (fcpn g 149 150 k) Q
  | n, k, hn => by
    refine fx_rg (fun hg => ?_)
    refine fx_li 1 8 (by decide +kernel) rfl ?_
    refine fx_ci (764) 11 (by decide +kernel) ?_
    refine fx_ige 32 14 (by decide +kernel) (by unfold fR; omega) (by unfold fR; omega) (fun h11 => ?_) (fun h11 => ?_)
    · refine fx_la 0 33 (v := 1186) (by decide +kernel) rfl (by decide +kernel) ?_
      refine fx_ci (1) 34 (by decide +kernel) ?_
      refine fx_pb 1186 148 3 37 (by decide +kernel) (by first | exact Or.inl rfl | exact Or.inr rfl | omega) ?_
      refine fx_vret (by decide +kernel) ?_
      have e : k = 764 := by omega
      subst e
      exact kq _ rfl
    · refine fx_la 0 15 (v := 1186) (by decide +kernel) rfl (by decide +kernel) ?_
      refine fx_gp 1186 148 2 1202 18 (by decide +kernel) ?_
      refine fx_li 1 19 (by decide +kernel) rfl ?_
      refine fx_la 0 20 (v := 1186) (by decide +kernel) rfl (by decide +kernel) ?_
      refine fx_gp 1186 148 1 1194 23 (by decide +kernel) ?_
      refine fx_li 1 24 (by decide +kernel) rfl ?_
      refine fx_al 1194 149 764 25 (by decide +kernel) rfl (by omega) (by omega) rfl ?_
      have hv := hgA hg 764 (c := 149) (j := k) (by decide +kernel) (by omega)
      rw [show ((k : Int)).toNat = k from rfl]
      rw [fcpn_nc (by decide)] at hv ⊢
      unfold fR at hv
      refine fx_as 1202 150 764 26 (by decide +kernel) rfl (by omega) (by omega) rfl (by unfold fR; omega) ?_
      rw [show ((k : Int)).toNat = k from rfl, fcpn_s]
      refine fx_inc 1 29 (1) (by decide +kernel) rfl (Or.inr (f_n4p (v := 1186) rfl (by decide))) rfl ?_
      dsimp only [List.set]
      refine fx_go 7 (by decide +kernel) ?_
      match n, hn with
      | 0, hn => exfalso; omega
      | n + 1, hn => exact sp_mimage_1 kq n (k + 1) (by omega)
theorem sp_mimage (kq : ∀ g', (∀ c j, c ≠ 150 → ¬ (c = 148 ∧ (j = 0 ∨ j = 3)) → g' c j = g c j) → g' 148 3 = 1 → (∀ j, j < 764 → g' 150 j = g 149 j) → Q 0 0 g') : fx W r 0 408 0 [1186, 7] [] g Q := by
  refine fx_la 0 1 (v := 1186) (by decide +kernel) rfl (by decide +kernel) ?_
  refine fx_ci (0) 2 (by decide +kernel) ?_
  refine fx_pi 1186 148 0 5 (by decide +kernel) (by unfold fR; omega) ?_
  refine fx_ci (0) 6 (by decide +kernel) ?_
  refine fx_si 1 7 (by decide +kernel) (Or.inr (f_n4p (v := 1186) rfl (by decide))) rfl ?_
  dsimp only [List.set]
  have st := sp_mimage_1 (W := W) (r := r) (Q := Q) (g := fu g 148 0 0) ?_ 764 0 rfl
  · rw [fcpn_0] at st
    exact st
  · intro g' e
    subst e
    refine kq _ (fun c j h1 h2 => ?_) (fu_eq _ _ _ _) (fun j hj => ?_)
    · rw [fu_ne (by omega), fcpn_nc h1, fu_ne (by omega)]
    · rw [fu_nc (by decide)]
      have : fcpn (fu g 148 0 0) 149 150 764 150 j = fu g 148 0 0 149 j := if_pos ⟨rfl, hj⟩
      rw [this, fu_nc (by decide)]
theorem sp_mback_1 (kq : ∀ g', g' = fu (fcpn g 150 149 764) 148 6 0 → Q 1 (fI 1) g') : ∀ (n k : Nat), k + n = 764 → fx W r 0 409 16 [1186, fI (k : Int)] [] (fcpn g 150 149 k) Q
  | n, k, hn => by
    refine fx_rg (fun hg => ?_)
    refine fx_li 1 17 (by decide +kernel) rfl ?_
    refine fx_ci (764) 20 (by decide +kernel) ?_
    refine fx_ige 41 23 (by decide +kernel) (by unfold fR; omega) (by unfold fR; omega) (fun h20 => ?_) (fun h20 => ?_)
    · refine fx_la 0 42 (v := 1186) (by decide +kernel) rfl (by decide +kernel) ?_
      refine fx_ci (0) 43 (by decide +kernel) ?_
      refine fx_pi 1186 148 6 46 (by decide +kernel) (by unfold fR; omega) ?_
      refine fx_ci (1) 47 (by decide +kernel) ?_
      refine fx_retb (by decide +kernel) (by first | exact Or.inl rfl | exact Or.inr rfl | omega) ?_
      have e : k = 764 := by omega
      subst e
      exact kq _ rfl
    · refine fx_la 0 24 (v := 1186) (by decide +kernel) rfl (by decide +kernel) ?_
      refine fx_gp 1186 148 1 1194 27 (by decide +kernel) ?_
      refine fx_li 1 28 (by decide +kernel) rfl ?_
      refine fx_la 0 29 (v := 1186) (by decide +kernel) rfl (by decide +kernel) ?_
      refine fx_gp 1186 148 2 1202 32 (by decide +kernel) ?_
      refine fx_li 1 33 (by decide +kernel) rfl ?_
      refine fx_al 1202 150 764 34 (by decide +kernel) rfl (by omega) (by omega) rfl ?_
      have hv := hgA hg 764 (c := 150) (j := k) (by decide +kernel) (by omega)
      rw [show ((k : Int)).toNat = k from rfl]
      rw [fcpn_nc (by decide)] at hv ⊢
      unfold fR at hv
      refine fx_as 1194 149 764 35 (by decide +kernel) rfl (by omega) (by omega) rfl (by unfold fR; omega) ?_
      rw [show ((k : Int)).toNat = k from rfl, fcpn_s]
      refine fx_inc 1 38 (1) (by decide +kernel) rfl (Or.inr (f_n4p (v := 1186) rfl (by decide))) rfl ?_
      dsimp only [List.set]
      refine fx_go 16 (by decide +kernel) ?_
      match n, hn with
      | 0, hn => exfalso; omega
      | n + 1, hn => exact sp_mback_1 kq n (k + 1) (by omega)
theorem sp_mback (hk : g 148 3 = 0 ∨ g 148 3 = 1) (k0 : g 148 3 = 0 → Q 1 (fI 0) (fu g 148 0 0)) (k1 : g 148 3 = 1 → ∀ g', (∀ c j, c ≠ 149 → ¬ (c = 148 ∧ (j = 0 ∨ j = 6)) → g' c j = g c j) → g' 148 6 = 0 → (∀ j, j < 764 → g' 149 j = g 150 j) → Q 1 (fI 1) g') : fx W r 0 409 0 [1186, 7] [] g Q := by
  refine fx_la 0 1 (v := 1186) (by decide +kernel) rfl (by decide +kernel) ?_
  refine fx_ci (0) 2 (by decide +kernel) ?_
  refine fx_pi 1186 148 0 5 (by decide +kernel) (by unfold fR; omega) ?_
  refine fx_la 0 6 (v := 1186) (by decide +kernel) rfl (by decide +kernel) ?_
  refine fx_gi 1186 148 3 9 (by decide +kernel) ?_
  try simp only [fu_app, fcy_app, Nat.reduceEqDiff, and_true, and_false, false_and, true_and, if_true, if_false, ite_true, ite_false, reduceIte, Int.reduceToNat, fx_simp0]
  refine fx_zne 14 12 (by decide +kernel) (by unfold fR; omega) (fun h9 => ?_) (fun h9 => ?_)
  · refine fx_ci (0) 15 (by decide +kernel) ?_
    refine fx_si 1 16 (by decide +kernel) (Or.inr (f_n4p (v := 1186) rfl (by decide))) rfl ?_
    dsimp only [List.set]
    have st := sp_mback_1 (W := W) (r := r) (Q := Q) (g := fu g 148 0 0) ?_ 764 0 rfl
    · rw [fcpn_0] at st
      exact st
    · intro g' e
      subst e
      refine k1 (by omega) _ (fun c j h1 h2 => ?_) (fu_eq _ _ _ _) (fun j hj => ?_)
      · rw [fu_ne (by omega), fcpn_nc h1, fu_ne (by omega)]
      · rw [fu_nc (by decide)]
        have : fcpn (fu g 148 0 0) 150 149 764 149 j = fu g 148 0 0 150 j := if_pos ⟨rfl, hj⟩
        rw [this, fu_nc (by decide)]
  · refine fx_ci (0) 13 (by decide +kernel) ?_
    refine fx_retb (by decide +kernel) (by first | exact Or.inl rfl | exact Or.inr rfl | omega) ?_
    exact k0 (by omega)
end FYE
end
section
/-! fx: feed -/
noncomputable def fby (v : Int) (i : Nat) : Int := fop 3 (fop 8 v (24 - 8 * (i : Int))) 255
/-- n bytes behind L of them; their number at jl of cl -/
def ffd (g : Nat → Nat → Int) (cb cl jl L : Nat) (bs : Nat → Int) (n : Nat) : Nat → Nat → Int := fun c j => if c = cb ∧ L ≤ j ∧ j < L + n then bs (j - L) else if c = cl ∧ j = jl then (L + n : Nat) else g c j
theorem ffd_s {g : Nat → Nat → Int} {cb cl jl L n : Nat} {bs : Nat → Int} (h : cb ≠ cl) : fu (fu (ffd g cb cl jl L bs n) cb (L + n) (bs n)) cl jl ((L + n : Nat) + 1 : Int) = ffd g cb cl jl L bs (n + 1) := by
  funext c j
  unfold fu ffd
  by_cases h1 : c = cl ∧ j = jl
  · rw [if_pos h1, if_neg (fun t => h (t.1.symm.trans h1.1)), if_pos h1]
    omega
  · rw [if_neg h1, if_neg h1, if_neg h1]
    by_cases h2 : c = cb ∧ j = L + n
    · rw [if_pos h2, if_pos ⟨h2.1, by omega, by omega⟩, h2.2, show L + n - L = n by omega]
    · rw [if_neg h2]
      by_cases h3 : c = cb ∧ L ≤ j ∧ j < L + n
      · rw [if_pos h3, if_pos ⟨h3.1, by omega, by omega⟩]
      · rw [if_neg h3, if_neg (by omega)]
theorem ffd_l {g : Nat → Nat → Int} {cb cl jl L n : Nat} {bs : Nat → Int} (h : cb ≠ cl) : ffd g cb cl jl L bs n cl jl = (L + n : Nat) := by
  unfold ffd
  rw [if_neg (fun t => h t.1.symm), if_pos ⟨rfl, rfl⟩]
theorem ffd_ne {g : Nat → Nat → Int} {cb cl jl L n c j : Nat} {bs : Nat → Int} (h : c ≠ cb) (h2 : ¬ (c = cl ∧ j = jl)) : ffd g cb cl jl L bs n c j = g c j := by
  unfold ffd
  rw [if_neg (fun t => h t.1), if_neg h2]
theorem ffd_0 {g : Nat → Nat → Int} {cb cl jl L : Nat} {bs : Nat → Int} (h : g cl jl = (L : Nat)) : ffd g cb cl jl L bs 0 = g := by
  funext c j
  unfold ffd
  rw [if_neg (by omega)]
  by_cases h1 : c = cl ∧ j = jl
  · rw [if_pos h1, h1.1, h1.2, h]; rfl
  · rw [if_neg h1]
noncomputable def fbs (a b c d e : Int) (k : Nat) : Int := fby (if k < 4 then a else if k < 8 then b else if k < 12 then c else if k < 16 then d else e) (k % 4)
section FYF
variable {W : ax_W} {r : Nat} {g : Nat → Nat → Int} {Q : Nat → Nat → (Nat → Nat → Int) → Prop}
theorem sp_put_1 {v : Int} {L k : Nat} {bs : Nat → Int} (hv : fR v) (hL : L + k + 4 ≤ 400) (hb : ∀ i, i < 4 → bs (k + i) = fby v i) (kq : Q 0 0 (ffd g 2 1 1 L bs (k + 4))) : ∀ (n i : Nat), i + n = 4 → fx W r 0 15 3 [10, fI v, fI (24 - 8 * (i : Int))] [] (ffd g 2 1 1 L bs (k + i)) Q
  | n, i, hn => by
    have el : ffd g 2 1 1 L bs (k + i) 1 1 = ((L + (k + i) : Nat) : Int) := ffd_l (by decide)
    refine fx_li 2 4 (by decide +kernel) rfl ?_
    refine fx_zlt 49 7 (by decide +kernel) (by unfold fR; omega) (fun h4 => ?_) (fun h4 => ?_)
    · refine fx_vret (by decide +kernel) ?_
      have e : i = 4 := by omega
      subst e
      exact kq
    · refine fx_la 0 8 (v := 10) (by decide +kernel) rfl (by decide +kernel) ?_
      refine fx_gi 10 1 1 11 (by decide +kernel) ?_
      try simp only [fu_app, fcy_app, Nat.reduceEqDiff, and_true, and_false, false_and, true_and, if_true, if_false, ite_true, ite_false, reduceIte, Int.reduceToNat, fx_simp0]
      rw [el]
      refine fx_ci (400) 14 (by decide +kernel) ?_
      refine fx_ige 43 17 (by decide +kernel) (by unfold fR; omega) (by unfold fR; omega) (fun h14 => ?_) (fun h14 => ?_)
      · exfalso; omega
      · refine fx_la 0 18 (v := 10) (by decide +kernel) rfl (by decide +kernel) ?_
        refine fx_gp 10 1 0 18 21 (by decide +kernel) ?_
        refine fx_la 0 22 (v := 10) (by decide +kernel) rfl (by decide +kernel) ?_
        refine fx_gi 10 1 1 25 (by decide +kernel) ?_
        try simp only [fu_app, fcy_app, Nat.reduceEqDiff, and_true, and_false, false_and, true_and, if_true, if_false, ite_true, ite_false, reduceIte, Int.reduceToNat, fx_simp0]
        rw [el]
        refine fx_li 1 26 (by decide +kernel) rfl ?_
        refine fx_li 2 27 (by decide +kernel) rfl ?_
        refine fx_bin 8 28 (by decide +kernel) rfl (fun h => absurd h (by decide)) ?_
        refine fx_ci (255) 31 (by decide +kernel) ?_
        refine fx_bin 3 32 (by decide +kernel) rfl (fun h => absurd h (by decide)) ?_
        refine fx_as 18 2 400 33 (by decide +kernel) rfl (by omega) (by omega) rfl (by first | exact fop_R _ _ _ | (unfold fR; omega)) ?_
        refine fx_la 0 34 (v := 10) (by decide +kernel) rfl (by decide +kernel) ?_
        refine fx_dup 35 (by decide +kernel) rfl (by decide) ?_
        refine fx_gi 10 1 1 38 (by decide +kernel) ?_
        try simp only [fu_app, fcy_app, Nat.reduceEqDiff, and_true, and_false, false_and, true_and, if_true, if_false, ite_true, ite_false, reduceIte, Int.reduceToNat, fx_simp0]
        rw [el]
        refine fx_ci (1) 39 (by decide +kernel) ?_
        refine fx_add 40 (by decide +kernel) rfl ?_
        refine fx_pi 10 1 1 43 (by decide +kernel) (by unfold fR; omega) ?_
        rw [show fop 3 (fop 8 v (24 - 8 * (i : Int))) 255 = bs (k + i) from (hb i (by omega)).symm, show (((L + (k + i) : Nat) : Int)).toNat = L + (k + i) from rfl, ffd_s (by decide)]
        refine fx_inc 2 46 (-8) (by decide +kernel) rfl (Or.inr (fI_n4 _)) rfl ?_
        dsimp only [List.set]
        refine fx_go 3 (by decide +kernel) ?_
        match n, hn with
        | 0, hn => exfalso; omega
        | n + 1, hn =>
          rw [show 24 - 8 * (i : Int) + -8 = 24 - 8 * ((i + 1 : Nat) : Int) by omega]
          exact sp_put_1 hv hL hb kq n (i + 1) (by omega)
theorem sp_tput {v : Int} {L k : Nat} {bs : Nat → Int} (hv : fR v) (hL : L + k + 4 ≤ 400) (hb : ∀ i, i < 4 → bs (k + i) = fby v i) (kq : Q 0 0 (ffd g 2 1 1 L bs (k + 4))) : fx W r 0 15 0 [10, fI v, 7] [] (ffd g 2 1 1 L bs k) Q := by
  refine fx_ci (24) 2 (by decide +kernel) ?_
  refine fx_si 2 3 (by decide +kernel) (Or.inr (fI_n4 _)) rfl ?_
  dsimp only [List.set]
  exact sp_put_1 hv hL hb kq 4 0 rfl
theorem sp_cfeed {a b c d e : Int} {L : Nat} (ra : fR a) (rb : fR b) (rc : fR c) (rd : fR d) (re : fR e) (hl : g 1 1 = (L : Nat)) (hL : L ≤ 400) (k0 : 400 < L + 20 → ∀ v, v % 8 ≠ 4 → Q 1 v g) (k1 : L + 20 ≤ 400 → ∀ v, v % 8 ≠ 4 → Q 1 v (ffd g 2 1 1 L (fbs a b c d e) 20)) : fx W r 1 14 0 [2, fI a, fI b, fI c, fI d, fI e] [] g Q := by
  refine fx_rg (fun hg => ?_)
  refine fx_la 0 1 (v := 2) (by decide +kernel) rfl (by decide +kernel) ?_
  refine fx_gp 2 0 0 10 4 (by decide +kernel) ?_
  refine fx_gi 10 1 1 7 (by decide +kernel) ?_
  rw [hl]
  refine fx_ci (20) 9 (by decide +kernel) ?_
  refine fx_add 10 (by decide +kernel) rfl ?_
  refine fx_ci (400) 13 (by decide +kernel) ?_
  refine fx_ile 18 16 (by decide +kernel) (by unfold fR; omega) (by unfold fR; omega) (fun h13 => ?_) (fun h13 => ?_)
  · rw [← ffd_0 (cb := 2) (bs := fbs a b c d e) hl]
    refine fx_la 0 19 (v := 2) (by decide +kernel) rfl (by decide +kernel) ?_
    refine fx_gp 2 0 0 10 22 (by decide +kernel) ?_
    refine fx_li 1 23 (by decide +kernel) rfl ?_
    refine fx_c2 15 21 26 0 [7] (by decide +kernel) (by decide) (by decide) (fI_n4 _) rfl (by first | decide | omega) ?_
    refine sp_tput (k := 0) ra (by omega) (fun i hi => by unfold fbs; rw [if_pos (by omega), show (0 + i) % 4 = i by omega]) (fK0 ?_)
    refine fx_la 0 27 (v := 2) (by decide +kernel) rfl (by decide +kernel) ?_
    refine fx_gp 2 0 0 10 30 (by decide +kernel) ?_
    refine fx_li 2 31 (by decide +kernel) rfl ?_
    refine fx_c2 15 21 34 0 [7] (by decide +kernel) (by decide) (by decide) (fI_n4 _) rfl (by first | decide | omega) ?_
    refine sp_tput (k := 4) rb (by omega) (fun i hi => by unfold fbs; rw [if_neg (by omega), if_pos (by omega), show (4 + i) % 4 = i by omega]) (fK0 ?_)
    refine fx_la 0 35 (v := 2) (by decide +kernel) rfl (by decide +kernel) ?_
    refine fx_gp 2 0 0 10 38 (by decide +kernel) ?_
    refine fx_li 3 39 (by decide +kernel) rfl ?_
    refine fx_c2 15 21 42 0 [7] (by decide +kernel) (by decide) (by decide) (fI_n4 _) rfl (by first | decide | omega) ?_
    refine sp_tput (k := 8) rc (by omega) (fun i hi => by unfold fbs; rw [if_neg (by omega), if_neg (by omega), if_pos (by omega), show (8 + i) % 4 = i by omega]) (fK0 ?_)
    refine fx_la 0 43 (v := 2) (by decide +kernel) rfl (by decide +kernel) ?_
    refine fx_gp 2 0 0 10 46 (by decide +kernel) ?_
    refine fx_li 4 48 (by decide +kernel) rfl ?_
    refine fx_c2 15 21 51 0 [7] (by decide +kernel) (by decide) (by decide) (fI_n4 _) rfl (by first | decide | omega) ?_
    refine sp_tput (k := 12) rd (by omega) (fun i hi => by unfold fbs; rw [if_neg (by omega), if_neg (by omega), if_neg (by omega), if_pos (by omega), show (12 + i) % 4 = i by omega]) (fK0 ?_)
    refine fx_la 0 52 (v := 2) (by decide +kernel) rfl (by decide +kernel) ?_
    refine fx_gp 2 0 0 10 55 (by decide +kernel) ?_
    refine fx_li 5 57 (by decide +kernel) rfl ?_
    refine fx_c2 15 21 60 0 [7] (by decide +kernel) (by decide) (by decide) (fI_n4 _) rfl (by first | decide | omega) ?_
    refine sp_tput (k := 16) re (by omega) (fun i hi => by unfold fbs; rw [if_neg (by omega), if_neg (by omega), if_neg (by omega), if_neg (by omega), show (16 + i) % 4 = i by omega]) (fK0 ?_)
    refine fx_la 0 61 (v := 2) (by decide +kernel) rfl (by decide +kernel) ?_
    refine fx_gp 2 0 0 10 64 (by decide +kernel) ?_
    refine fx_gi 10 1 1 67 (by decide +kernel) ?_
    try simp only [fu_app, fcy_app, Nat.reduceEqDiff, and_true, and_false, false_and, true_and, if_true, if_false, ite_true, ite_false, reduceIte, Int.reduceToNat, fx_simp0]
    refine fx_ret (by decide +kernel) ?_
    exact k1 (by omega) _ (fI_n4 _)
  · refine fx_ci (-1) 17 (by decide +kernel) ?_
    refine fx_ret (by decide +kernel) ?_
    exact k0 (by omega) _ (fI_n4 _)
theorem fop_rem4 : ∀ k : Nat, k < 20 → fop 10 (k : Int) 4 = ((k % 4 : Nat) : Int) := by decide +kernel
theorem sp_mfeed_1 {a b c d e : Int} {L : Nat} {x7 : Int} (ra : fR a) (rb : fR b) (rc : fR c) (rd : fR d) (re : fR e) (hL : L + 20 ≤ 400) (kq : ∀ v, v % 8 ≠ 4 → Q 1 v (ffd g 153 148 8 L (fbs a b c d e) 20)) : ∀ (n k : Nat) (l7 : Nat), k + n = 20 → l7 % 8 ≠ 4 → fx W r 0 263 23 [1186, fI a, fI b, fI c, fI d, fI e, fI (k : Int), l7] [] (ffd g 153 148 8 L (fbs a b c d e) k) Q
  | n, k, l7, hn, h7 => by
    have el : ffd g 153 148 8 L (fbs a b c d e) k 148 8 = ((L + k : Nat) : Int) := ffd_l (by decide)
    have tail : ∀ v, k < 20 → (if k < 4 then a else if k < 8 then b else if k < 12 then c else if k < 16 then d else e) = v → fx W r 0 263 78 [1186, fI a, fI b, fI c, fI d, fI e, fI (k : Int), fI v] [] (ffd g 153 148 8 L (fbs a b c d e) k) Q := by
      intro v hk hv
      refine fx_la 0 79 (v := 1186) (by decide +kernel) rfl (by decide +kernel) ?_
      refine fx_gp 1186 148 7 1226 82 (by decide +kernel) ?_
      refine fx_la 0 83 (v := 1186) (by decide +kernel) rfl (by decide +kernel) ?_
      refine fx_gi 1186 148 8 86 (by decide +kernel) ?_
      try simp only [fu_app, fcy_app, Nat.reduceEqDiff, and_true, and_false, false_and, true_and, if_true, if_false, ite_true, ite_false, reduceIte, Int.reduceToNat, fx_simp0]
      rw [el]
      refine fx_li 7 88 (by decide +kernel) rfl ?_
      refine fx_ci (24) 90 (by decide +kernel) ?_
      refine fx_ci (8) 92 (by decide +kernel) ?_
      refine fx_li 6 94 (by decide +kernel) rfl ?_
      refine fx_ci (4) 95 (by decide +kernel) ?_
      refine fx_bin 10 96 (by decide +kernel) rfl (fun _ => by decide) ?_
      refine fx_mul 97 (by decide +kernel) rfl ?_
      refine fx_sub 98 (by decide +kernel) rfl ?_
      refine fx_bin 8 99 (by decide +kernel) rfl (fun h => absurd h (by decide)) ?_
      refine fx_ci (255) 102 (by decide +kernel) ?_
      refine fx_bin 3 103 (by decide +kernel) rfl (fun h => absurd h (by decide)) ?_
      rw [fop_rem4 k hk, show fop 3 (fop 8 v (24 - 8 * ((k % 4 : Nat) : Int))) 255 = fbs a b c d e k from by unfold fbs; rw [hv]; rfl]
      have hR : fR (fbs a b c d e k) := fop_R _ _ _
      unfold fR at hR
      refine fx_as 1226 153 400 104 (by decide +kernel) rfl (by omega) (by omega) rfl (by first | exact fop_R _ _ _ | (unfold fR; omega)) ?_
      refine fx_la 0 105 (v := 1186) (by decide +kernel) rfl (by decide +kernel) ?_
      refine fx_dup 106 (by decide +kernel) rfl (by decide) ?_
      refine fx_gi 1186 148 8 109 (by decide +kernel) ?_
      try simp only [fu_app, fcy_app, Nat.reduceEqDiff, and_true, and_false, false_and, true_and, if_true, if_false, ite_true, ite_false, reduceIte, Int.reduceToNat, fx_simp0]
      rw [el]
      refine fx_ci (1) 110 (by decide +kernel) ?_
      refine fx_add 111 (by decide +kernel) rfl ?_
      refine fx_pi 1186 148 8 114 (by decide +kernel) (by unfold fR; omega) ?_
      rw [show (((L + k : Nat) : Int)).toNat = L + k from rfl, ffd_s (by decide)]
      refine fx_inc 6 117 (1) (by decide +kernel) rfl (Or.inr (fI_n4 _)) rfl ?_
      dsimp only [List.set]
      refine fx_go 23 (by decide +kernel) ?_
      match n, hn with
      | 0, hn => exfalso; omega
      | n + 1, hn => exact sp_mfeed_1 (x7 := x7) ra rb rc rd re hL kq n (k + 1) _ (by omega) (fI_n4 _)
    refine fx_li 6 25 (by decide +kernel) rfl ?_
    refine fx_ci (20) 27 (by decide +kernel) ?_
    refine fx_ige 120 30 (by decide +kernel) (by unfold fR; omega) (by unfold fR; omega) (fun h27 => ?_) (fun h27 => ?_)
    · refine fx_la 0 121 (v := 1186) (by decide +kernel) rfl (by decide +kernel) ?_
      refine fx_gi 1186 148 8 124 (by decide +kernel) ?_
      rw [el]
      refine fx_ret (by decide +kernel) ?_
      have e : k = 20 := by omega
      subst e
      exact kq _ (fI_n4 _)
    · refine fx_li 6 32 (by decide +kernel) rfl ?_
      refine fx_ci (4) 33 (by decide +kernel) ?_
      refine fx_ige 40 36 (by decide +kernel) (by unfold fR; omega) (by unfold fR; omega) (fun h33 => ?_) (fun h33 => ?_)
      · refine fx_li 6 42 (by decide +kernel) rfl ?_
        refine fx_ci (8) 44 (by decide +kernel) ?_
        refine fx_ige 51 47 (by decide +kernel) (by unfold fR; omega) (by unfold fR; omega) (fun h44 => ?_) (fun h44 => ?_)
        · refine fx_li 6 53 (by decide +kernel) rfl ?_
          refine fx_ci (12) 55 (by decide +kernel) ?_
          refine fx_ige 62 58 (by decide +kernel) (by unfold fR; omega) (by unfold fR; omega) (fun h55 => ?_) (fun h55 => ?_)
          · refine fx_li 6 64 (by decide +kernel) rfl ?_
            refine fx_ci (16) 66 (by decide +kernel) ?_
            refine fx_ige 74 69 (by decide +kernel) (by unfold fR; omega) (by unfold fR; omega) (fun h66 => ?_) (fun h66 => ?_)
            · refine fx_li 5 76 (by decide +kernel) rfl ?_
              refine fx_si 7 78 (by decide +kernel) (Or.inr (fI_n4 _)) rfl ?_
              dsimp only [List.set]
              exact tail e (by omega) (by rw [if_neg (by omega), if_neg (by omega), if_neg (by omega), if_neg (by omega)])
            · refine fx_li 4 71 (by decide +kernel) rfl ?_
              refine fx_go 76 (by decide +kernel) ?_
              refine fx_si 7 78 (by decide +kernel) (Or.inr (fI_n4 _)) rfl ?_
              dsimp only [List.set]
              exact tail d (by omega) (by rw [if_neg (by omega), if_neg (by omega), if_neg (by omega), if_pos (by omega)])
          · refine fx_li 3 59 (by decide +kernel) rfl ?_
            refine fx_go 76 (by decide +kernel) ?_
            refine fx_si 7 78 (by decide +kernel) (Or.inr (fI_n4 _)) rfl ?_
            dsimp only [List.set]
            exact tail c (by omega) (by rw [if_neg (by omega), if_neg (by omega), if_pos (by omega)])
        · refine fx_li 2 48 (by decide +kernel) rfl ?_
          refine fx_go 76 (by decide +kernel) ?_
          refine fx_si 7 78 (by decide +kernel) (Or.inr (fI_n4 _)) rfl ?_
          dsimp only [List.set]
          exact tail b (by omega) (by rw [if_neg (by omega), if_pos (by omega)])
      · refine fx_li 1 37 (by decide +kernel) rfl ?_
        refine fx_go 76 (by decide +kernel) ?_
        refine fx_si 7 78 (by decide +kernel) (Or.inr (fI_n4 _)) rfl ?_
        dsimp only [List.set]
        exact tail a (by omega) (by rw [if_pos (by omega)])
theorem sp_mfeed {a b c d e : Int} {L : Nat} (ra : fR a) (rb : fR b) (rc : fR c) (rd : fR d) (re : fR e) (hl : g 148 8 = (L : Nat)) (hL : L ≤ 400) (k0 : 400 < L + 20 → ∀ v, v % 8 ≠ 4 → Q 1 v (fu g 148 0 0)) (k1 : L + 20 ≤ 400 → ∀ v, v % 8 ≠ 4 → Q 1 v (ffd (fu g 148 0 0) 153 148 8 L (fbs a b c d e) 20)) : fx W r 0 263 0 [1186, fI a, fI b, fI c, fI d, fI e, 7, 7] [] g Q := by
  refine fx_rg (fun hg => ?_)
  refine fx_la 0 1 (v := 1186) (by decide +kernel) rfl (by decide +kernel) ?_
  refine fx_ci (0) 2 (by decide +kernel) ?_
  refine fx_pi 1186 148 0 5 (by decide +kernel) (by unfold fR; omega) ?_
  refine fx_la 0 6 (v := 1186) (by decide +kernel) rfl (by decide +kernel) ?_
  refine fx_gi 1186 148 8 9 (by decide +kernel) ?_
  try simp only [fu_app, fcy_app, Nat.reduceEqDiff, and_true, and_false, false_and, true_and, if_true, if_false, ite_true, ite_false, reduceIte, Int.reduceToNat, fx_simp0]
  rw [hl]
  refine fx_ci (20) 11 (by decide +kernel) ?_
  refine fx_add 12 (by decide +kernel) rfl ?_
  refine fx_ci (400) 15 (by decide +kernel) ?_
  refine fx_ile 20 18 (by decide +kernel) (by unfold fR; omega) (by unfold fR; omega) (fun h15 => ?_) (fun h15 => ?_)
  · refine fx_ci (0) 21 (by decide +kernel) ?_
    refine fx_si 6 23 (by decide +kernel) (Or.inr (fI_n4 _)) rfl ?_
    dsimp only [List.set]
    have st := sp_mfeed_1 (W := W) (r := r) (x7 := 0) ra rb rc rd re (by omega) (k1 (by omega)) 20 0 7 rfl (by decide)
    rw [ffd_0 (by rw [fu_nj (by decide)]; exact hl)] at st
    exact st
  · refine fx_ci (-1) 19 (by decide +kernel) ?_
    refine fx_ret (by decide +kernel) ?_
    exact k0 (by omega) _ (fI_n4 _)
end FYF
end
section
/-! fx: from walks to contracts -/
theorem fI_inj {y z : Int} (hy : fR y) (hz : fR z) (h : fI y = fI z) : y = z := by
  unfold fI at h
  unfold fR at hy hz
  omega
theorem fI_pos {z : Int} (h0 : 0 ≤ z) (h1 : z < 4294967296) : fI z = 8 * z.toNat := by
  unfold fI
  omega
theorem HV_a {h : sx_H} {g : Nat → Nat → Int} (q : HV h g) {c : Nat} (len : Nat) (hk : f_al c len = true) {j : Nat} (hj : j < len) : sx_get (sx_rd h c).2 j = fI (g c j) ∧ fR (g c j) := by
  obtain ⟨q1, q2⟩ := f_and hk
  obtain ⟨q2, q3⟩ := f_and q2
  have q3 : (ax_cl c).1 / 256 = len := sx_beq q3
  have i := (f_okp (j := j) (sx_blt q1) (sx_beq q2)).1
  obtain ⟨e1, e2, -⟩ := q.2 c j (sx_blt q1) (by omega)
  refine ⟨?_, e2 i⟩
  rw [e1]
  unfold fEnc
  rw [if_pos i]
theorem HV_f {h : sx_H} {g : Nat → Nat → Int} (q : HV h g) (c j : Nat) (hk : (Nat.blt c 160 && (Nat.blt j (Nat.div (ax_cl c).1 256) && fInt c j)) = true) : sx_get (sx_rd h c).2 j = fI (g c j) ∧ fR (g c j) := by
  obtain ⟨q1, q2⟩ := f_and hk
  obtain ⟨q2, q3⟩ := f_and q2
  obtain ⟨e1, e2, -⟩ := q.2 c j (sx_blt q1) (sx_blt q2)
  refine ⟨?_, e2 q3⟩
  rw [e1]
  unfold fEnc
  rw [if_pos q3]
theorem fI_eq_iff {y z : Int} (hy : fR y) (hz : fR z) : fI y = fI z ↔ y = z := ⟨fI_inj hy hz, fun e => by rw [e]⟩
theorem gxh_iff {h : sx_H} {g : Nat → Nat → Int} (q : HV h g) {a b : Nat} (ab : (a = 3 ∧ b = 149) ∨ (a = 56 ∧ b = 150)) (hd0 : 0 ≤ g a 5) (hd1 : g a 5 ≤ 6) : gx_h h a b ↔ gxh g a b := by
  have F : ∀ j, 4 ≤ j → j ≤ 6 → sx_get (sx_rd h a).2 j = fI (g a j) ∧ fR (g a j) := fun j h1 h2 => by
    rcases ab with ⟨rfl, -⟩ | ⟨rfl, -⟩ <;> rcases (by omega : j = 4 ∨ j = 5 ∨ j = 6) with rfl | rfl | rfl <;> exact HV_f q _ _ (by decide +kernel)
  have M : ∀ j, j < 764 → sx_get (sx_rd h b).2 j = fI (g b j) ∧ fR (g b j) := fun j hj => by
    rcases ab with ⟨-, rfl⟩ | ⟨-, rfl⟩ <;> exact HV_a q 764 (by decide +kernel) hj
  have E1 : ∀ j, j < 48 → sx_get (sx_rd h (a + 3)).2 j = fI (g (a + 3) j) ∧ fR (g (a + 3) j) := fun j hj => by
    rcases ab with ⟨rfl, -⟩ | ⟨rfl, -⟩ <;> exact HV_a q 48 (by decide +kernel) hj
  have E2 : ∀ j, j < 8 → sx_get (sx_rd h (a + 4)).2 j = fI (g (a + 4) j) ∧ fR (g (a + 4) j) := fun j hj => by
    rcases ab with ⟨rfl, -⟩ | ⟨rfl, -⟩ <;> exact HV_a q 8 (by decide +kernel) hj
  have f4 := F 4 (by decide) (by decide)
  have f5 := F 5 (by decide) (by decide)
  have f6 := F 6 (by decide) (by decide)
  have m0 := M 0 (by decide)
  have m3 := M 3 (by decide)
  have m4 := M 4 (by decide)
  have e5 := fI_pos hd0 (by omega)
  have e6 : fI (g a 6) ≤ 96 ↔ 0 ≤ g a 6 ∧ g a 6 ≤ 12 := by
    have t := f6.2
    unfold fR at t
    unfold fI
    omega
  unfold gx_h gxh
  rw [f4.1, f5.1, f6.1, m0.1, m3.1, m4.1, fI_eq_iff f4.2 m3.2, fI_eq_iff f5.2 m4.2, fI_eq_iff f6.2 m0.2, e5]
  constructor
  · rintro ⟨k1, k2, k3, k4, k5, k6⟩
    refine ⟨k1, k2, k3, fun j j1 j2 => ?_, fun j j1 => ?_, e6.mp k6⟩
    · have := k4 j j1 (by omega)
      rw [(E1 j j1).1, (M _ (by omega)).1] at this
      exact fI_inj (E1 j j1).2 (M _ (by omega)).2 this
    · have := k5 j j1
      rw [(E2 j j1).1, (M _ (by omega)).1] at this
      exact fI_inj (E2 j j1).2 (M _ (by omega)).2 this
  · rintro ⟨k1, k2, k3, k4, k5, k6⟩
    refine ⟨k1, k2, k3, fun j j1 j2 => ?_, fun j j1 => ?_, e6.mpr k6⟩
    · rw [(E1 j j1).1, (M _ (by omega)).1, k4 j j1 (by omega)]
    · rw [(E2 j j1).1, (M _ (by omega)).1, k5 j j1]
/-- bounds of what is kept -/
def gxb (g : Nat → Nat → Int) : Prop := 0 ≤ g 3 5 ∧ g 3 5 ≤ 6 ∧ 0 ≤ g 56 5 ∧ g 56 5 ≤ 6 ∧ 0 ≤ g 148 6 ∧ g 148 6 ≤ 12
theorem gx_iff {h : sx_H} {g : Nat → Nat → Int} (q : HV h g) (b : gxb g) : gx h ↔ gxg g := by
  obtain ⟨b1, b2, b3, b4, b5, b6⟩ := b
  have A := HV_f q 148 6 (by decide +kernel)
  have eA := fI_pos b5 (by omega)
  have t1 : ∀ j, j < 400 → sx_get (sx_rd h 2).2 j = fI (g 2 j) ∧ fR (g 2 j) := fun j hj => HV_a q 400 (by decide +kernel) hj
  have t2 : ∀ j, j < 400 → sx_get (sx_rd h 153).2 j = fI (g 153 j) ∧ fR (g 153 j) := fun j hj => HV_a q 400 (by decide +kernel) hj
  have t3 : ∀ j, j < 764 → sx_get (sx_rd h 149).2 j = fI (g 149 j) ∧ fR (g 149 j) := fun j hj => HV_a q 764 (by decide +kernel) hj
  have t4 : ∀ j, j < 4368 → sx_get (sx_rd h 152).2 j = fI (g 152 j) ∧ fR (g 152 j) := fun j hj => HV_a q 4368 (by decide +kernel) hj
  have kP : ∀ k, gx_P k → k < 364 := fun k hk => by unfold gx_P at hk; omega
  unfold gx gxg gxa
  rw [gxh_iff q (Or.inl ⟨rfl, rfl⟩) b1 b2, gxh_iff q (Or.inr ⟨rfl, rfl⟩) b3 b4, A.1, eA]
  constructor
  · rintro ⟨k1, k2, k3, k4⟩
    refine ⟨fun j hj => ?_, k2, k3, fun r k h1 h2 h3 => ?_⟩
    · have := k1 j hj
      rw [(t1 j hj).1, (t2 j hj).1] at this
      exact fI_inj (t1 j hj).2 (t2 j hj).2 this
    · have := kP k h3
      have e := k4 r k (by omega) h2 h3
      rw [(t4 _ (by omega)).1, (t3 _ (by omega)).1] at e
      exact fI_inj (t4 _ (by omega)).2 (t3 _ (by omega)).2 e
  · rintro ⟨k1, k2, k3, k4⟩
    refine ⟨fun j hj => ?_, k2, k3, fun r k h1 h2 h3 => ?_⟩
    · rw [(t1 j hj).1, (t2 j hj).1, k1 j hj]
    · have := kP k h3
      rw [(t4 _ (by omega)).1, (t3 _ (by omega)).1, k4 r k (by omega) h2 h3]
/-- an int place within its bounds -/
theorem Hs_b {h : sx_H} {g : Nat → Nat → Int} (q : ax_Hs h) (v : HV h g) (c j : Nat) (lo hi : Int) (hk : (Nat.blt c 160 && (Nat.blt j (Nat.div (ax_cl c).1 256) && fInt c j)) = true) (s : ax_S) (hs : ax_sg (ax_cl c).2.2 (j % (ax_cl c).2.1) (j % (ax_cl c).2.1) = some s) (h0 : s.2.1 = 0) (hl : lo + 2147483648 = s.2.2.1) (hh : hi + 2147483648 = s.2.2.2.1) : lo ≤ g c j ∧ g c j ≤ hi := by
  obtain ⟨e1, e2⟩ := HV_f v c j hk
  obtain ⟨q1, q2⟩ := f_and hk
  obtain ⟨q2, -⟩ := f_and q2
  obtain ⟨s', e3, e4⟩ := q.pk c j (sx_blt q1) (sx_blt q2)
  rw [hs] at e3
  cases e3
  rcases e4 with ⟨-, P, k1, k2, k3⟩ | ⟨k, -⟩ | ⟨k, -⟩ | ⟨k, -⟩ | ⟨k, -⟩
  · rw [e1, fI_eq] at k1
    have e : Int32.ofInt (g c j) = P := by
      have t1 := (sx_i_ok (Int32.ofInt (g c j))).2
      rw [k1, (sx_i_ok P).2] at t1
      exact t1.symm
    have eb := fI_b e2
    rw [e] at eb
    omega
  · omega
  · omega
  · omega
  · omega
theorem Hs_gxb {h : sx_H} {g : Nat → Nat → Int} (q : ax_Hs h) (v : HV h g) : gxb g := by
  obtain ⟨a1, a2⟩ := Hs_b q v 3 5 0 6 (by decide +kernel) (6, 0, 2147483648, 2147483654, 0, 0) (by decide +kernel) rfl rfl rfl
  obtain ⟨a3, a4⟩ := Hs_b q v 56 5 0 6 (by decide +kernel) (6, 0, 2147483648, 2147483654, 0, 0) (by decide +kernel) rfl rfl rfl
  obtain ⟨a5, a6⟩ := Hs_b q v 148 6 0 12 (by decide +kernel) (7, 0, 2147483648, 2147483660, 0, 0) (by decide +kernel) rfl rfl rfl
  exact ⟨a1, a2, a3, a4, a5, a6⟩
theorem cx_uniq {W : ax_W} {D mi cd pc : Nat} {L S : List Nat} {h : sx_H} {cs ss : Nat} {o o' : sx_O} (h1 : cx_Ev W D mi cd pc L S h cs ss o) (h2 : cx_Ev W D mi cd pc L S h cs ss o') : o = o' := by
  obtain ⟨f1, e1⟩ := h1
  obtain ⟨f2, e2⟩ := h2
  have a := e1 (f1 + f2) (by omega)
  have b := e2 (f1 + f2) (by omega)
  rw [a] at b
  cases b
  rfl
theorem ax_len32 : ∀ c, c < 160 → ax_ar c = false → (ax_cl c).1 / 256 ≤ 32 := by decide +kernel
theorem ax_As2 {p : Nat} {cav : List Nat} (h : ax_As [(0, p, 0)] cav) (hp : 2 ≤ p % 8 ∧ p % 8 ≤ 6) : cav = [p] := by
  match cav, h with
  | [v], h =>
    obtain ⟨h1, -⟩ := h
    rcases h1 with ⟨-, ρ, hv⟩ | ⟨q, -⟩ | ⟨q, -⟩
    · rw [(hv.toRef hp.1 hp.2).2]
    · exact absurd rfl q
    · exact absurd rfl q
  | [], h => exact h.elim
  | _ :: _ :: _, h => exact h.2.elim
end
section
/-! fx: calls by contract alone -/
/-- the cells are as ax wants them -/
def gHs (g : Nat → Nat → Int) : Prop := ∀ h, HV h g → ax_Hs h
theorem gHs_of {h : sx_H} {g : Nat → Nat → Int} (q : ax_Hs h) (v : HV h g) : gHs g := fun h' v' => by
  refine ⟨v'.1, fun c j hc hj => ?_⟩
  have e : sx_get (sx_rd h' c).2 j = sx_get (sx_rd h c).2 j := by rw [(v'.2 c j hc hj).1, (v.2 c j hc hj).1]
  rw [e]
  exact q.pk c j hc hj
/-- what isn't named in md is as before -/
def gFr (md : Nat) (g g' : Nat → Nat → Int) : Prop := ∀ c j, c < 160 → j < (ax_cl c).1 / 256 → fInt c j = true → ax_tb md (ax_bit (ax_ar c) c j) = false → g' c j = g c j
theorem fx_val {W : ax_W} {c : ax_C} {r d : Nat} {cav Lj : List Nat} {g : Nat → Nat → Int} {Q : Nat → Nat → (Nat → Nat → Int) → Prop} (hv : ax_Valid W.N W.sy c) (hg : gHs g) (ha : ax_As c.2.2.1 cav) (hp : c.2.2.2.1 = []) (hx : sx_xp cav (sx_im (sx_mt c.1).2) = some Lj) (hr : 1 ≤ r) (hd : c.2.1 ≤ d) (ht : ∀ t ∈ c.2.2.2.2.2.2, t.1 < 2)
    (kq : ∀ t ∈ c.2.2.2.2.2.2, ∀ k v g', k = t.1 → gHs g' → gFr c.2.2.2.2.1 g g' → (t.2.1 = 1 → ∃ z, v = fI z ∧ fR z ∧ (t.2.2.1 : Int) ≤ z + 2147483648 ∧ z + 2147483648 ≤ (t.2.2.2.1 : Int)) → Q k v g') : fx W r d c.1 0 Lj [] g Q := fun D h cs ss hD v h1 h2 => by
  obtain ⟨co, ev, a1, a2, t, a3, E1, E2, E3, E4, E5, E6, E7, E8, E9, E10⟩ := hv D cav h cs ss Lj (by omega) ha (by rw [hp]; intro q hq; cases hq) (hg h v) (by omega) (by omega) hx
  have tl := ht t a3
  have v' := HV_of E8
  refine ⟨co, ev, a1, a2, fG co.2.2.1, v', kq t a3 co.1 co.2.1 _ (by rw [E1]; omega) (gHs_of E8 v') (fun c' j hc hj hi hb => ?_) (fun e => ?_), fun _ => ⟨by omega, by omega⟩, fun q => by omega⟩
  · have e := E9.1 c' j hc hj hb
    rw [(v'.2 c' j hc hj).1, (v.2 c' j hc hj).1] at e
    unfold fEnc at e
    rw [if_pos hi, if_pos hi] at e
    exact fI_inj ((v'.2 c' j hc hj).2.1 hi) ((v.2 c' j hc hj).2.1 hi) e
  · obtain ⟨P, p1, p2, p3, -⟩ := E2 e
    refine ⟨P.toInt, by rw [p1]; exact fI_of_toBv P, ⟨by have := Int32.le_toInt P; omega, by have := Int32.toInt_lt P; omega⟩, ?_, ?_⟩
    · have : (sx_b P : Int) = P.toInt + 2147483648 := by
        have := Int32.le_toInt P
        unfold sx_b
        omega
      omega
    · have : (sx_b P : Int) = P.toInt + 2147483648 := by
        have := Int32.le_toInt P
        unfold sx_b
        omega
      omega
end
section
/-! fx: longs, the script, calls with handlers -/
def fJ (z : Int) : Nat := sx_j (Int32.ofInt z).toInt64
theorem fJ_ok (z : Int) : fJ z % 8 = 4 ∧ fJ z < 4722366482869645213696 := by
  have h := (Int32.ofInt z).toInt64.toBitVec.isLt
  show (8 * (Int32.ofInt z).toInt64.toBitVec.toNat + 4) % 8 = 4 ∧ 8 * (Int32.ofInt z).toInt64.toBitVec.toNat + 4 < 4722366482869645213696
  omega
section FYI
variable {W : ax_W} {r d mi pc : Nat} {L S rest : List Nat} {g : Nat → Nat → Int} {Q : Nat → Nat → (Nat → Nat → Int) → Prop}
theorem fx_i2l (pc' : Nat) {z : Int} (q : (fq mi pc 32 && Nat.beq (sx_wa (fw mi pc)) 1) = true) (hp : pc + 1 = pc') (k : fx W r d mi pc' L (fJ z :: S) g Q) : fx W r d mi pc L (fI z :: S) g Q := by
  subst hp
  obtain ⟨q1, q2⟩ := f_and q
  obtain ⟨o1, o2⟩ := fq_ok q1
  refine fx_s o2 (fun ih D h cs ss _ => ?_) k
  rw [cx_b32 o1]
  unfold sx_oUn
  rw [fcp1, sx_fo_eq, show sx_wa (sx_ft (sx_mt mi).1 pc) = 1 from sx_beq q2, sx_beq_e (by decide), sx_if_f, fI_eq, cx_nm, ax_tg_i, sx_beq_t rfl, sx_if_t, sx_fo_eq, sx_beq_e (by decide), sx_if_f, ax_on_pl]
  rfl
theorem fx_lcmp0 (pc' : Nat) {v : Nat} (q : (fq mi pc 35 && Nat.beq (sx_wa (fw mi pc)) 4) = true) (hp : pc + 1 = pc') (hv : v % 8 = 4) (k : fx W r d mi pc' L (fI 0 :: S) g Q) : fx W r d mi pc L (v :: v :: S) g Q := by
  subst hp
  obtain ⟨q1, q2⟩ := f_and q
  obtain ⟨o1, o2⟩ := fq_ok q1
  refine fx_s o2 (fun ih D h cs ss _ => ?_) k
  have e4 : sx_wa (sx_ft (sx_mt mi).1 pc) = 4 := sx_beq q2
  have ec : ∀ x : Int64, sx_lf 4 x x = fI 0 := fun x => by
    show sx_i (lg_cmp x x) = fI 0
    unfold lg_cmp
    simp
    decide
  rw [cx_b35 o1]
  unfold sx_oLb
  rw [fcp1, fcp1, sx_beq_t (show sx_tg v = 4 from hv), cx_at, cx_at, e4, sx_beq_e (by decide), sx_if_f, sx_if_t, sx_fo_eq, sx_fo_eq, ec]
def f_ql1 (mi pc op p c len : Nat) : Bool := fq mi pc op && (Nat.beq p (8 * c + 2) && (Nat.blt c 160 && (Nat.beq (Nat.mod (ax_cl c).1 256) 101 && (Nat.beq (Nat.div (ax_cl c).1 256) len && Nat.ble len 2147483648))))
theorem f_ql1_ok {op p c len : Nat} (q : f_ql1 mi pc op p c len = true) : sx_op (sx_ft (sx_mt mi).1 pc) = op ∧ sx_wh (sx_ft (sx_mt mi).1 pc) = 0 ∧ p = 8 * c + 2 ∧ c < 160 ∧ (ax_cl c).1 % 256 = 101 ∧ (ax_cl c).1 / 256 = len ∧ len ≤ 2147483648 := by
  obtain ⟨q1, q2⟩ := f_and q
  obtain ⟨q2, q3⟩ := f_and q2
  obtain ⟨q3, q4⟩ := f_and q3
  obtain ⟨q4, q5⟩ := f_and q4
  obtain ⟨q5, q6⟩ := f_and q5
  obtain ⟨o1, o2⟩ := fq_ok q1
  exact ⟨o1, o2, sx_beq q2, sx_blt q3, sx_beq q4, sx_beq q5, sx_ble q6⟩
theorem f_101 {c j : Nat} (h : (ax_cl c).1 % 256 = 101) : fInt c j = false := by
  unfold fInt
  rw [if_neg (by omega), if_neg (by omega)]
theorem fx_lal (p c len pc' : Nat) {i : Int} (q : f_ql1 mi pc 13 p c len = true) (hp : pc + 1 = pc') (h0 : 0 ≤ i) (h1 : i < len) (k : fx W r d mi pc' L (((g c i.toNat).toNat + 4) :: S) g Q) : fx W r d mi pc L (fI i :: p :: S) g Q := by
  subst hp
  obtain ⟨o1, o2, rfl, hc, ha, e, hl⟩ := f_ql1_ok q
  refine fx_s o2 (fun ih D h cs ss hv => ?_) k
  rw [cx_b13 o1]
  unfold sx_oAld
  rw [fcp1, fcp1, f_ref hc, sx_if_t, fI_eq, cx_ix, sx_rdK_eq, f_plr, hv.1 c hc, sx_beq_t (show Nat.mod (ax_cl c).1 256 = 101 from ha), cx_at, fI_n h0 (by omega), sx_blt_t (show i.toNat < Nat.div (ax_cl c).1 256 by show i.toNat < (ax_cl c).1 / 256; omega), sx_if_t, sx_fo_eq, sx_fo_eq, sx_beq_e (by decide), sx_if_f, sx_beq_t rfl, sx_if_t, sx_fo_eq, (hv.2 c i.toNat hc (by omega)).1]
  unfold fEnc
  rw [if_neg (by rw [f_101 ha]; decide)]
theorem fx_las (p c len pc' : Nat) {i : Int} {v : Nat} (q : f_ql1 mi pc 14 p c len = true) (hp : pc + 1 = pc') (h0 : 0 ≤ i) (h1 : i < len) (hq : fPtr c i.toNat = 0) (hv4 : v % 8 = 4) (hvl : v < 4722366482869645213696) (k : fx W r d mi pc' L S (fu g c i.toNat ((v - 4 : Nat) : Int)) Q) : fx W r d mi pc L (v :: fI i :: p :: S) g Q := fun D h cs ss hD hv hr1 hr2 => by
  subst hp
  obtain ⟨o1, o2, rfl, hc, ha, e, hl⟩ := f_ql1_ok q
  have hv' : HV (sx_wr h c ((sx_rd h c).1, sx_set (sx_rd h c).2 i.toNat (v - 4))) (fu g c i.toNat ((v - 4 : Nat) : Int)) := by
    refine ⟨fun c' hc' => ?_, fun c' j' hc' hj' => ?_⟩
    · by_cases e : c' = c
      · subst e; rw [sx_rd_wr]; exact hv.1 _ hc
      · rw [sx_rd_wr_ne _ _ (by omega) (by omega) e]; exact hv.1 _ hc'
    · by_cases e : c' = c
      · subst e
        rw [sx_rd_wr]
        by_cases ej : j' = i.toNat
        · subst ej
          rw [sx_get_set (by omega), fu_eq]
          refine ⟨?_, (fun t => by rw [f_101 ha] at t; cases t), fun t => absurd hq t⟩
          unfold fEnc
          rw [if_neg (by rw [f_101 ha]; decide)]
          rfl
        · rw [sx_get_set_ne (by omega) ej, fu_nj ej]
          exact hv.2 _ _ hc' hj'
      · rw [sx_rd_wr_ne _ _ (by omega) (by omega) e, fu_nc e]
        exact hv.2 _ _ hc' hj'
  refine cx_step rfl o2 (k D _ cs ss hD hv' hr1 hr2) (fun ih => ?_)
  rw [cx_b14 o1]
  unfold sx_oAst
  rw [fcp1, fcp1, fcp1, f_ref hc, sx_if_t, fI_eq i, cx_ix, sx_rdK_eq, f_plr, hv.1 c hc, sx_beq_t (show Nat.mod (ax_cl c).1 256 = 101 from ha), cx_at, fI_n h0 (by omega), sx_blt_t (show i.toNat < Nat.div (ax_cl c).1 256 by show i.toNat < (ax_cl c).1 / 256; omega), sx_if_t, sx_beq_e (by decide), sx_if_f, sx_beq_t rfl, sx_if_t, sx_beq_t (show sx_tg v = 4 from hv4), sx_if_t, sx_blt_t hvl, sx_if_t, sx_fo_eq, sx_if_t, sx_wrK_eq, sx_fo_eq]
  rfl
/-- the script's ints -/
def fScr (W : ax_W) (s : Nat → Int) : Prop := W.N < 2147483648 ∧ ∀ i, i < W.N → fR (s i) ∧ ∃ e, W.sy[i]? = some e ∧ e.1 = sx_b (Int32.ofInt (s i)) ∧ e.2.1 = sx_b (Int32.ofInt (s i))
theorem fx_scr (pc' : Nat) {s : Nat → Int} (hs : fScr W s) {i : Int} (q : fq mi pc 11 = true) (hp : pc + 1 = pc') (h0 : 0 ≤ i) (h1 : i < W.N) (k : fx W r d mi pc' L (fI (s i.toNat) :: S) g Q) : fx W r d mi pc L (fI i :: 5 :: S) g Q := by
  subst hp
  obtain ⟨o1, o2⟩ := fq_ok q
  obtain ⟨hr, e, e1, e2, e3⟩ := hs.2 i.toNat (by omega)
  have hN := hs.1
  refine fx_s o2 (fun ih D h cs ss _ => ?_) k
  have nm : ∀ K : Nat → sx_R, sx_nm W.sy (Nat.succ (Nat.mul 8 i.toNat)) K = K (fI (s i.toNat)) := fun K => by
    unfold sx_nm
    have t1 : sx_tg (Nat.succ (Nat.mul 8 i.toNat)) = 1 := show (8 * i.toNat + 1) % 8 = 1 by omega
    have t2 : sx_pl (Nat.succ (Nat.mul 8 i.toNat)) = i.toNat := show (8 * i.toNat + 1) / 8 = i.toNat by omega
    rw [sx_beq_t t1, sx_if_t, t2, f_nth e1]
    show sx_if (Nat.beq e.1 e.2.1) (sx_fo (Nat.mul 8 (sx_bs e.1)) K) _ = _
    rw [e2, e3, sx_beq_t rfl, sx_if_t, sx_fo_eq]
    have : Nat.mul 8 (sx_bs (sx_b (Int32.ofInt (s i.toNat)))) = fI (s i.toNat) := by
      have eb := fI_b hr
      unfold fR at hr
      show 8 * ((sx_b (Int32.ofInt (s i.toNat)) + 2147483648) % 4294967296) = 8 * (s i.toNat % 4294967296).toNat
      omega
    rw [this]
  rw [cx_b11 o1]
  unfold sx_oIald
  rw [fcp1, fcp1, sx_beq_e (by decide), sx_if_f]
  unfold sx_oAld
  rw [fcp1, fcp1, show sx_and (Nat.beq (sx_tg 5) 2) (Nat.blt (sx_pl 5) 160) = false from rfl, sx_if_f, show sx_and (Nat.beq 5 5) (Nat.beq 100 100) = true from rfl, sx_if_t, fI_eq i, cx_ix, fI_n h0 (by omega), sx_blt_t (show i.toNat < W.N by omega), sx_if_t, nm, sx_fo_eq]
/-- where a throw of E at pc is caught: behind the store into la -/
noncomputable def f_qh (mi pc E p la : Nat) : Bool := Option.rec false (fun hh => !Nat.beq (sx_hnd pc hh E) 0 && (Nat.beq (sx_op (sx_ft (sx_mt mi).1 (Nat.pred (sx_hnd pc hh E)))) 3 && (Nat.beq (Nat.div (sx_wb (sx_ft (sx_mt mi).1 (Nat.pred (sx_hnd pc hh E)))) 16) 1 && (Nat.beq (sx_wa (sx_ft (sx_mt mi).1 (Nat.pred (sx_hnd pc hh E)))) la && Nat.beq (Nat.add (Nat.pred (sx_hnd pc hh E)) (Nat.mod (sx_wb (sx_ft (sx_mt mi).1 (Nat.pred (sx_hnd pc hh E)))) 16)) p)))) (sx_nth sx_hands (sx_ihd (sx_mt mi).2))
def fKH (W : ax_W) (r l d mi pc pc' : Nat) (L rest : List Nat) (Q : Nat → Nat → (Nat → Nat → Int) → Prop) : Nat → Nat → (Nat → Nat → Int) → Prop := fun k v g' => (k = 0 → fx W (r + 1) d mi pc' L rest g' Q) ∧ (k = 1 → fx W (r + 1) d mi pc' L (v :: rest) g' Q) ∧ (∀ E, k = 2 + E → ∃ p la, f_qh mi pc E p la = true ∧ f_lo L la ∧ Nat.blt la L.length = true ∧ fx (fWl W l) r d mi p (L.set la 7) [] g' Q)
theorem fKH1 {l pc' v : Nat} (h : fx W (r + 1) d mi pc' L (v :: rest) g Q) : fKH W r l d mi pc pc' L rest Q 1 v g := ⟨fun t => absurd t (by decide), fun _ => h, fun E t => by omega⟩
theorem fKH2 {l pc' v : Nat} (E p la : Nat) (h1 : f_qh mi pc E p la = true) (h2 : f_lo L la) (h3 : Nat.blt la L.length = true) (h : fx (fWl W l) r d mi p (L.set la 7) [] g Q) : fKH W r l d mi pc pc' L rest Q (2 + E) v g := ⟨fun t => by omega, fun t => by omega, fun E' t => by
  have e : E' = E := by omega
  subst e
  exact ⟨p, la, h1, h2, h3, h⟩⟩
theorem fx_callH {l mj pc' : Nat} {av Lj : List Nat} {dj : Nat} (hl : l + 1 ≤ W.lim) (hh : sx_wh (sx_ft (sx_mt mi).1 pc) = 0)
    (hb : ∀ (ih : sx_ih) D h cs ss, HV h g → sx_body ih W.N (sx_ft (sx_mt mi).1 pc) D mi (sx_mt mi).1 [] pc L S h 160 W.sy cs ss = sx_call ih D mi (sx_mt mi).1 [] pc L h 160 W.sy cs ss av rest mj)
    (hc : sx_and (Nat.blt 0 (sx_mt mj).1) (Nat.ble (Nat.add (Nat.mul 2 (List.length rest)) (sx_im (sx_mt mj).2)) 89) = true) (hd : dj + 1 ≤ d) (hi : sx_ihd (sx_mt mi).2 ≠ 0) (hp : pc + 3 = pc')
    (hx : sx_xp av (sx_im (sx_mt mj).2) = some Lj) (k : fx (fWl W 0) (r + 1) dj mj 0 Lj [] g (fKH W r l d mi pc pc' L rest Q)) : fx W (r + 1) d mi pc L S g Q := fun D h cs ss hD hv h1 h2 => by
  obtain ⟨D', rfl⟩ : ∃ D', D = D' + 1 := ⟨D - 1, by omega⟩
  have hb' : ∀ ih : sx_ih, sx_body ih W.N (sx_ft (sx_mt mi).1 pc) (D' + 1) mi (sx_mt mi).1 [] pc L S h 160 W.sy cs ss = Option.rec none (fun outs => sx_cont ih (D' + 1) mi (sx_mt mi).1 [] pc L rest (sx_ihd (sx_mt mi).2) outs) (ih D' mj (sx_mt mj).1 [] false 0 Lj [] h 160 W.sy cs ss) := fun ih => by
    rw [hb ih (D' + 1) h cs ss hv]
    show sx_mtK mj (fun cj fj => sx_mtK mi (fun _ f =>
      sx_if (sx_and (sx_and (Nat.blt 0 cj) (Nat.ble (Nat.add (Nat.mul 2 (List.length rest)) (sx_im fj)) 89)) (sx_and (Nat.ble cs 600002) (Nat.ble ss 7302232)))
        (Option.rec none (fun Lj => Option.rec none (fun outs => sx_cont ih (D' + 1) mi (sx_mt mi).1 [] pc L rest (sx_ihd f) outs)
          (ih D' mj cj [] false 0 Lj [] h 160 W.sy cs ss)) (sx_xp av (sx_im fj))) none)) = _
    rw [sx_mtK_eq, sx_mtK_eq, hc, cx_at, show Nat.ble cs 600002 = true from Nat.ble_eq.mpr (by omega), show Nat.ble ss 7302232 = true from Nat.ble_eq.mpr (by omega), cx_at, sx_if_t, hx]
  refine cx_call rfl hh hb' ?_
  obtain ⟨co, ev, a1, a2, g', hv', kq, b1, b2⟩ := k D' h cs ss (by omega) hv h1 h2
  refine ⟨co, ev, ?_⟩
  obtain ⟨kd, cv, ch, cn, csy, ccs, css⟩ := co
  have a1 : cn = 160 := a1
  have a2 : csy = W.sy := a2
  subst a1 a2
  subst hp
  by_cases c0 : kd = 0
  · subst c0
    obtain ⟨e1, e2⟩ := b1 (Nat.zero_le 1)
    have e1 : ccs ≤ cs + 0 := e1
    have e2 : css ≤ ss + 6 * 0 := e2
    obtain ⟨o, ⟨f0, hf⟩, u1, u2, u3, u4, u5, u6, u7⟩ := kq.1 rfl (D' + 1) ch ccs css hD hv' (by omega) (by omega)
    exact ⟨o, ⟨f0, fun f hle => cx_app1 _ _ (hf f hle)⟩, u1, u2, u3, u4, u5, fun t => by have := u6 t; omega, fun t => by have := u7 t; omega⟩
  · by_cases c1 : kd = 1
    · subst c1
      obtain ⟨e1, e2⟩ := b1 (Nat.le_refl 1)
      have e1 : ccs ≤ cs + 0 := e1
      have e2 : css ≤ ss + 6 * 0 := e2
      obtain ⟨o, ⟨f0, hf⟩, u1, u2, u3, u4, u5, u6, u7⟩ := kq.2.1 rfl (D' + 1) ch ccs css hD hv' (by omega) (by omega)
      exact ⟨o, ⟨f0, fun f hle => cx_app1 _ _ (hf f hle)⟩, u1, u2, u3, u4, u5, fun t => by have := u6 t; omega, fun t => by have := u7 t; omega⟩
    · have c2 : 1 < kd := by omega
      obtain ⟨e0, e1, e2⟩ := b2 c2
      have e1 : ccs ≤ cs + 1 + 0 := e1
      have e2 : css ≤ ss + 6 + 6 * 0 := e2
      obtain ⟨p, la, q1, q2, q3, q4⟩ := kq.2.2 (kd - 2) (by omega)
      obtain ⟨o, ⟨f0, hf⟩, u1, u2, u3, u4, u5, u6, u7⟩ := q4 (D' + 1) ch ccs css hD hv' (by omega) (by omega)
      have u6 : o.1 ≤ 1 → o.2.2.2.2.2.1 ≤ ccs + l ∧ o.2.2.2.2.2.2 ≤ css + 6 * l := u6
      have u7 : 1 < o.1 → 1 ≤ r ∧ o.2.2.2.2.2.1 ≤ ccs + 1 + l ∧ o.2.2.2.2.2.2 ≤ css + 6 + 6 * l := u7
      refine ⟨o, ⟨f0, fun f hle => ?_⟩, u1, u2, u3, u4, u5, fun t => by have := u6 t; omega, fun t => by have := u7 t; omega⟩
      show sx_app (sx_if (Nat.beq kd 0) _ (sx_if (Nat.beq kd 1) _ (sx_thr _ _ _ _ _ _ _ _ (Nat.sub kd 2) _ _ _ _ _))) (some []) = _
      rw [sx_beq_e c0, sx_if_f, sx_beq_e c1, sx_if_f]
      apply cx_app1
      unfold f_qh at q1
      unfold sx_thr
      rw [sx_beq_e hi, sx_if_f]
      cases hn : sx_nth sx_hands (sx_ihd (sx_mt mi).2) with
      | none => rw [hn] at q1; cases q1
      | some hh' =>
        rw [hn] at q1
        obtain ⟨r1, r2⟩ := f_and q1
        obtain ⟨r2, r3⟩ := f_and r2
        obtain ⟨r3, r4⟩ := f_and r3
        obtain ⟨r4, r5⟩ := f_and r4
        have r1 : Nat.beq (sx_hnd pc hh' (kd - 2)) 0 = false := by
          cases e : Nat.beq (sx_hnd pc hh' (kd - 2)) 0 with
          | true => rw [e] at r1; cases r1
          | false => rfl
        show sx_fo (sx_hnd pc hh' (kd - 2)) _ = _
        rw [sx_fo_eq, r1, sx_if_f, sx_fo_eq, r2, r3, cx_at, cx_at, sx_beq r4, f_lo_ok q2, cx_at, q3, sx_if_t, sx_fo_eq, show Nat.add (Nat.pred (sx_hnd pc hh' (kd - 2))) (Nat.mod (sx_wb (sx_ft (sx_mt mi).1 (Nat.pred (sx_hnd pc hh' (kd - 2))))) 16) = p from sx_beq r5, sx_stK_eq]
        exact hf f hle
end FYI
end
section
/-! fx: the law's house case -/
section FYJ
variable {W : ax_W} {r d mi pc : Nat} {L S rest : List Nat} {g : Nat → Nat → Int} {Q : Nat → Nat → (Nat → Nat → Int) → Prop}
/-- a call that may catch a throws; b are left behind it -/
theorem fx_callW {a b r1 r2 mj pc' : Nat} {av Lj : List Nat} {dj : Nat} (hab : a + b ≤ W.lim) (hr1 : r1 ≤ r) (hr2 : a + r2 ≤ r) (hh : sx_wh (sx_ft (sx_mt mi).1 pc) = 0)
    (hb : ∀ (ih : sx_ih) D h cs ss, HV h g → sx_body ih W.N (sx_ft (sx_mt mi).1 pc) D mi (sx_mt mi).1 [] pc L S h 160 W.sy cs ss = sx_call ih D mi (sx_mt mi).1 [] pc L h 160 W.sy cs ss av rest mj)
    (hc : sx_and (Nat.blt 0 (sx_mt mj).1) (Nat.ble (Nat.add (Nat.mul 2 (List.length rest)) (sx_im (sx_mt mj).2)) 89) = true) (hd : dj + 1 ≤ d) (hp : pc + 3 = pc')
    (hx : sx_xp av (sx_im (sx_mt mj).2) = some Lj) (k : fx (fWl W a) r1 dj mj 0 Lj [] g (fun k v g' => k = 1 ∧ fx (fWl W b) r2 d mi pc' L (v :: rest) g' Q)) : fx W r d mi pc L S g Q := fun D h cs ss hD hv h1 h2 => by
  obtain ⟨D', rfl⟩ : ∃ D', D = D' + 1 := ⟨D - 1, by omega⟩
  have hb' : ∀ ih : sx_ih, sx_body ih W.N (sx_ft (sx_mt mi).1 pc) (D' + 1) mi (sx_mt mi).1 [] pc L S h 160 W.sy cs ss = Option.rec none (fun outs => sx_cont ih (D' + 1) mi (sx_mt mi).1 [] pc L rest (sx_ihd (sx_mt mi).2) outs) (ih D' mj (sx_mt mj).1 [] false 0 Lj [] h 160 W.sy cs ss) := fun ih => by
    rw [hb ih (D' + 1) h cs ss hv]
    show sx_mtK mj (fun cj fj => sx_mtK mi (fun _ f =>
      sx_if (sx_and (sx_and (Nat.blt 0 cj) (Nat.ble (Nat.add (Nat.mul 2 (List.length rest)) (sx_im fj)) 89)) (sx_and (Nat.ble cs 600002) (Nat.ble ss 7302232)))
        (Option.rec none (fun Lj => Option.rec none (fun outs => sx_cont ih (D' + 1) mi (sx_mt mi).1 [] pc L rest (sx_ihd f) outs)
          (ih D' mj cj [] false 0 Lj [] h 160 W.sy cs ss)) (sx_xp av (sx_im fj))) none)) = _
    rw [sx_mtK_eq, sx_mtK_eq, hc, cx_at, show Nat.ble cs 600002 = true from Nat.ble_eq.mpr (by omega), show Nat.ble ss 7302232 = true from Nat.ble_eq.mpr (by omega), cx_at, sx_if_t, hx]
  refine cx_call rfl hh hb' ?_
  obtain ⟨co, ev, a1, a2, g', hv', ⟨kq1, kq2⟩, b1, -⟩ := k D' h cs ss (by omega) hv (by omega) (by omega)
  refine ⟨co, ev, ?_⟩
  obtain ⟨kd, cv, ch, cn, csy, ccs, css⟩ := co
  have a1 : cn = 160 := a1
  have a2 : csy = W.sy := a2
  have kq1 : kd = 1 := kq1
  subst a1 a2 kq1
  subst hp
  obtain ⟨e1, e2⟩ := b1 (Nat.le_refl 1)
  have e1 : ccs ≤ cs + a := e1
  have e2 : css ≤ ss + 6 * a := e2
  obtain ⟨o, ⟨f0, hf⟩, u1, u2, u3, u4, u5, u6, u7⟩ := kq2 (D' + 1) ch ccs css hD hv' (by omega) (by omega)
  have u6 : o.1 ≤ 1 → o.2.2.2.2.2.1 ≤ ccs + b ∧ o.2.2.2.2.2.2 ≤ css + 6 * b := u6
  have u7 : 1 < o.1 → 1 ≤ r2 ∧ o.2.2.2.2.2.1 ≤ ccs + 1 + b ∧ o.2.2.2.2.2.2 ≤ css + 6 + 6 * b := u7
  exact ⟨o, ⟨f0, fun f hle => cx_app1 _ _ (hf f hle)⟩, u1, u2, u3, u4, u5, fun t => by have := u6 t; omega, fun t => by have := u7 t; omega⟩
/-- house(x, out): the answer's kind; what the class did -/
theorem sp_whouse {T : Int → Int} {E : Int} (hl : 1 ≤ W.lim) (hT : ∀ k : Int, 0 ≤ k → k < 400 → g 2 k.toNat = T k ∧ 0 ≤ T k ∧ T k ≤ 255) (hE : g 1 1 = E) (hE0 : 0 ≤ E) (hE1 : E ≤ 400) (hp0 : 0 ≤ g 3 4) (hp1 : g 3 4 ≤ 8) (hd0 : 0 ≤ g 3 5) (hd1 : g 3 5 ≤ 6) (ht0 : 0 ≤ g 3 6) (ht1 : g 3 6 ≤ 12)
    (k1 : ∀ q, pText T E (g 3 4) (g 3 5) = Sum.inl q → ∀ g', frc g g' → g' 1 1 = 0 → g' 0 18 = q → Q 1 (fI 1) g')
    (k2 : ∀ us, pText T E (g 3 4) (g 3 5) = Sum.inr us → g 3 6 = 12 → ∀ g', frc g g' → g' 1 1 = 0 → g' 0 18 = -1 → Q 1 (fI 2) g')
    (k3 : ∀ us, pText T E (g 3 4) (g 3 5) = Sum.inr us → g 3 6 ≠ 12 → ∀ A, (∀ gm, RHx 3 g gm → 0 ≤ gm 149 3 → gm 149 3 ≤ 8 → 0 ≤ gm 149 4 → gm 149 4 ≤ 6 → RHx 29 A (apLs T us gm)) → ∀ g', frd g g' → g' 1 1 = 0 → g' 0 18 = -1 → g' 0 16 = 0 → g' 3 6 = g 3 6 + 1 → (∀ j, 4 ≤ j → j ≤ 9 → j ≠ 6 → g' 3 j = A 29 j) → (∀ i j, 1 ≤ i → i ≤ 4 → g' (3 + i) j = A (29 + i) j) → Q 1 (fI 0) (fu g' 159 0 ((fJ (g 3 6 + 1) - 4 : Nat) : Int))) : fx W 1 11 69 0 [2, 1274, 7] [] g Q := by
  refine fx_la 1 1 (v := 1274) (by decide +kernel) rfl (by decide +kernel) ?_
  refine fx_ci (0) 2 (by decide +kernel) ?_
  refine fx_la 0 3 (v := 2) (by decide +kernel) rfl (by decide +kernel) ?_
  obtain ⟨e1, e2⟩ := f_qm_ok (W := W) (L := [2, 1274, 7]) (g := g) (S := [2, fI 0, 1274]) (rest := [fI 0, 1274]) (mi := 69) (pc := 3) (mj := 70) (n := 1) (op := 21) (a := 2) (av' := []) (by decide +kernel) (by decide +kernel) (fun K => rfl) (fun t => absurd t (by decide))
  refine fx_callH (l := 0) (r := 0) (by omega) e1 e2 (by decide +kernel) (dj := 10) (by decide) (by decide +kernel) (pc' := 6) rfl (Lj := [2, 7]) (by decide +kernel) ?_
  refine sp_chouse (Nat.le_refl 1) hT hE hE0 hE1 hp0 hp1 hd0 hd1 ht0 ht1 (fun q t g' f1 f2 f3 => ?_) (fun us t t2 g' f1 f2 f3 => ?_) (fun us t t2 A f0 g' f1 f2 f3 f4 f5 f6 f7 => ?_)
  · refine fKH2 0 12 2 (by decide +kernel) (Or.inr (f_n4p (v := 1274) rfl (by decide))) rfl ?_
    dsimp only [List.set]
    exact fx_ci 1 13 (by decide +kernel) (fx_ret (by decide +kernel) (k1 q t g' f1 f2 f3))
  · refine fKH2 1 15 2 (by decide +kernel) (Or.inr (f_n4p (v := 1274) rfl (by decide))) rfl ?_
    dsimp only [List.set]
    exact fx_ci 2 16 (by decide +kernel) (fx_ret (by decide +kernel) (k2 us t t2 g' f1 f2 f3))
  · refine fKH1 ?_
    have kk := k3 us t t2 A f0 g' f1 f2 f3 f4 f5 f6 f7
    refine fx_i2l 7 (by decide +kernel) rfl ?_
    refine fx_las 1274 159 1 8 (by decide +kernel) rfl (by omega) (by omega) (by decide +kernel) (fJ_ok _).1 (fJ_ok _).2 ?_
    exact fx_go 17 (by decide +kernel) (fx_ci 0 18 (by decide +kernel) (fx_ret (by decide +kernel) kk))
end FYJ
end
section
/-! fx: a walk and a contract together -/
theorem fx_hs {W : ax_W} {c : ax_C} {r d : Nat} {cav Lj : List Nat} {g : Nat → Nat → Int} {Q : Nat → Nat → (Nat → Nat → Int) → Prop} (hv : ax_Valid W.N W.sy c) (hg : gHs g) (ha : ax_As c.2.2.1 cav) (hp : c.2.2.2.1 = []) (hx : sx_xp cav (sx_im (sx_mt c.1).2) = some Lj) (hr : 1 ≤ r) (hd : c.2.1 ≤ d) (k : fx W r d c.1 0 Lj [] g Q) : fx W r d c.1 0 Lj [] g (fun k v g' => Q k v g' ∧ gHs g') := fun D h cs ss hD v h1 h2 => by
  obtain ⟨co, ev, a1, a2, t, a3, E1, E2, E3, E4, E5, E6, E7, E8, E9, E10⟩ := hv D cav h cs ss Lj (by omega) ha (by rw [hp]; intro q hq; cases hq) (hg h v) (by omega) (by omega) hx
  obtain ⟨o, ev2, b1, b2, g', v', q', b3⟩ := k D h cs ss hD v h1 h2
  have e : co = o := cx_uniq (W := W) ev ev2
  subst e
  exact ⟨co, ev2, b1, b2, g', v', ⟨q', gHs_of E8 v'⟩, b3⟩
/-- what holds at the law's head -/
def LInv (g : Nat → Nat → Int) : Prop := gHs g ∧ gxg g ∧ g 1 1 = g 148 8 ∧ g 0 15 = g 148 3
/-- bounds that the walks use -/
theorem gHs_b {h : sx_H} {g : Nat → Nat → Int} (q : ax_Hs h) (v : HV h g) : (0 ≤ g 1 1 ∧ g 1 1 ≤ 400) ∧ (0 ≤ g 3 4 ∧ g 3 4 ≤ 8) ∧ (0 ≤ g 3 5 ∧ g 3 5 ≤ 6) := by
  exact ⟨Hs_b q v 1 1 0 400 (by decide +kernel) (2, 0, 2147483648, 2147484048, 0, 0) (by decide +kernel) rfl rfl rfl, Hs_b q v 3 4 0 8 (by decide +kernel) (5, 0, 2147483648, 2147483656, 0, 0) (by decide +kernel) rfl rfl rfl, Hs_b q v 3 5 0 6 (by decide +kernel) (6, 0, 2147483648, 2147483654, 0, 0) (by decide +kernel) rfl rfl rfl⟩
end
section
/-! fx: the law's case of house -/
theorem tp_sg (j : Nat) (hj : j < 400) : ax_sg (ax_cl 2).2.2 (j % (ax_cl 2).2.1) (j % (ax_cl 2).2.1) = some (400, 0, 2147483648, 2147483903, 0, 0) := by
  show sx_if (Nat.blt (j % 400) 400) (sx_if (Nat.blt (j % 400) 400) (some (400, 0, 2147483648, 2147483903, 0, 0)) none) none = _
  rw [sx_blt_t (show j % 400 < 400 by omega), sx_if_t, sx_if_t]
theorem gHs_tp {h : sx_H} {g : Nat → Nat → Int} (q : ax_Hs h) (v : HV h g) {j : Nat} (hj : j < 400) : 0 ≤ g 2 j ∧ g 2 j ≤ 255 := by
  refine Hs_b q v 2 j 0 255 ?_ (400, 0, 2147483648, 2147483903, 0, 0) (tp_sg j hj) rfl rfl rfl
  have l : (ax_cl 2).1 / 256 = 400 := by decide +kernel
  have i := (f_okp (c := 2) (j := j) (by decide) (by decide +kernel)).1
  rw [i, show Nat.div (ax_cl 2).1 256 = 400 from l, sx_blt_t hj]
  decide
/-- bounds that the walks use, from what holds at the head -/
def LB (g : Nat → Nat → Int) : Prop := (0 ≤ g 1 1 ∧ g 1 1 ≤ 400) ∧ (0 ≤ g 3 4 ∧ g 3 4 ≤ 8) ∧ (0 ≤ g 3 5 ∧ g 3 5 ≤ 6) ∧ (∀ j, j < 400 → 0 ≤ g 2 j ∧ g 2 j ≤ 255) ∧ gxb g ∧ (0 ≤ g 0 15 ∧ g 0 15 ≤ 1)
theorem gHs_LB {h : sx_H} {g : Nat → Nat → Int} (q : ax_Hs h) (v : HV h g) : LB g := by
  obtain ⟨a, b, c⟩ := gHs_b q v
  exact ⟨a, b, c, fun j hj => gHs_tp q v hj, Hs_gxb q v, Hs_b q v 0 15 0 1 (by decide +kernel) (16, 0, 2147483648, 2147483649, 0, 0) (by decide +kernel) rfl rfl rfl⟩
section FYL
variable {W : ax_W} {r d mi pc : Nat} {L S : List Nat} {g : Nat → Nat → Int} {Q : Nat → Nat → (Nat → Nat → Int) → Prop}
theorem fx_LB (hg : gHs g) (k : LB g → fx W r d mi pc L S g Q) : fx W r d mi pc L S g Q := fun D h cs ss hD v => k (gHs_LB (hg h v) v) D h cs ss hD v
/-- the class's house as the law sees it -/
def PW (T : Int → Int) (E : Int) (g : Nat → Nat → Int) (k v : Nat) (g' : Nat → Nat → Int) : Prop := k = 1 ∧
  ((∃ q, pText T E (g 3 4) (g 3 5) = Sum.inl q ∧ v = fI 1 ∧ frc g g' ∧ g' 1 1 = 0) ∨
   (∃ us, pText T E (g 3 4) (g 3 5) = Sum.inr us ∧ g 3 6 = 12 ∧ v = fI 2 ∧ frc g g' ∧ g' 1 1 = 0) ∨
   (∃ us A g1, pText T E (g 3 4) (g 3 5) = Sum.inr us ∧ g 3 6 ≠ 12 ∧ v = fI 0 ∧ (∀ gm, RHx 3 g gm → 0 ≤ gm 149 3 → gm 149 3 ≤ 8 → 0 ≤ gm 149 4 → gm 149 4 ≤ 6 → RHx 29 A (apLs T us gm)) ∧ frd g g1 ∧ g1 1 1 = 0 ∧ g1 3 6 = g 3 6 + 1 ∧ (∀ j, 4 ≤ j → j ≤ 9 → j ≠ 6 → g1 3 j = A 29 j) ∧ (∀ i j, 1 ≤ i → i ≤ 4 → g1 (3 + i) j = A (29 + i) j) ∧ g' = fu g1 159 0 ((fJ (g 3 6 + 1) - 4 : Nat) : Int)))
theorem sp_whouseP (hl : 1 ≤ W.lim) (hi : LInv g) (hb : LB g) : fx W 1 11 69 0 [2, 1274, 7] [] g (PW (fun k => g 2 k.toNat) (g 1 1) g) := by
  obtain ⟨b1, b2, b3, b4, -⟩ := hb
  have ht := hi.2.1.2.1.2.2.2.2.2
  exact sp_whouse hl (fun k k0 k1 => ⟨rfl, b4 k.toNat (by omega)⟩) rfl b1.1 b1.2 b2.1 b2.2 b3.1 b3.2 ht.1 ht.2
    (fun q t g' f1 f2 f3 => ⟨rfl, Or.inl ⟨q, t, rfl, f1, f2⟩⟩)
    (fun us t t2 g' f1 f2 f3 => ⟨rfl, Or.inr (Or.inl ⟨us, t, t2, rfl, f1, f2⟩)⟩)
    (fun us t t2 A f0 g' f1 f2 f3 f4 f5 f6 f7 => ⟨rfl, Or.inr (Or.inr ⟨us, A, g', t, t2, rfl, f0, f1, f2, f5, f6, f7, rfl⟩)⟩)
end FYL
end
section
/-! fx: the reference's house behind the class's -/
/-- both are done: what holds then, and that the answers are alike -/
def PB (g : Nat → Nat → Int) (v w : Nat) (g2 : Nat → Nat → Int) : Prop := (∃ z, w = fI z ∧ fR z) ∧ gxg g2 ∧ g2 1 1 = g2 148 8 ∧ g2 0 15 = g2 148 3 ∧ ((v = fI 1 ∧ g2 148 0 = 1) ∨ (v = fI 2 ∧ g2 148 0 = 2) ∨ (v = fI 0 ∧ g2 148 0 = 0 ∧ w = fI (g 3 6 + 1) ∧ g2 159 0 = ((fJ (g 3 6 + 1) - 4 : Nat) : Int)))
section FYM
variable {W : ax_W} {r : Nat} {g g1 : Nat → Nat → Int}
theorem house_bad {g2 : Nat → Nat → Int} (hi : LInv g) (h1 : frc g g1) (hl : g1 1 1 = 0) (f1 : frm g1 g2) (f4 : g2 148 8 = 0) (f5 : g2 148 6 = g1 148 6) (f6 : ∀ j, g2 149 j = g1 149 j) : gxg g2 ∧ g2 1 1 = g2 148 8 ∧ g2 0 15 = g2 148 3 := by
  obtain ⟨-, hx, -, hI⟩ := hi
  have m1 : ∀ j, g1 149 j = g 149 j := fun j => h1 _ _ (by decide) (fun t => absurd t.1 (by decide)) (fun t => absurd t.1 (by decide))
  have a1 : ∀ j, g2 152 j = g 152 j := fun j => by rw [f1 _ _ (by decide) (by decide) (fun t => absurd t.1 (by decide)), h1 _ _ (by decide) (fun t => absurd t.1 (by decide)) (fun t => absurd t.1 (by decide))]
  have a2 : g2 148 6 = g 148 6 := by rw [f5, h1 _ _ (by decide) (by decide) (by decide)]
  refine ⟨gxg_cg hx (fun c j k e1 e2 => ?_) (fun r k q1 q2 q3 => ?_), ?_, ?_⟩
  · by_cases e : c = 149
    · subst e; rw [f6, m1]
    · unfold gx_K at k
      rw [f1 c j e (by omega) (by omega), h1 c j (by omega) (by omega) (by omega)]
  · rw [a2] at q1
    rw [a1, f6, m1]
    exact hx.2.2.2 r k q1 q2 q3
  · rw [f4, f1 _ _ (by decide) (by decide) (by decide)]; exact hl
  · rw [f1 0 15 (by decide) (by decide) (by decide), f1 148 3 (by decide) (by decide) (by decide), h1 0 15 (by decide) (by decide) (by decide), h1 148 3 (by decide) (by decide) (by decide)]
    exact hI
theorem RHx_of (hx : gxh g 3 149) (hd : g 3 5 ≤ 6) {gm : Nat → Nat → Int} (h : ∀ j, gm 149 j = g 149 j) : RHx 3 g gm := by
  obtain ⟨k1, k2, k3, k4, k5, -⟩ := hx
  exact ⟨by rw [h]; exact k1, by rw [h]; exact k2, by rw [h]; exact k3, fun j hj => by rw [h]; exact k4 j (by omega) hj, fun j hj => by rw [h]; exact k5 j hj⟩
theorem house_both {v : Nat} (hi : LInv g) (hb : LB g) (hw : PW (fun k => g 2 k.toNat) (g 1 1) g 1 v g1) : fx W r 9 266 0 [1186, 7] [] g1 (fun k w g2 => k = 1 ∧ PB g v w g2) := by
  obtain ⟨b1, b2, b3, b4, b5, -⟩ := hb
  have hx := hi.2.1
  have hxh := hx.2.1
  obtain ⟨x1, x2, x3, x4, x5, x6⟩ := hxh
  -- the reference's own cells are as before
  have same : ∀ c j, (c = 148 ∨ c = 149 ∨ c = 153) → g1 c j = g c j := fun c j hc => by
    rcases hw.2 with ⟨q, -, -, h, -⟩ | ⟨us, -, -, -, h, -⟩ | ⟨us, A, g0, -, -, -, -, h, -, -, -, -, e⟩
    · exact h c j (by omega) (by omega) (by omega)
    · exact h c j (by omega) (by omega) (by omega)
    · rw [e, fu_nc (by omega)]
      exact h c j (by omega) (by omega) (by omega) (by omega)
  have hT : ∀ k : Int, 0 ≤ k → k < 400 → g1 153 k.toNat = g 2 k.toNat ∧ 0 ≤ g 2 k.toNat ∧ g 2 k.toNat ≤ 255 := fun k k0 k1 => ⟨by rw [same _ _ (by decide)]; exact (hx.1 k.toNat (by omega)).symm, b4 k.toNat (by omega)⟩
  have m : ∀ j, g1 149 j = g 149 j := fun j => same _ j (by decide)
  have e3 : g1 149 3 = g 3 4 := by rw [m]; exact x1.symm
  have e4 : g1 149 4 = g 3 5 := by rw [m]; exact x2.symm
  have e0 : g1 149 0 = g 3 6 := by rw [m]; exact x3.symm
  refine sp_mhouse (T := fun k => g 2 k.toNat) (E := g 1 1) hT (by rw [same _ _ (by decide)]; exact hi.2.2.1.symm) b1.1 b1.2 (by omega) (by omega) (by omega) (by omega) (by omega) (by omega) (fun q t g2 f1 f2 f3 f4 f5 f6 => ?_) (fun us t t2 g2 f1 f2 f3 f4 f5 f6 => ?_) (fun us t t2 g2 f1 f2 f3 f4 f5 f6 => ?_)
  · rw [e3, e4] at t
    rcases hw.2 with ⟨q', t', hv, h, hl⟩ | ⟨us, t', -⟩ | ⟨us, A, g0, t', -⟩
    · obtain ⟨r1, r2, r3⟩ := house_bad hi h hl f1 f4 f5 f6
      exact ⟨rfl, ⟨0, rfl, by unfold fR; omega⟩, r1, r2, r3, Or.inl ⟨hv, f2⟩⟩
    · rw [t] at t'; cases t'
    · rw [t] at t'; cases t'
  · rw [e3, e4] at t
    rcases hw.2 with ⟨q', t', -⟩ | ⟨us', t', t3, hv, h, hl⟩ | ⟨us', A, g0, t', t3, -⟩
    · rw [t] at t'; cases t'
    · obtain ⟨r1, r2, r3⟩ := house_bad hi h hl f1 f4 f5 f6
      exact ⟨rfl, ⟨0, rfl, by unfold fR; omega⟩, r1, r2, r3, Or.inr (Or.inl ⟨hv, f2⟩)⟩
    · omega
  · rw [e3, e4] at t
    rcases hw.2 with ⟨q', t', -⟩ | ⟨us', t', t3, -⟩ | ⟨us', A, g0, t', t3, hv, hr, h, hl, ht, hf, ha, e⟩
    · rw [t] at t'; cases t'
    · omega
    · rw [t] at t'
      cases t'
      have R := hr g1 (RHx_of hx.2.1 b3.2 m) (by omega) (by omega) (by omega) (by omega)
      obtain ⟨R1, R2, R3, R4, R5⟩ := R
      have n2 : ∀ c j, c ≠ 149 → c ≠ 151 → ¬ (c = 148 ∧ (j = 0 ∨ j = 6 ∨ (8 ≤ j ∧ j ≤ 13))) → c ≠ 159 → g2 c j = g0 c j := fun c j q1 q2 q3 q4 => by rw [f1 c j q1 q2 q3, e, fu_nc q4]
      have hh : ∀ i j, i ≤ 4 → g2 (3 + i) j = g0 (3 + i) j := fun i j q => n2 _ j (by omega) (by omega) (by omega) (by omega)
      have m2 : ∀ j, j ≠ 0 → g2 149 j = apLs (fun k => g 2 k.toNat) us g1 149 j := fun j hj => by rw [f6, fu_nj hj]
      have n0 : ∀ c j, (c = 2 ∨ c = 153 ∨ c = 150 ∨ (56 ≤ c ∧ c ≤ 56 + 4)) → g2 c j = g c j := fun c j q => by rw [n2 c j (by omega) (by omega) (by omega) (by omega), h c j (by omega) (by omega) (by omega) (by omega)]
      have g05 : g2 3 5 = A 29 5 := by
        have := hh 0 5 (by decide)
        rw [show g2 3 5 = g0 3 5 from this]
        exact hf 5 (by decide) (by decide) (by decide)
      refine ⟨rfl, ⟨_, rfl, by unfold fR; omega⟩, ⟨fun j hj => ?_, ⟨?_, ?_, ?_, fun j j1 j2 => ?_, fun j j1 => ?_, ?_⟩, ?_, fun r k q1 => ?_⟩, ?_, ?_, Or.inr (Or.inr ⟨hv, f2, ?_, ?_⟩)⟩
      · rw [n0 _ _ (by decide), n0 _ _ (by decide)]; exact hx.1 j hj
      · rw [m2 3 (by decide), show g2 3 4 = g0 3 4 from hh 0 4 (by decide), hf 4 (by decide) (by decide) (by decide)]; exact R1
      · rw [m2 4 (by decide), g05]; exact R2
      · rw [f6, fu_eq, show g2 3 6 = g0 3 6 from hh 0 6 (by decide), ht, e0]
      · rw [g05] at j2
        rw [m2 _ (by omega), hh 3 j (by decide), ha 3 j (by decide) (by decide)]
        exact R4 j j2
      · rw [m2 _ (by omega), hh 4 j (by decide), ha 4 j (by decide) (by decide)]
        exact R5 j j1
      · rw [show g2 3 6 = g0 3 6 from hh 0 6 (by decide), ht]
        omega
      · obtain ⟨i1, i2, i3, i4, i5, i6⟩ := hx.2.2.1
        refine ⟨?_, ?_, ?_, fun j j1 j2 => ?_, fun j j1 => ?_, ?_⟩
        · rw [n0 _ _ (by decide), n0 _ _ (by decide)]; exact i1
        · rw [n0 _ _ (by decide), n0 _ _ (by decide)]; exact i2
        · rw [n0 _ _ (by decide), n0 _ _ (by decide)]; exact i3
        · rw [n0 _ _ (by decide)] at j2
          rw [n0 _ _ (by decide), n0 _ _ (by decide)]; exact i4 j j1 j2
        · rw [n0 _ _ (by decide), n0 _ _ (by decide)]; exact i5 j j1
        · rw [n0 _ _ (by decide)]; exact i6
      · rw [f5] at q1
        omega
      · rw [f4, n2 _ _ (by decide) (by decide) (by decide) (by decide)]; exact hl
      · rw [n2 0 15 (by decide) (by decide) (by decide) (by decide), n2 148 3 (by decide) (by decide) (by decide) (by decide), h 0 15 (by decide) (by decide) (by decide) (by decide), h 148 3 (by decide) (by decide) (by decide) (by decide)]
        exact hi.2.2.2
      · rw [e0]
      · rw [f1 _ _ (by decide) (by decide) (by decide), e, fu_eq]
end FYM
end
section
/-! fx: the law's case of house, walked -/
theorem ax_As_2 {p q : Nat} {cav : List Nat} (hp : 2 ≤ p % 8 ∧ p % 8 ≤ 6 ∧ p < 1280 ∧ (p % 8 = 2 → p / 8 < 160)) (hq : 2 ≤ q % 8 ∧ q % 8 ≤ 6 ∧ q < 1280 ∧ (q % 8 = 2 → q / 8 < 160)) : ax_As [(0, p, 0), (0, q, 0)] [p, q] :=
  ⟨Or.inl ⟨rfl, [], ax_V.ref ⟨hp.1, hp.2.1, (by show p < _; omega), hp.2.2.2⟩⟩, Or.inl ⟨rfl, [], ax_V.ref ⟨hq.1, hq.2.1, (by show q < _; omega), hq.2.2.2⟩⟩, True.intro⟩
theorem ax_As_1 {p : Nat} (hp : 2 ≤ p % 8 ∧ p % 8 ≤ 6 ∧ p < 1280 ∧ (p % 8 = 2 → p / 8 < 160)) : ax_As [(0, p, 0)] [p] := ⟨Or.inl ⟨rfl, [], ax_V.ref ⟨hp.1, hp.2.1, (by show p < _; omega), hp.2.2.2⟩⟩, True.intro⟩
section FYN
variable {W : ax_W} {g : Nat → Nat → Int} {Q : Nat → Nat → (Nat → Nat → Int) → Prop}
theorem law_2 {cW cM : ax_C} {b r2 d : Nat} {i : Int} {x5 x6 : Nat} (hvW : ax_Valid W.N W.sy cW) (w1 : cW.1 = 69) (w2 : cW.2.2.1 = [(0, 2, 0), (0, 1274, 0)]) (w3 : cW.2.2.2.1 = []) (w4 : cW.2.1 ≤ 20)
    (hvM : ax_Valid W.N W.sy cM) (m1 : cM.1 = 266) (m2 : cM.2.2.1 = [(0, 1186, 0)]) (m3 : cM.2.2.2.1 = []) (m4 : cM.2.1 ≤ 20) (hd : 21 ≤ d) (hl : 1 + b ≤ W.lim) (hr : 1 ≤ r2) (hi0 : 0 ≤ i) (hi1 : i ≤ 3072) (hI : LInv g)
    (kq : ∀ g' x5 x6, LInv g' → x5 % 8 ≠ 4 → x6 % 8 ≠ 4 → fx (fWl W b) r2 d 0 23 [5, 2, 1186, 1274, fI (i + 6), x5, x6] [] g' Q) : fx W (r2 + 1) d 0 398 [5, 2, 1186, 1274, fI i, x5, x6] [] g Q := by
  refine fx_LB hI.1 (fun hb => ?_)
  refine fx_la 1 399 (v := 2) (by decide +kernel) rfl (by decide +kernel) ?_
  refine fx_la 3 400 (v := 1274) (by decide +kernel) rfl (by decide +kernel) ?_
  obtain ⟨e1, e2⟩ := f_qm_ok (W := W) (L := [5, 2, 1186, 1274, fI i, x5, x6]) (g := g) (S := [1274, 2]) (rest := []) (mi := 0) (pc := 400) (mj := 69) (n := 2) (op := 22) (a := 2) (av' := [1274]) (by decide +kernel) (by decide +kernel) (fun K => rfl) (fun t => absurd t (by decide))
  refine fx_callW (a := 1) (b := b) (r1 := 1) (r2 := r2) hl (by omega) (by omega) e1 e2 (by decide +kernel) (dj := 20) hd (pc' := 403) rfl (Lj := [2, 1274, 7]) (by decide +kernel) ?_
  have wk : fx (fWl W 1) 1 20 69 0 [2, 1274, 7] [] g (fun k v g' => PW (fun k => g 2 k.toNat) (g 1 1) g k v g' ∧ gHs g') := by
    rw [← w1]
    refine fx_hs (W := fWl W 1) (cav := [2, 1274]) hvW hI.1 (by rw [w2]; exact ax_As_2 (cav := []) (by decide) (by decide)) w3 (by rw [w1]; decide +kernel) (Nat.le_refl 1) w4 ?_
    rw [w1]
    exact fx.up (sp_whouseP (W := fWl W 1) (Nat.le_refl 1) hI hb) (Nat.le_refl 1) (by decide)
  refine wk.mono (fun k v g1 h => ⟨h.1.1, ?_⟩)
  obtain ⟨hw, hs1⟩ := h
  obtain ⟨hk, hw⟩ := hw
  have hw : PW (fun k => g 2 k.toNat) (g 1 1) g 1 v g1 := ⟨rfl, hw⟩
  have hz : ∃ z : Int, v = fI z ∧ 0 ≤ z ∧ z ≤ 2 := by
    rcases hw.2 with ⟨q, -, e, -⟩ | ⟨us, -, -, e, -⟩ | ⟨us, A, g0, -, -, e, -⟩
    · exact ⟨1, e, by decide, by decide⟩
    · exact ⟨2, e, by decide, by decide⟩
    · exact ⟨0, e, by decide, by decide⟩
  obtain ⟨z, hz, z0, z2⟩ := hz
  subst hz
  refine fx_si 5 405 (by decide +kernel) (Or.inr (fI_n4 _)) rfl ?_
  dsimp only [List.set]
  refine fx_la 2 406 (v := 1186) (by decide +kernel) rfl (by decide +kernel) ?_
  refine fx_c1 266 21 409 20 [7] (by decide +kernel) (by decide) rfl (by first | decide | omega) ?_
  have mk : fx (fWl (fWl W b) 0) r2 20 266 0 [1186, 7] [] g1 (fun k w g2 => (k = 1 ∧ PB g (fI z) w g2) ∧ gHs g2) := by
    rw [← m1]
    refine fx_hs (W := fWl (fWl W b) 0) (cav := [1186]) hvM hs1 (by rw [m2]; exact ax_As_1 (by decide)) m3 (by rw [m1]; decide +kernel) hr m4 ?_
    rw [m1]
    exact fx.up (house_both hI hb hw) (Nat.le_refl _) (by decide)
  refine mk.mono (fun k w g2 h => ?_)
  obtain ⟨⟨hk2, ⟨zw, hzw, hzr⟩, hg2, hl2, hi2, hc⟩, hs2⟩ := h
  subst hk2
  subst hzw
  refine fK1 ?_
  refine fx_si 6 411 (by decide +kernel) (Or.inr (fI_n4 _)) rfl ?_
  dsimp only [List.set]
  refine fx_go 1962 (by decide +kernel) ?_
  refine fx_inc 4 1965 6 (by decide +kernel) rfl (Or.inr (f_n4p (v := 1274) rfl (by decide))) rfl ?_
  dsimp only [List.set]
  exact fx_go 23 (by decide +kernel) (kq g2 _ _ ⟨hs2, hg2, hl2, hi2⟩ (fI_n4 _) (fI_n4 _))
end FYN
end
