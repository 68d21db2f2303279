/-! fx: the class's house() -/
def cpH (g : Nat → Nat → Int) (a b : Nat) : Nat → Nat → Int := fu (fu (fu (fu (fu (fu (fcy (fcy (fcy (fcy g (a + 1) (b + 1)) (a + 2) (b + 2)) (a + 3) (b + 3)) (a + 4) (b + 4)) b 4 (g a 4)) b 5 (g a 5)) b 6 (g a 6)) b 7 (g a 7)) b 8 (g a 8)) b 9 (g a 9)
def cpT (g : Nat → Nat → Int) (a b : Nat) : Nat → Nat → Int := fu (fu (fu (fu (fu (fu (fcy (fcy (fcy (fcy (fcy g (a + 1) (b + 1)) (a + 2) (b + 2)) (a + 3) (b + 3)) (a + 4) (b + 4)) (a + 5) (b + 5)) b 5 (g a 5)) b 6 (g a 6)) b 7 (g a 7)) b 8 (g a 8)) b 9 (g a 9)) b 10 (g a 10)
theorem cpH_ne {g : Nat → Nat → Int} {a b c j : Nat} (h : c < b ∨ b + 4 < c) : cpH g a b c j = g c j := by
  unfold cpH
  rw [fu_nc (by omega), fu_nc (by omega), fu_nc (by omega), fu_nc (by omega), fu_nc (by omega), fu_nc (by omega), fcy_app, if_neg (by omega), fcy_app, if_neg (by omega), fcy_app, if_neg (by omega), fcy_app, if_neg (by omega)]
theorem cpT_ne {g : Nat → Nat → Int} {a b c j : Nat} (h : c < b ∨ b + 5 < c) : cpT g a b c j = g c j := by
  unfold cpT
  rw [fu_nc (by omega), fu_nc (by omega), fu_nc (by omega), fu_nc (by omega), fu_nc (by omega), fu_nc (by omega), fcy_app, if_neg (by omega), fcy_app, if_neg (by omega), fcy_app, if_neg (by omega), fcy_app, if_neg (by omega), fcy_app, if_neg (by omega)]
theorem cpH_f {g : Nat → Nat → Int} {a b j : Nat} (h4 : 4 ≤ j) (h9 : j ≤ 9) : cpH g a b b j = g a j := by
  unfold cpH
  rcases (by omega : j = 4 ∨ j = 5 ∨ j = 6 ∨ j = 7 ∨ j = 8 ∨ j = 9) with rfl | rfl | rfl | rfl | rfl | rfl
  all_goals simp only [fu_app, Nat.reduceEqDiff, and_true, and_false, if_true, if_false, ite_true, ite_false, reduceIte]
theorem cpH_a {g : Nat → Nat → Int} {a b i j : Nat} (h1 : 1 ≤ i) (h4 : i ≤ 4) (hd : a + 4 < b ∨ b + 4 < a) : cpH g a b (b + i) j = g (a + i) j := by
  unfold cpH
  rw [fu_nc (by omega), fu_nc (by omega), fu_nc (by omega), fu_nc (by omega), fu_nc (by omega), fu_nc (by omega)]
  rcases (by omega : i = 1 ∨ i = 2 ∨ i = 3 ∨ i = 4) with rfl | rfl | rfl | rfl
  · rw [fcy_app, if_neg (by omega), fcy_app, if_neg (by omega), fcy_app, if_neg (by omega), fcy_app, if_pos rfl]
  · rw [fcy_app, if_neg (by omega), fcy_app, if_neg (by omega), fcy_app, if_pos rfl, fcy_app, if_neg (by omega)]
  · rw [fcy_app, if_neg (by omega), fcy_app, if_pos rfl, fcy_app, if_neg (by omega), fcy_app, if_neg (by omega)]
  · rw [fcy_app, if_pos rfl, fcy_app, if_neg (by omega), fcy_app, if_neg (by omega), fcy_app, if_neg (by omega)]
section FYA
variable {W : ax_W} {r : Nat} {g : Nat → Nat → Int} {Q : Nat → Nat → (Nat → Nat → Int) → Prop} {T : Int → Int} {E : Int}
theorem sp_cpH_house_draft (kq : Q 0 0 (cpH g 3 29)) : fx W r 0 65 0 [234, 26] [] g Q := by
  refine fx_rg (fun hg => ?_)
  have v4 := hg 3 4 (by decide) (by decide +kernel) (by decide +kernel)
  have v5 := hg 3 5 (by decide) (by decide +kernel) (by decide +kernel)
  have v6 := hg 3 6 (by decide) (by decide +kernel) (by decide +kernel)
  have v7 := hg 3 7 (by decide) (by decide +kernel) (by decide +kernel)
  have v8 := hg 3 8 (by decide) (by decide +kernel) (by decide +kernel)
  have v9 := hg 3 9 (by decide) (by decide +kernel) (by decide +kernel)
  unfold fR at v4 v5 v6 v7 v8 v9
  refine fx_la 1 1 (v := 26) (by decide +kernel) rfl (by decide +kernel) ?_
  refine fx_gp 26 3 0 34 4 (by decide +kernel) ?_
  refine fx_ci (0) 5 (by decide +kernel) ?_
  refine fx_la 0 6 (v := 234) (by decide +kernel) rfl (by decide +kernel) ?_
  refine fx_gp 234 29 0 242 9 (by decide +kernel) ?_
  refine fx_ci (0) 10 (by decide +kernel) ?_
  refine fx_ci (8) 12 (by decide +kernel) ?_
  refine fx_cpy 34 4 242 30 8 15 (by decide +kernel) rfl ?_
  refine fx_la 1 16 (v := 26) (by decide +kernel) rfl (by decide +kernel) ?_
  refine fx_gp 26 3 1 42 19 (by decide +kernel) ?_
  refine fx_ci (0) 20 (by decide +kernel) ?_
  refine fx_la 0 21 (v := 234) (by decide +kernel) rfl (by decide +kernel) ?_
  refine fx_gp 234 29 1 250 24 (by decide +kernel) ?_
  refine fx_ci (0) 25 (by decide +kernel) ?_
  refine fx_ci (8) 27 (by decide +kernel) ?_
  refine fx_cpy 42 5 250 31 8 30 (by decide +kernel) rfl ?_
  refine fx_la 1 31 (v := 26) (by decide +kernel) rfl (by decide +kernel) ?_
  refine fx_gp 26 3 2 50 34 (by decide +kernel) ?_
  refine fx_ci (0) 35 (by decide +kernel) ?_
  refine fx_la 0 36 (v := 234) (by decide +kernel) rfl (by decide +kernel) ?_
  refine fx_gp 234 29 2 258 39 (by decide +kernel) ?_
  refine fx_ci (0) 40 (by decide +kernel) ?_
  refine fx_ci (48) 42 (by decide +kernel) ?_
  refine fx_cpy 50 6 258 32 48 45 (by decide +kernel) rfl ?_
  refine fx_la 1 46 (v := 26) (by decide +kernel) rfl (by decide +kernel) ?_
  refine fx_gp 26 3 3 58 49 (by decide +kernel) ?_
  refine fx_ci (0) 50 (by decide +kernel) ?_
  refine fx_la 0 51 (v := 234) (by decide +kernel) rfl (by decide +kernel) ?_
  refine fx_gp 234 29 3 266 54 (by decide +kernel) ?_
  refine fx_ci (0) 55 (by decide +kernel) ?_
  refine fx_ci (8) 57 (by decide +kernel) ?_
  refine fx_cpy 58 7 266 33 8 60 (by decide +kernel) rfl ?_
  refine fx_la 0 61 (v := 234) (by decide +kernel) rfl (by decide +kernel) ?_
  refine fx_la 1 62 (v := 26) (by decide +kernel) rfl (by decide +kernel) ?_
  refine fx_gi 26 3 4 65 (by decide +kernel) ?_
  try simp only [fu_app, fcy_app, Nat.reduceEqDiff, and_true, and_false, false_and, true_and, if_true, if_false, ite_true, ite_false, reduceIte, Int.reduceToNat, fx_simp0]
  refine fx_pi 234 29 4 68 (by decide +kernel) (by unfold fR; omega) ?_
  refine fx_la 0 69 (v := 234) (by decide +kernel) rfl (by decide +kernel) ?_
  refine fx_la 1 70 (v := 26) (by decide +kernel) rfl (by decide +kernel) ?_
  refine fx_gi 26 3 5 73 (by decide +kernel) ?_
  try simp only [fu_app, fcy_app, Nat.reduceEqDiff, and_true, and_false, false_and, true_and, if_true, if_false, ite_true, ite_false, reduceIte, Int.reduceToNat, fx_simp0]
  refine fx_pi 234 29 5 76 (by decide +kernel) (by unfold fR; omega) ?_
  refine fx_la 0 77 (v := 234) (by decide +kernel) rfl (by decide +kernel) ?_
  refine fx_la 1 78 (v := 26) (by decide +kernel) rfl (by decide +kernel) ?_
  refine fx_gi 26 3 6 81 (by decide +kernel) ?_
  try simp only [fu_app, fcy_app, Nat.reduceEqDiff, and_true, and_false, false_and, true_and, if_true, if_false, ite_true, ite_false, reduceIte, Int.reduceToNat, fx_simp0]
  refine fx_pi 234 29 6 84 (by decide +kernel) (by unfold fR; omega) ?_
  refine fx_la 0 85 (v := 234) (by decide +kernel) rfl (by decide +kernel) ?_
  refine fx_la 1 86 (v := 26) (by decide +kernel) rfl (by decide +kernel) ?_
  refine fx_gi 26 3 7 89 (by decide +kernel) ?_
  try simp only [fu_app, fcy_app, Nat.reduceEqDiff, and_true, and_false, false_and, true_and, if_true, if_false, ite_true, ite_false, reduceIte, Int.reduceToNat, fx_simp0]
  refine fx_pi 234 29 7 92 (by decide +kernel) (by unfold fR; omega) ?_
  refine fx_la 0 93 (v := 234) (by decide +kernel) rfl (by decide +kernel) ?_
  refine fx_la 1 94 (v := 26) (by decide +kernel) rfl (by decide +kernel) ?_
  refine fx_gi 26 3 8 97 (by decide +kernel) ?_
  try simp only [fu_app, fcy_app, Nat.reduceEqDiff, and_true, and_false, false_and, true_and, if_true, if_false, ite_true, ite_false, reduceIte, Int.reduceToNat, fx_simp0]
  refine fx_pi 234 29 8 100 (by decide +kernel) (by unfold fR; omega) ?_
  refine fx_la 0 101 (v := 234) (by decide +kernel) rfl (by decide +kernel) ?_
  refine fx_la 1 102 (v := 26) (by decide +kernel) rfl (by decide +kernel) ?_
  refine fx_gi 26 3 9 105 (by decide +kernel) ?_
  try simp only [fu_app, fcy_app, Nat.reduceEqDiff, and_true, and_false, false_and, true_and, if_true, if_false, ite_true, ite_false, reduceIte, Int.reduceToNat, fx_simp0]
  refine fx_pi 234 29 9 108 (by decide +kernel) (by unfold fR; omega) ?_
  refine fx_vret (by decide +kernel) ?_
  exact kq
theorem sp_cpH_draft_house (kq : Q 0 0 (cpH g 29 3)) : fx W r 0 65 0 [26, 234] [] g Q := by
  refine fx_rg (fun hg => ?_)
  have v4 := hg 29 4 (by decide) (by decide +kernel) (by decide +kernel)
  have v5 := hg 29 5 (by decide) (by decide +kernel) (by decide +kernel)
  have v6 := hg 29 6 (by decide) (by decide +kernel) (by decide +kernel)
  have v7 := hg 29 7 (by decide) (by decide +kernel) (by decide +kernel)
  have v8 := hg 29 8 (by decide) (by decide +kernel) (by decide +kernel)
  have v9 := hg 29 9 (by decide) (by decide +kernel) (by decide +kernel)
  unfold fR at v4 v5 v6 v7 v8 v9
  refine fx_la 1 1 (v := 234) (by decide +kernel) rfl (by decide +kernel) ?_
  refine fx_gp 234 29 0 242 4 (by decide +kernel) ?_
  refine fx_ci (0) 5 (by decide +kernel) ?_
  refine fx_la 0 6 (v := 26) (by decide +kernel) rfl (by decide +kernel) ?_
  refine fx_gp 26 3 0 34 9 (by decide +kernel) ?_
  refine fx_ci (0) 10 (by decide +kernel) ?_
  refine fx_ci (8) 12 (by decide +kernel) ?_
  refine fx_cpy 242 30 34 4 8 15 (by decide +kernel) rfl ?_
  refine fx_la 1 16 (v := 234) (by decide +kernel) rfl (by decide +kernel) ?_
  refine fx_gp 234 29 1 250 19 (by decide +kernel) ?_
  refine fx_ci (0) 20 (by decide +kernel) ?_
  refine fx_la 0 21 (v := 26) (by decide +kernel) rfl (by decide +kernel) ?_
  refine fx_gp 26 3 1 42 24 (by decide +kernel) ?_
  refine fx_ci (0) 25 (by decide +kernel) ?_
  refine fx_ci (8) 27 (by decide +kernel) ?_
  refine fx_cpy 250 31 42 5 8 30 (by decide +kernel) rfl ?_
  refine fx_la 1 31 (v := 234) (by decide +kernel) rfl (by decide +kernel) ?_
  refine fx_gp 234 29 2 258 34 (by decide +kernel) ?_
  refine fx_ci (0) 35 (by decide +kernel) ?_
  refine fx_la 0 36 (v := 26) (by decide +kernel) rfl (by decide +kernel) ?_
  refine fx_gp 26 3 2 50 39 (by decide +kernel) ?_
  refine fx_ci (0) 40 (by decide +kernel) ?_
  refine fx_ci (48) 42 (by decide +kernel) ?_
  refine fx_cpy 258 32 50 6 48 45 (by decide +kernel) rfl ?_
  refine fx_la 1 46 (v := 234) (by decide +kernel) rfl (by decide +kernel) ?_
  refine fx_gp 234 29 3 266 49 (by decide +kernel) ?_
  refine fx_ci (0) 50 (by decide +kernel) ?_
  refine fx_la 0 51 (v := 26) (by decide +kernel) rfl (by decide +kernel) ?_
  refine fx_gp 26 3 3 58 54 (by decide +kernel) ?_
  refine fx_ci (0) 55 (by decide +kernel) ?_
  refine fx_ci (8) 57 (by decide +kernel) ?_
  refine fx_cpy 266 33 58 7 8 60 (by decide +kernel) rfl ?_
  refine fx_la 0 61 (v := 26) (by decide +kernel) rfl (by decide +kernel) ?_
  refine fx_la 1 62 (v := 234) (by decide +kernel) rfl (by decide +kernel) ?_
  refine fx_gi 234 29 4 65 (by decide +kernel) ?_
  try simp only [fu_app, fcy_app, Nat.reduceEqDiff, and_true, and_false, false_and, true_and, if_true, if_false, ite_true, ite_false, reduceIte, Int.reduceToNat, fx_simp0]
  refine fx_pi 26 3 4 68 (by decide +kernel) (by unfold fR; omega) ?_
  refine fx_la 0 69 (v := 26) (by decide +kernel) rfl (by decide +kernel) ?_
  refine fx_la 1 70 (v := 234) (by decide +kernel) rfl (by decide +kernel) ?_
  refine fx_gi 234 29 5 73 (by decide +kernel) ?_
  try simp only [fu_app, fcy_app, Nat.reduceEqDiff, and_true, and_false, false_and, true_and, if_true, if_false, ite_true, ite_false, reduceIte, Int.reduceToNat, fx_simp0]
  refine fx_pi 26 3 5 76 (by decide +kernel) (by unfold fR; omega) ?_
  refine fx_la 0 77 (v := 26) (by decide +kernel) rfl (by decide +kernel) ?_
  refine fx_la 1 78 (v := 234) (by decide +kernel) rfl (by decide +kernel) ?_
  refine fx_gi 234 29 6 81 (by decide +kernel) ?_
  try simp only [fu_app, fcy_app, Nat.reduceEqDiff, and_true, and_false, false_and, true_and, if_true, if_false, ite_true, ite_false, reduceIte, Int.reduceToNat, fx_simp0]
  refine fx_pi 26 3 6 84 (by decide +kernel) (by unfold fR; omega) ?_
  refine fx_la 0 85 (v := 26) (by decide +kernel) rfl (by decide +kernel) ?_
  refine fx_la 1 86 (v := 234) (by decide +kernel) rfl (by decide +kernel) ?_
  refine fx_gi 234 29 7 89 (by decide +kernel) ?_
  try simp only [fu_app, fcy_app, Nat.reduceEqDiff, and_true, and_false, false_and, true_and, if_true, if_false, ite_true, ite_false, reduceIte, Int.reduceToNat, fx_simp0]
  refine fx_pi 26 3 7 92 (by decide +kernel) (by unfold fR; omega) ?_
  refine fx_la 0 93 (v := 26) (by decide +kernel) rfl (by decide +kernel) ?_
  refine fx_la 1 94 (v := 234) (by decide +kernel) rfl (by decide +kernel) ?_
  refine fx_gi 234 29 8 97 (by decide +kernel) ?_
  try simp only [fu_app, fcy_app, Nat.reduceEqDiff, and_true, and_false, false_and, true_and, if_true, if_false, ite_true, ite_false, reduceIte, Int.reduceToNat, fx_simp0]
  refine fx_pi 26 3 8 100 (by decide +kernel) (by unfold fR; omega) ?_
  refine fx_la 0 101 (v := 26) (by decide +kernel) rfl (by decide +kernel) ?_
  refine fx_la 1 102 (v := 234) (by decide +kernel) rfl (by decide +kernel) ?_
  refine fx_gi 234 29 9 105 (by decide +kernel) ?_
  try simp only [fu_app, fcy_app, Nat.reduceEqDiff, and_true, and_false, false_and, true_and, if_true, if_false, ite_true, ite_false, reduceIte, Int.reduceToNat, fx_simp0]
  refine fx_pi 26 3 9 108 (by decide +kernel) (by unfold fR; omega) ?_
  refine fx_vret (by decide +kernel) ?_
  exact kq
theorem sp_cpH_house_image (kq : Q 0 0 (cpH g 3 56)) : fx W r 0 65 0 [450, 26] [] g Q := by
  refine fx_rg (fun hg => ?_)
  have v4 := hg 3 4 (by decide) (by decide +kernel) (by decide +kernel)
  have v5 := hg 3 5 (by decide) (by decide +kernel) (by decide +kernel)
  have v6 := hg 3 6 (by decide) (by decide +kernel) (by decide +kernel)
  have v7 := hg 3 7 (by decide) (by decide +kernel) (by decide +kernel)
  have v8 := hg 3 8 (by decide) (by decide +kernel) (by decide +kernel)
  have v9 := hg 3 9 (by decide) (by decide +kernel) (by decide +kernel)
  unfold fR at v4 v5 v6 v7 v8 v9
  refine fx_la 1 1 (v := 26) (by decide +kernel) rfl (by decide +kernel) ?_
  refine fx_gp 26 3 0 34 4 (by decide +kernel) ?_
  refine fx_ci (0) 5 (by decide +kernel) ?_
  refine fx_la 0 6 (v := 450) (by decide +kernel) rfl (by decide +kernel) ?_
  refine fx_gp 450 56 0 458 9 (by decide +kernel) ?_
  refine fx_ci (0) 10 (by decide +kernel) ?_
  refine fx_ci (8) 12 (by decide +kernel) ?_
  refine fx_cpy 34 4 458 57 8 15 (by decide +kernel) rfl ?_
  refine fx_la 1 16 (v := 26) (by decide +kernel) rfl (by decide +kernel) ?_
  refine fx_gp 26 3 1 42 19 (by decide +kernel) ?_
  refine fx_ci (0) 20 (by decide +kernel) ?_
  refine fx_la 0 21 (v := 450) (by decide +kernel) rfl (by decide +kernel) ?_
  refine fx_gp 450 56 1 466 24 (by decide +kernel) ?_
  refine fx_ci (0) 25 (by decide +kernel) ?_
  refine fx_ci (8) 27 (by decide +kernel) ?_
  refine fx_cpy 42 5 466 58 8 30 (by decide +kernel) rfl ?_
  refine fx_la 1 31 (v := 26) (by decide +kernel) rfl (by decide +kernel) ?_
  refine fx_gp 26 3 2 50 34 (by decide +kernel) ?_
  refine fx_ci (0) 35 (by decide +kernel) ?_
  refine fx_la 0 36 (v := 450) (by decide +kernel) rfl (by decide +kernel) ?_
  refine fx_gp 450 56 2 474 39 (by decide +kernel) ?_
  refine fx_ci (0) 40 (by decide +kernel) ?_
  refine fx_ci (48) 42 (by decide +kernel) ?_
  refine fx_cpy 50 6 474 59 48 45 (by decide +kernel) rfl ?_
  refine fx_la 1 46 (v := 26) (by decide +kernel) rfl (by decide +kernel) ?_
  refine fx_gp 26 3 3 58 49 (by decide +kernel) ?_
  refine fx_ci (0) 50 (by decide +kernel) ?_
  refine fx_la 0 51 (v := 450) (by decide +kernel) rfl (by decide +kernel) ?_
  refine fx_gp 450 56 3 482 54 (by decide +kernel) ?_
  refine fx_ci (0) 55 (by decide +kernel) ?_
  refine fx_ci (8) 57 (by decide +kernel) ?_
  refine fx_cpy 58 7 482 60 8 60 (by decide +kernel) rfl ?_
  refine fx_la 0 61 (v := 450) (by decide +kernel) rfl (by decide +kernel) ?_
  refine fx_la 1 62 (v := 26) (by decide +kernel) rfl (by decide +kernel) ?_
  refine fx_gi 26 3 4 65 (by decide +kernel) ?_
  try simp only [fu_app, fcy_app, Nat.reduceEqDiff, and_true, and_false, false_and, true_and, if_true, if_false, ite_true, ite_false, reduceIte, Int.reduceToNat, fx_simp0]
  refine fx_pi 450 56 4 68 (by decide +kernel) (by unfold fR; omega) ?_
  refine fx_la 0 69 (v := 450) (by decide +kernel) rfl (by decide +kernel) ?_
  refine fx_la 1 70 (v := 26) (by decide +kernel) rfl (by decide +kernel) ?_
  refine fx_gi 26 3 5 73 (by decide +kernel) ?_
  try simp only [fu_app, fcy_app, Nat.reduceEqDiff, and_true, and_false, false_and, true_and, if_true, if_false, ite_true, ite_false, reduceIte, Int.reduceToNat, fx_simp0]
  refine fx_pi 450 56 5 76 (by decide +kernel) (by unfold fR; omega) ?_
  refine fx_la 0 77 (v := 450) (by decide +kernel) rfl (by decide +kernel) ?_
  refine fx_la 1 78 (v := 26) (by decide +kernel) rfl (by decide +kernel) ?_
  refine fx_gi 26 3 6 81 (by decide +kernel) ?_
  try simp only [fu_app, fcy_app, Nat.reduceEqDiff, and_true, and_false, false_and, true_and, if_true, if_false, ite_true, ite_false, reduceIte, Int.reduceToNat, fx_simp0]
  refine fx_pi 450 56 6 84 (by decide +kernel) (by unfold fR; omega) ?_
  refine fx_la 0 85 (v := 450) (by decide +kernel) rfl (by decide +kernel) ?_
  refine fx_la 1 86 (v := 26) (by decide +kernel) rfl (by decide +kernel) ?_
  refine fx_gi 26 3 7 89 (by decide +kernel) ?_
  try simp only [fu_app, fcy_app, Nat.reduceEqDiff, and_true, and_false, false_and, true_and, if_true, if_false, ite_true, ite_false, reduceIte, Int.reduceToNat, fx_simp0]
  refine fx_pi 450 56 7 92 (by decide +kernel) (by unfold fR; omega) ?_
  refine fx_la 0 93 (v := 450) (by decide +kernel) rfl (by decide +kernel) ?_
  refine fx_la 1 94 (v := 26) (by decide +kernel) rfl (by decide +kernel) ?_
  refine fx_gi 26 3 8 97 (by decide +kernel) ?_
  try simp only [fu_app, fcy_app, Nat.reduceEqDiff, and_true, and_false, false_and, true_and, if_true, if_false, ite_true, ite_false, reduceIte, Int.reduceToNat, fx_simp0]
  refine fx_pi 450 56 8 100 (by decide +kernel) (by unfold fR; omega) ?_
  refine fx_la 0 101 (v := 450) (by decide +kernel) rfl (by decide +kernel) ?_
  refine fx_la 1 102 (v := 26) (by decide +kernel) rfl (by decide +kernel) ?_
  refine fx_gi 26 3 9 105 (by decide +kernel) ?_
  try simp only [fu_app, fcy_app, Nat.reduceEqDiff, and_true, and_false, false_and, true_and, if_true, if_false, ite_true, ite_false, reduceIte, Int.reduceToNat, fx_simp0]
  refine fx_pi 450 56 9 108 (by decide +kernel) (by unfold fR; omega) ?_
  refine fx_vret (by decide +kernel) ?_
  exact kq
theorem sp_cpH_image_house (kq : Q 0 0 (cpH g 56 3)) : fx W r 0 65 0 [26, 450] [] g Q := by
  refine fx_rg (fun hg => ?_)
  have v4 := hg 56 4 (by decide) (by decide +kernel) (by decide +kernel)
  have v5 := hg 56 5 (by decide) (by decide +kernel) (by decide +kernel)
  have v6 := hg 56 6 (by decide) (by decide +kernel) (by decide +kernel)
  have v7 := hg 56 7 (by decide) (by decide +kernel) (by decide +kernel)
  have v8 := hg 56 8 (by decide) (by decide +kernel) (by decide +kernel)
  have v9 := hg 56 9 (by decide) (by decide +kernel) (by decide +kernel)
  unfold fR at v4 v5 v6 v7 v8 v9
  refine fx_la 1 1 (v := 450) (by decide +kernel) rfl (by decide +kernel) ?_
  refine fx_gp 450 56 0 458 4 (by decide +kernel) ?_
  refine fx_ci (0) 5 (by decide +kernel) ?_
  refine fx_la 0 6 (v := 26) (by decide +kernel) rfl (by decide +kernel) ?_
  refine fx_gp 26 3 0 34 9 (by decide +kernel) ?_
  refine fx_ci (0) 10 (by decide +kernel) ?_
  refine fx_ci (8) 12 (by decide +kernel) ?_
  refine fx_cpy 458 57 34 4 8 15 (by decide +kernel) rfl ?_
  refine fx_la 1 16 (v := 450) (by decide +kernel) rfl (by decide +kernel) ?_
  refine fx_gp 450 56 1 466 19 (by decide +kernel) ?_
  refine fx_ci (0) 20 (by decide +kernel) ?_
  refine fx_la 0 21 (v := 26) (by decide +kernel) rfl (by decide +kernel) ?_
  refine fx_gp 26 3 1 42 24 (by decide +kernel) ?_
  refine fx_ci (0) 25 (by decide +kernel) ?_
  refine fx_ci (8) 27 (by decide +kernel) ?_
  refine fx_cpy 466 58 42 5 8 30 (by decide +kernel) rfl ?_
  refine fx_la 1 31 (v := 450) (by decide +kernel) rfl (by decide +kernel) ?_
  refine fx_gp 450 56 2 474 34 (by decide +kernel) ?_
  refine fx_ci (0) 35 (by decide +kernel) ?_
  refine fx_la 0 36 (v := 26) (by decide +kernel) rfl (by decide +kernel) ?_
  refine fx_gp 26 3 2 50 39 (by decide +kernel) ?_
  refine fx_ci (0) 40 (by decide +kernel) ?_
  refine fx_ci (48) 42 (by decide +kernel) ?_
  refine fx_cpy 474 59 50 6 48 45 (by decide +kernel) rfl ?_
  refine fx_la 1 46 (v := 450) (by decide +kernel) rfl (by decide +kernel) ?_
  refine fx_gp 450 56 3 482 49 (by decide +kernel) ?_
  refine fx_ci (0) 50 (by decide +kernel) ?_
  refine fx_la 0 51 (v := 26) (by decide +kernel) rfl (by decide +kernel) ?_
  refine fx_gp 26 3 3 58 54 (by decide +kernel) ?_
  refine fx_ci (0) 55 (by decide +kernel) ?_
  refine fx_ci (8) 57 (by decide +kernel) ?_
  refine fx_cpy 482 60 58 7 8 60 (by decide +kernel) rfl ?_
  refine fx_la 0 61 (v := 26) (by decide +kernel) rfl (by decide +kernel) ?_
  refine fx_la 1 62 (v := 450) (by decide +kernel) rfl (by decide +kernel) ?_
  refine fx_gi 450 56 4 65 (by decide +kernel) ?_
  try simp only [fu_app, fcy_app, Nat.reduceEqDiff, and_true, and_false, false_and, true_and, if_true, if_false, ite_true, ite_false, reduceIte, Int.reduceToNat, fx_simp0]
  refine fx_pi 26 3 4 68 (by decide +kernel) (by unfold fR; omega) ?_
  refine fx_la 0 69 (v := 26) (by decide +kernel) rfl (by decide +kernel) ?_
  refine fx_la 1 70 (v := 450) (by decide +kernel) rfl (by decide +kernel) ?_
  refine fx_gi 450 56 5 73 (by decide +kernel) ?_
  try simp only [fu_app, fcy_app, Nat.reduceEqDiff, and_true, and_false, false_and, true_and, if_true, if_false, ite_true, ite_false, reduceIte, Int.reduceToNat, fx_simp0]
  refine fx_pi 26 3 5 76 (by decide +kernel) (by unfold fR; omega) ?_
  refine fx_la 0 77 (v := 26) (by decide +kernel) rfl (by decide +kernel) ?_
  refine fx_la 1 78 (v := 450) (by decide +kernel) rfl (by decide +kernel) ?_
  refine fx_gi 450 56 6 81 (by decide +kernel) ?_
  try simp only [fu_app, fcy_app, Nat.reduceEqDiff, and_true, and_false, false_and, true_and, if_true, if_false, ite_true, ite_false, reduceIte, Int.reduceToNat, fx_simp0]
  refine fx_pi 26 3 6 84 (by decide +kernel) (by unfold fR; omega) ?_
  refine fx_la 0 85 (v := 26) (by decide +kernel) rfl (by decide +kernel) ?_
  refine fx_la 1 86 (v := 450) (by decide +kernel) rfl (by decide +kernel) ?_
  refine fx_gi 450 56 7 89 (by decide +kernel) ?_
  try simp only [fu_app, fcy_app, Nat.reduceEqDiff, and_true, and_false, false_and, true_and, if_true, if_false, ite_true, ite_false, reduceIte, Int.reduceToNat, fx_simp0]
  refine fx_pi 26 3 7 92 (by decide +kernel) (by unfold fR; omega) ?_
  refine fx_la 0 93 (v := 26) (by decide +kernel) rfl (by decide +kernel) ?_
  refine fx_la 1 94 (v := 450) (by decide +kernel) rfl (by decide +kernel) ?_
  refine fx_gi 450 56 8 97 (by decide +kernel) ?_
  try simp only [fu_app, fcy_app, Nat.reduceEqDiff, and_true, and_false, false_and, true_and, if_true, if_false, ite_true, ite_false, reduceIte, Int.reduceToNat, fx_simp0]
  refine fx_pi 26 3 8 100 (by decide +kernel) (by unfold fR; omega) ?_
  refine fx_la 0 101 (v := 26) (by decide +kernel) rfl (by decide +kernel) ?_
  refine fx_la 1 102 (v := 450) (by decide +kernel) rfl (by decide +kernel) ?_
  refine fx_gi 450 56 9 105 (by decide +kernel) ?_
  try simp only [fu_app, fcy_app, Nat.reduceEqDiff, and_true, and_false, false_and, true_and, if_true, if_false, ite_true, ite_false, reduceIte, Int.reduceToNat, fx_simp0]
  refine fx_pi 26 3 9 108 (by decide +kernel) (by unfold fR; omega) ?_
  refine fx_vret (by decide +kernel) ?_
  exact kq
theorem sp_cpT_table_scratch (kq : Q 0 0 (cpT g 16 22)) : fx W r 0 63 0 [178, 130] [] g Q := by
  refine fx_rg (fun hg => ?_)
  have v5 := hg 16 5 (by decide) (by decide +kernel) (by decide +kernel)
  have v6 := hg 16 6 (by decide) (by decide +kernel) (by decide +kernel)
  have v7 := hg 16 7 (by decide) (by decide +kernel) (by decide +kernel)
  have v8 := hg 16 8 (by decide) (by decide +kernel) (by decide +kernel)
  have v9 := hg 16 9 (by decide) (by decide +kernel) (by decide +kernel)
  have v10 := hg 16 10 (by decide) (by decide +kernel) (by decide +kernel)
  unfold fR at v5 v6 v7 v8 v9 v10
  refine fx_la 1 1 (v := 130) (by decide +kernel) rfl (by decide +kernel) ?_
  refine fx_gp 130 16 0 138 4 (by decide +kernel) ?_
  refine fx_ci (0) 5 (by decide +kernel) ?_
  refine fx_la 0 6 (v := 178) (by decide +kernel) rfl (by decide +kernel) ?_
  refine fx_gp 178 22 0 186 9 (by decide +kernel) ?_
  refine fx_ci (0) 10 (by decide +kernel) ?_
  refine fx_ci (8) 12 (by decide +kernel) ?_
  refine fx_cpy 138 17 186 23 8 15 (by decide +kernel) rfl ?_
  refine fx_la 1 16 (v := 130) (by decide +kernel) rfl (by decide +kernel) ?_
  refine fx_gp 130 16 1 146 19 (by decide +kernel) ?_
  refine fx_ci (0) 20 (by decide +kernel) ?_
  refine fx_la 0 21 (v := 178) (by decide +kernel) rfl (by decide +kernel) ?_
  refine fx_gp 178 22 1 194 24 (by decide +kernel) ?_
  refine fx_ci (0) 25 (by decide +kernel) ?_
  refine fx_ci (8) 27 (by decide +kernel) ?_
  refine fx_cpy 146 18 194 24 8 30 (by decide +kernel) rfl ?_
  refine fx_la 1 31 (v := 130) (by decide +kernel) rfl (by decide +kernel) ?_
  refine fx_gp 130 16 2 154 34 (by decide +kernel) ?_
  refine fx_ci (0) 35 (by decide +kernel) ?_
  refine fx_la 0 36 (v := 178) (by decide +kernel) rfl (by decide +kernel) ?_
  refine fx_gp 178 22 2 202 39 (by decide +kernel) ?_
  refine fx_ci (0) 40 (by decide +kernel) ?_
  refine fx_ci (8) 42 (by decide +kernel) ?_
  refine fx_cpy 154 19 202 25 8 45 (by decide +kernel) rfl ?_
  refine fx_la 1 46 (v := 130) (by decide +kernel) rfl (by decide +kernel) ?_
  refine fx_gp 130 16 3 162 49 (by decide +kernel) ?_
  refine fx_ci (0) 50 (by decide +kernel) ?_
  refine fx_la 0 51 (v := 178) (by decide +kernel) rfl (by decide +kernel) ?_
  refine fx_gp 178 22 3 210 54 (by decide +kernel) ?_
  refine fx_ci (0) 55 (by decide +kernel) ?_
  refine fx_ci (8) 57 (by decide +kernel) ?_
  refine fx_cpy 162 20 210 26 8 60 (by decide +kernel) rfl ?_
  refine fx_la 1 61 (v := 130) (by decide +kernel) rfl (by decide +kernel) ?_
  refine fx_gp 130 16 4 170 64 (by decide +kernel) ?_
  refine fx_ci (0) 65 (by decide +kernel) ?_
  refine fx_la 0 66 (v := 178) (by decide +kernel) rfl (by decide +kernel) ?_
  refine fx_gp 178 22 4 218 69 (by decide +kernel) ?_
  refine fx_ci (0) 70 (by decide +kernel) ?_
  refine fx_ci (60) 72 (by decide +kernel) ?_
  refine fx_cpy 170 21 218 27 60 75 (by decide +kernel) rfl ?_
  refine fx_la 0 76 (v := 178) (by decide +kernel) rfl (by decide +kernel) ?_
  refine fx_la 1 77 (v := 130) (by decide +kernel) rfl (by decide +kernel) ?_
  refine fx_gi 130 16 5 80 (by decide +kernel) ?_
  try simp only [fu_app, fcy_app, Nat.reduceEqDiff, and_true, and_false, false_and, true_and, if_true, if_false, ite_true, ite_false, reduceIte, Int.reduceToNat, fx_simp0]
  refine fx_pi 178 22 5 83 (by decide +kernel) (by unfold fR; omega) ?_
  refine fx_la 0 84 (v := 178) (by decide +kernel) rfl (by decide +kernel) ?_
  refine fx_la 1 85 (v := 130) (by decide +kernel) rfl (by decide +kernel) ?_
  refine fx_gi 130 16 6 88 (by decide +kernel) ?_
  try simp only [fu_app, fcy_app, Nat.reduceEqDiff, and_true, and_false, false_and, true_and, if_true, if_false, ite_true, ite_false, reduceIte, Int.reduceToNat, fx_simp0]
  refine fx_pi 178 22 6 91 (by decide +kernel) (by unfold fR; omega) ?_
  refine fx_la 0 92 (v := 178) (by decide +kernel) rfl (by decide +kernel) ?_
  refine fx_la 1 93 (v := 130) (by decide +kernel) rfl (by decide +kernel) ?_
  refine fx_gi 130 16 7 96 (by decide +kernel) ?_
  try simp only [fu_app, fcy_app, Nat.reduceEqDiff, and_true, and_false, false_and, true_and, if_true, if_false, ite_true, ite_false, reduceIte, Int.reduceToNat, fx_simp0]
  refine fx_pi 178 22 7 99 (by decide +kernel) (by unfold fR; omega) ?_
  refine fx_la 0 100 (v := 178) (by decide +kernel) rfl (by decide +kernel) ?_
  refine fx_la 1 101 (v := 130) (by decide +kernel) rfl (by decide +kernel) ?_
  refine fx_gi 130 16 8 104 (by decide +kernel) ?_
  try simp only [fu_app, fcy_app, Nat.reduceEqDiff, and_true, and_false, false_and, true_and, if_true, if_false, ite_true, ite_false, reduceIte, Int.reduceToNat, fx_simp0]
  refine fx_pi 178 22 8 107 (by decide +kernel) (by unfold fR; omega) ?_
  refine fx_la 0 108 (v := 178) (by decide +kernel) rfl (by decide +kernel) ?_
  refine fx_la 1 109 (v := 130) (by decide +kernel) rfl (by decide +kernel) ?_
  refine fx_gi 130 16 9 112 (by decide +kernel) ?_
  try simp only [fu_app, fcy_app, Nat.reduceEqDiff, and_true, and_false, false_and, true_and, if_true, if_false, ite_true, ite_false, reduceIte, Int.reduceToNat, fx_simp0]
  refine fx_pi 178 22 9 115 (by decide +kernel) (by unfold fR; omega) ?_
  refine fx_la 0 116 (v := 178) (by decide +kernel) rfl (by decide +kernel) ?_
  refine fx_la 1 117 (v := 130) (by decide +kernel) rfl (by decide +kernel) ?_
  refine fx_gi 130 16 10 120 (by decide +kernel) ?_
  try simp only [fu_app, fcy_app, Nat.reduceEqDiff, and_true, and_false, false_and, true_and, if_true, if_false, ite_true, ite_false, reduceIte, Int.reduceToNat, fx_simp0]
  refine fx_pi 178 22 10 123 (by decide +kernel) (by unfold fR; omega) ?_
  refine fx_vret (by decide +kernel) ?_
  exact kq
theorem sp_cpT_scratch_table (kq : Q 0 0 (cpT g 22 16)) : fx W r 0 63 0 [130, 178] [] g Q := by
  refine fx_rg (fun hg => ?_)
  have v5 := hg 22 5 (by decide) (by decide +kernel) (by decide +kernel)
  have v6 := hg 22 6 (by decide) (by decide +kernel) (by decide +kernel)
  have v7 := hg 22 7 (by decide) (by decide +kernel) (by decide +kernel)
  have v8 := hg 22 8 (by decide) (by decide +kernel) (by decide +kernel)
  have v9 := hg 22 9 (by decide) (by decide +kernel) (by decide +kernel)
  have v10 := hg 22 10 (by decide) (by decide +kernel) (by decide +kernel)
  unfold fR at v5 v6 v7 v8 v9 v10
  refine fx_la 1 1 (v := 178) (by decide +kernel) rfl (by decide +kernel) ?_
  refine fx_gp 178 22 0 186 4 (by decide +kernel) ?_
  refine fx_ci (0) 5 (by decide +kernel) ?_
  refine fx_la 0 6 (v := 130) (by decide +kernel) rfl (by decide +kernel) ?_
  refine fx_gp 130 16 0 138 9 (by decide +kernel) ?_
  refine fx_ci (0) 10 (by decide +kernel) ?_
  refine fx_ci (8) 12 (by decide +kernel) ?_
  refine fx_cpy 186 23 138 17 8 15 (by decide +kernel) rfl ?_
  refine fx_la 1 16 (v := 178) (by decide +kernel) rfl (by decide +kernel) ?_
  refine fx_gp 178 22 1 194 19 (by decide +kernel) ?_
  refine fx_ci (0) 20 (by decide +kernel) ?_
  refine fx_la 0 21 (v := 130) (by decide +kernel) rfl (by decide +kernel) ?_
  refine fx_gp 130 16 1 146 24 (by decide +kernel) ?_
  refine fx_ci (0) 25 (by decide +kernel) ?_
  refine fx_ci (8) 27 (by decide +kernel) ?_
  refine fx_cpy 194 24 146 18 8 30 (by decide +kernel) rfl ?_
  refine fx_la 1 31 (v := 178) (by decide +kernel) rfl (by decide +kernel) ?_
  refine fx_gp 178 22 2 202 34 (by decide +kernel) ?_
  refine fx_ci (0) 35 (by decide +kernel) ?_
  refine fx_la 0 36 (v := 130) (by decide +kernel) rfl (by decide +kernel) ?_
  refine fx_gp 130 16 2 154 39 (by decide +kernel) ?_
  refine fx_ci (0) 40 (by decide +kernel) ?_
  refine fx_ci (8) 42 (by decide +kernel) ?_
  refine fx_cpy 202 25 154 19 8 45 (by decide +kernel) rfl ?_
  refine fx_la 1 46 (v := 178) (by decide +kernel) rfl (by decide +kernel) ?_
  refine fx_gp 178 22 3 210 49 (by decide +kernel) ?_
  refine fx_ci (0) 50 (by decide +kernel) ?_
  refine fx_la 0 51 (v := 130) (by decide +kernel) rfl (by decide +kernel) ?_
  refine fx_gp 130 16 3 162 54 (by decide +kernel) ?_
  refine fx_ci (0) 55 (by decide +kernel) ?_
  refine fx_ci (8) 57 (by decide +kernel) ?_
  refine fx_cpy 210 26 162 20 8 60 (by decide +kernel) rfl ?_
  refine fx_la 1 61 (v := 178) (by decide +kernel) rfl (by decide +kernel) ?_
  refine fx_gp 178 22 4 218 64 (by decide +kernel) ?_
  refine fx_ci (0) 65 (by decide +kernel) ?_
  refine fx_la 0 66 (v := 130) (by decide +kernel) rfl (by decide +kernel) ?_
  refine fx_gp 130 16 4 170 69 (by decide +kernel) ?_
  refine fx_ci (0) 70 (by decide +kernel) ?_
  refine fx_ci (60) 72 (by decide +kernel) ?_
  refine fx_cpy 218 27 170 21 60 75 (by decide +kernel) rfl ?_
  refine fx_la 0 76 (v := 130) (by decide +kernel) rfl (by decide +kernel) ?_
  refine fx_la 1 77 (v := 178) (by decide +kernel) rfl (by decide +kernel) ?_
  refine fx_gi 178 22 5 80 (by decide +kernel) ?_
  try simp only [fu_app, fcy_app, Nat.reduceEqDiff, and_true, and_false, false_and, true_and, if_true, if_false, ite_true, ite_false, reduceIte, Int.reduceToNat, fx_simp0]
  refine fx_pi 130 16 5 83 (by decide +kernel) (by unfold fR; omega) ?_
  refine fx_la 0 84 (v := 130) (by decide +kernel) rfl (by decide +kernel) ?_
  refine fx_la 1 85 (v := 178) (by decide +kernel) rfl (by decide +kernel) ?_
  refine fx_gi 178 22 6 88 (by decide +kernel) ?_
  try simp only [fu_app, fcy_app, Nat.reduceEqDiff, and_true, and_false, false_and, true_and, if_true, if_false, ite_true, ite_false, reduceIte, Int.reduceToNat, fx_simp0]
  refine fx_pi 130 16 6 91 (by decide +kernel) (by unfold fR; omega) ?_
  refine fx_la 0 92 (v := 130) (by decide +kernel) rfl (by decide +kernel) ?_
  refine fx_la 1 93 (v := 178) (by decide +kernel) rfl (by decide +kernel) ?_
  refine fx_gi 178 22 7 96 (by decide +kernel) ?_
  try simp only [fu_app, fcy_app, Nat.reduceEqDiff, and_true, and_false, false_and, true_and, if_true, if_false, ite_true, ite_false, reduceIte, Int.reduceToNat, fx_simp0]
  refine fx_pi 130 16 7 99 (by decide +kernel) (by unfold fR; omega) ?_
  refine fx_la 0 100 (v := 130) (by decide +kernel) rfl (by decide +kernel) ?_
  refine fx_la 1 101 (v := 178) (by decide +kernel) rfl (by decide +kernel) ?_
  refine fx_gi 178 22 8 104 (by decide +kernel) ?_
  try simp only [fu_app, fcy_app, Nat.reduceEqDiff, and_true, and_false, false_and, true_and, if_true, if_false, ite_true, ite_false, reduceIte, Int.reduceToNat, fx_simp0]
  refine fx_pi 130 16 8 107 (by decide +kernel) (by unfold fR; omega) ?_
  refine fx_la 0 108 (v := 130) (by decide +kernel) rfl (by decide +kernel) ?_
  refine fx_la 1 109 (v := 178) (by decide +kernel) rfl (by decide +kernel) ?_
  refine fx_gi 178 22 9 112 (by decide +kernel) ?_
  try simp only [fu_app, fcy_app, Nat.reduceEqDiff, and_true, and_false, false_and, true_and, if_true, if_false, ite_true, ite_false, reduceIte, Int.reduceToNat, fx_simp0]
  refine fx_pi 130 16 9 115 (by decide +kernel) (by unfold fR; omega) ?_
  refine fx_la 0 116 (v := 130) (by decide +kernel) rfl (by decide +kernel) ?_
  refine fx_la 1 117 (v := 178) (by decide +kernel) rfl (by decide +kernel) ?_
  refine fx_gi 178 22 10 120 (by decide +kernel) ?_
  try simp only [fu_app, fcy_app, Nat.reduceEqDiff, and_true, and_false, false_and, true_and, if_true, if_false, ite_true, ite_false, reduceIte, Int.reduceToNat, fx_simp0]
  refine fx_pi 130 16 10 123 (by decide +kernel) (by unfold fR; omega) ?_
  refine fx_vret (by decide +kernel) ?_
  exact kq
theorem sp_cpT_table_image (kq : Q 0 0 (cpT g 16 69)) : fx W r 0 63 0 [554, 130] [] g Q := by
  refine fx_rg (fun hg => ?_)
  have v5 := hg 16 5 (by decide) (by decide +kernel) (by decide +kernel)
  have v6 := hg 16 6 (by decide) (by decide +kernel) (by decide +kernel)
  have v7 := hg 16 7 (by decide) (by decide +kernel) (by decide +kernel)
  have v8 := hg 16 8 (by decide) (by decide +kernel) (by decide +kernel)
  have v9 := hg 16 9 (by decide) (by decide +kernel) (by decide +kernel)
  have v10 := hg 16 10 (by decide) (by decide +kernel) (by decide +kernel)
  unfold fR at v5 v6 v7 v8 v9 v10
  refine fx_la 1 1 (v := 130) (by decide +kernel) rfl (by decide +kernel) ?_
  refine fx_gp 130 16 0 138 4 (by decide +kernel) ?_
  refine fx_ci (0) 5 (by decide +kernel) ?_
  refine fx_la 0 6 (v := 554) (by decide +kernel) rfl (by decide +kernel) ?_
  refine fx_gp 554 69 0 562 9 (by decide +kernel) ?_
  refine fx_ci (0) 10 (by decide +kernel) ?_
  refine fx_ci (8) 12 (by decide +kernel) ?_
  refine fx_cpy 138 17 562 70 8 15 (by decide +kernel) rfl ?_
  refine fx_la 1 16 (v := 130) (by decide +kernel) rfl (by decide +kernel) ?_
  refine fx_gp 130 16 1 146 19 (by decide +kernel) ?_
  refine fx_ci (0) 20 (by decide +kernel) ?_
  refine fx_la 0 21 (v := 554) (by decide +kernel) rfl (by decide +kernel) ?_
  refine fx_gp 554 69 1 570 24 (by decide +kernel) ?_
  refine fx_ci (0) 25 (by decide +kernel) ?_
  refine fx_ci (8) 27 (by decide +kernel) ?_
  refine fx_cpy 146 18 570 71 8 30 (by decide +kernel) rfl ?_
  refine fx_la 1 31 (v := 130) (by decide +kernel) rfl (by decide +kernel) ?_
  refine fx_gp 130 16 2 154 34 (by decide +kernel) ?_
  refine fx_ci (0) 35 (by decide +kernel) ?_
  refine fx_la 0 36 (v := 554) (by decide +kernel) rfl (by decide +kernel) ?_
  refine fx_gp 554 69 2 578 39 (by decide +kernel) ?_
  refine fx_ci (0) 40 (by decide +kernel) ?_
  refine fx_ci (8) 42 (by decide +kernel) ?_
  refine fx_cpy 154 19 578 72 8 45 (by decide +kernel) rfl ?_
  refine fx_la 1 46 (v := 130) (by decide +kernel) rfl (by decide +kernel) ?_
  refine fx_gp 130 16 3 162 49 (by decide +kernel) ?_
  refine fx_ci (0) 50 (by decide +kernel) ?_
  refine fx_la 0 51 (v := 554) (by decide +kernel) rfl (by decide +kernel) ?_
  refine fx_gp 554 69 3 586 54 (by decide +kernel) ?_
  refine fx_ci (0) 55 (by decide +kernel) ?_
  refine fx_ci (8) 57 (by decide +kernel) ?_
  refine fx_cpy 162 20 586 73 8 60 (by decide +kernel) rfl ?_
  refine fx_la 1 61 (v := 130) (by decide +kernel) rfl (by decide +kernel) ?_
  refine fx_gp 130 16 4 170 64 (by decide +kernel) ?_
  refine fx_ci (0) 65 (by decide +kernel) ?_
  refine fx_la 0 66 (v := 554) (by decide +kernel) rfl (by decide +kernel) ?_
  refine fx_gp 554 69 4 594 69 (by decide +kernel) ?_
  refine fx_ci (0) 70 (by decide +kernel) ?_
  refine fx_ci (60) 72 (by decide +kernel) ?_
  refine fx_cpy 170 21 594 74 60 75 (by decide +kernel) rfl ?_
  refine fx_la 0 76 (v := 554) (by decide +kernel) rfl (by decide +kernel) ?_
  refine fx_la 1 77 (v := 130) (by decide +kernel) rfl (by decide +kernel) ?_
  refine fx_gi 130 16 5 80 (by decide +kernel) ?_
  try simp only [fu_app, fcy_app, Nat.reduceEqDiff, and_true, and_false, false_and, true_and, if_true, if_false, ite_true, ite_false, reduceIte, Int.reduceToNat, fx_simp0]
  refine fx_pi 554 69 5 83 (by decide +kernel) (by unfold fR; omega) ?_
  refine fx_la 0 84 (v := 554) (by decide +kernel) rfl (by decide +kernel) ?_
  refine fx_la 1 85 (v := 130) (by decide +kernel) rfl (by decide +kernel) ?_
  refine fx_gi 130 16 6 88 (by decide +kernel) ?_
  try simp only [fu_app, fcy_app, Nat.reduceEqDiff, and_true, and_false, false_and, true_and, if_true, if_false, ite_true, ite_false, reduceIte, Int.reduceToNat, fx_simp0]
  refine fx_pi 554 69 6 91 (by decide +kernel) (by unfold fR; omega) ?_
  refine fx_la 0 92 (v := 554) (by decide +kernel) rfl (by decide +kernel) ?_
  refine fx_la 1 93 (v := 130) (by decide +kernel) rfl (by decide +kernel) ?_
  refine fx_gi 130 16 7 96 (by decide +kernel) ?_
  try simp only [fu_app, fcy_app, Nat.reduceEqDiff, and_true, and_false, false_and, true_and, if_true, if_false, ite_true, ite_false, reduceIte, Int.reduceToNat, fx_simp0]
  refine fx_pi 554 69 7 99 (by decide +kernel) (by unfold fR; omega) ?_
  refine fx_la 0 100 (v := 554) (by decide +kernel) rfl (by decide +kernel) ?_
  refine fx_la 1 101 (v := 130) (by decide +kernel) rfl (by decide +kernel) ?_
  refine fx_gi 130 16 8 104 (by decide +kernel) ?_
  try simp only [fu_app, fcy_app, Nat.reduceEqDiff, and_true, and_false, false_and, true_and, if_true, if_false, ite_true, ite_false, reduceIte, Int.reduceToNat, fx_simp0]
  refine fx_pi 554 69 8 107 (by decide +kernel) (by unfold fR; omega) ?_
  refine fx_la 0 108 (v := 554) (by decide +kernel) rfl (by decide +kernel) ?_
  refine fx_la 1 109 (v := 130) (by decide +kernel) rfl (by decide +kernel) ?_
  refine fx_gi 130 16 9 112 (by decide +kernel) ?_
  try simp only [fu_app, fcy_app, Nat.reduceEqDiff, and_true, and_false, false_and, true_and, if_true, if_false, ite_true, ite_false, reduceIte, Int.reduceToNat, fx_simp0]
  refine fx_pi 554 69 9 115 (by decide +kernel) (by unfold fR; omega) ?_
  refine fx_la 0 116 (v := 554) (by decide +kernel) rfl (by decide +kernel) ?_
  refine fx_la 1 117 (v := 130) (by decide +kernel) rfl (by decide +kernel) ?_
  refine fx_gi 130 16 10 120 (by decide +kernel) ?_
  try simp only [fu_app, fcy_app, Nat.reduceEqDiff, and_true, and_false, false_and, true_and, if_true, if_false, ite_true, ite_false, reduceIte, Int.reduceToNat, fx_simp0]
  refine fx_pi 554 69 10 123 (by decide +kernel) (by unfold fR; omega) ?_
  refine fx_vret (by decide +kernel) ?_
  exact kq
theorem sp_cpT_image_table (kq : Q 0 0 (cpT g 69 16)) : fx W r 0 63 0 [130, 554] [] g Q := by
  refine fx_rg (fun hg => ?_)
  have v5 := hg 69 5 (by decide) (by decide +kernel) (by decide +kernel)
  have v6 := hg 69 6 (by decide) (by decide +kernel) (by decide +kernel)
  have v7 := hg 69 7 (by decide) (by decide +kernel) (by decide +kernel)
  have v8 := hg 69 8 (by decide) (by decide +kernel) (by decide +kernel)
  have v9 := hg 69 9 (by decide) (by decide +kernel) (by decide +kernel)
  have v10 := hg 69 10 (by decide) (by decide +kernel) (by decide +kernel)
  unfold fR at v5 v6 v7 v8 v9 v10
  refine fx_la 1 1 (v := 554) (by decide +kernel) rfl (by decide +kernel) ?_
  refine fx_gp 554 69 0 562 4 (by decide +kernel) ?_
  refine fx_ci (0) 5 (by decide +kernel) ?_
  refine fx_la 0 6 (v := 130) (by decide +kernel) rfl (by decide +kernel) ?_
  refine fx_gp 130 16 0 138 9 (by decide +kernel) ?_
  refine fx_ci (0) 10 (by decide +kernel) ?_
  refine fx_ci (8) 12 (by decide +kernel) ?_
  refine fx_cpy 562 70 138 17 8 15 (by decide +kernel) rfl ?_
  refine fx_la 1 16 (v := 554) (by decide +kernel) rfl (by decide +kernel) ?_
  refine fx_gp 554 69 1 570 19 (by decide +kernel) ?_
  refine fx_ci (0) 20 (by decide +kernel) ?_
  refine fx_la 0 21 (v := 130) (by decide +kernel) rfl (by decide +kernel) ?_
  refine fx_gp 130 16 1 146 24 (by decide +kernel) ?_
  refine fx_ci (0) 25 (by decide +kernel) ?_
  refine fx_ci (8) 27 (by decide +kernel) ?_
  refine fx_cpy 570 71 146 18 8 30 (by decide +kernel) rfl ?_
  refine fx_la 1 31 (v := 554) (by decide +kernel) rfl (by decide +kernel) ?_
  refine fx_gp 554 69 2 578 34 (by decide +kernel) ?_
  refine fx_ci (0) 35 (by decide +kernel) ?_
  refine fx_la 0 36 (v := 130) (by decide +kernel) rfl (by decide +kernel) ?_
  refine fx_gp 130 16 2 154 39 (by decide +kernel) ?_
  refine fx_ci (0) 40 (by decide +kernel) ?_
  refine fx_ci (8) 42 (by decide +kernel) ?_
  refine fx_cpy 578 72 154 19 8 45 (by decide +kernel) rfl ?_
  refine fx_la 1 46 (v := 554) (by decide +kernel) rfl (by decide +kernel) ?_
  refine fx_gp 554 69 3 586 49 (by decide +kernel) ?_
  refine fx_ci (0) 50 (by decide +kernel) ?_
  refine fx_la 0 51 (v := 130) (by decide +kernel) rfl (by decide +kernel) ?_
  refine fx_gp 130 16 3 162 54 (by decide +kernel) ?_
  refine fx_ci (0) 55 (by decide +kernel) ?_
  refine fx_ci (8) 57 (by decide +kernel) ?_
  refine fx_cpy 586 73 162 20 8 60 (by decide +kernel) rfl ?_
  refine fx_la 1 61 (v := 554) (by decide +kernel) rfl (by decide +kernel) ?_
  refine fx_gp 554 69 4 594 64 (by decide +kernel) ?_
  refine fx_ci (0) 65 (by decide +kernel) ?_
  refine fx_la 0 66 (v := 130) (by decide +kernel) rfl (by decide +kernel) ?_
  refine fx_gp 130 16 4 170 69 (by decide +kernel) ?_
  refine fx_ci (0) 70 (by decide +kernel) ?_
  refine fx_ci (60) 72 (by decide +kernel) ?_
  refine fx_cpy 594 74 170 21 60 75 (by decide +kernel) rfl ?_
  refine fx_la 0 76 (v := 130) (by decide +kernel) rfl (by decide +kernel) ?_
  refine fx_la 1 77 (v := 554) (by decide +kernel) rfl (by decide +kernel) ?_
  refine fx_gi 554 69 5 80 (by decide +kernel) ?_
  try simp only [fu_app, fcy_app, Nat.reduceEqDiff, and_true, and_false, false_and, true_and, if_true, if_false, ite_true, ite_false, reduceIte, Int.reduceToNat, fx_simp0]
  refine fx_pi 130 16 5 83 (by decide +kernel) (by unfold fR; omega) ?_
  refine fx_la 0 84 (v := 130) (by decide +kernel) rfl (by decide +kernel) ?_
  refine fx_la 1 85 (v := 554) (by decide +kernel) rfl (by decide +kernel) ?_
  refine fx_gi 554 69 6 88 (by decide +kernel) ?_
  try simp only [fu_app, fcy_app, Nat.reduceEqDiff, and_true, and_false, false_and, true_and, if_true, if_false, ite_true, ite_false, reduceIte, Int.reduceToNat, fx_simp0]
  refine fx_pi 130 16 6 91 (by decide +kernel) (by unfold fR; omega) ?_
  refine fx_la 0 92 (v := 130) (by decide +kernel) rfl (by decide +kernel) ?_
  refine fx_la 1 93 (v := 554) (by decide +kernel) rfl (by decide +kernel) ?_
  refine fx_gi 554 69 7 96 (by decide +kernel) ?_
  try simp only [fu_app, fcy_app, Nat.reduceEqDiff, and_true, and_false, false_and, true_and, if_true, if_false, ite_true, ite_false, reduceIte, Int.reduceToNat, fx_simp0]
  refine fx_pi 130 16 7 99 (by decide +kernel) (by unfold fR; omega) ?_
  refine fx_la 0 100 (v := 130) (by decide +kernel) rfl (by decide +kernel) ?_
  refine fx_la 1 101 (v := 554) (by decide +kernel) rfl (by decide +kernel) ?_
  refine fx_gi 554 69 8 104 (by decide +kernel) ?_
  try simp only [fu_app, fcy_app, Nat.reduceEqDiff, and_true, and_false, false_and, true_and, if_true, if_false, ite_true, ite_false, reduceIte, Int.reduceToNat, fx_simp0]
  refine fx_pi 130 16 8 107 (by decide +kernel) (by unfold fR; omega) ?_
  refine fx_la 0 108 (v := 130) (by decide +kernel) rfl (by decide +kernel) ?_
  refine fx_la 1 109 (v := 554) (by decide +kernel) rfl (by decide +kernel) ?_
  refine fx_gi 554 69 9 112 (by decide +kernel) ?_
  try simp only [fu_app, fcy_app, Nat.reduceEqDiff, and_true, and_false, false_and, true_and, if_true, if_false, ite_true, ite_false, reduceIte, Int.reduceToNat, fx_simp0]
  refine fx_pi 130 16 9 115 (by decide +kernel) (by unfold fR; omega) ?_
  refine fx_la 0 116 (v := 130) (by decide +kernel) rfl (by decide +kernel) ?_
  refine fx_la 1 117 (v := 554) (by decide +kernel) rfl (by decide +kernel) ?_
  refine fx_gi 554 69 10 120 (by decide +kernel) ?_
  try simp only [fu_app, fcy_app, Nat.reduceEqDiff, and_true, and_false, false_and, true_and, if_true, if_false, ite_true, ite_false, reduceIte, Int.reduceToNat, fx_simp0]
  refine fx_pi 130 16 10 123 (by decide +kernel) (by unfold fR; omega) ?_
  refine fx_vret (by decide +kernel) ?_
  exact kq
theorem sp_useUp (kq : Q 1 (fI (g 1 1)) (fu g 1 1 0)) : fx W r 0 73 0 [10, 7] [] g Q := by
  refine fx_rg (fun hg => ?_)
  refine fx_la 0 1 (v := 10) (by decide +kernel) rfl (by decide +kernel) ?_
  refine fx_gi 10 1 1 4 (by decide +kernel) ?_
  refine fx_si 1 5 (by decide +kernel) (Or.inr (f_n4p (v := 10) rfl (by decide))) rfl ?_
  dsimp only [List.set]
  refine fx_la 0 6 (v := 10) (by decide +kernel) rfl (by decide +kernel) ?_
  refine fx_ci (0) 7 (by decide +kernel) ?_
  refine fx_pi 10 1 1 10 (by decide +kernel) (by unfold fR; omega) ?_
  refine fx_li 1 11 (by decide +kernel) rfl ?_
  refine fx_ret (by decide +kernel) ?_
  exact kq
/-- the tape is used up, the text begins -/
def fUse (T : Int → Int) (E : Int) (g : Nat → Nat → Int) : Nat → Nat → Int := cAt T E (fu (fu (fu (fu g 1 1 0) 28 4 (g 1 1)) 28 1 (-1)) 28 3 0) (pSk T E 0)
theorem sp_useTape (hT : ∀ k : Int, 0 ≤ k → k < 400 → g 2 k.toNat = T k ∧ 0 ≤ T k ∧ T k ≤ 255) (hE : g 1 1 = E) (hE0 : 0 ≤ E) (hE1 : E ≤ 400) (kq : Q 0 0 (fUse T E g)) : fx W r 1 72 0 [226] [] g Q := by
  refine fx_la 0 1 (v := 226) (by decide +kernel) rfl (by decide +kernel) ?_
  refine fx_la 0 2 (v := 226) (by decide +kernel) rfl (by decide +kernel) ?_
  refine fx_gp 226 28 0 10 5 (by decide +kernel) ?_
  refine fx_c1 73 21 8 0 [7] (by decide +kernel) (by decide) rfl (by first | decide | omega) ?_
  refine sp_useUp (fK1 ?_)
  refine fx_pi 226 28 4 11 (by decide +kernel) (by unfold fR; omega) ?_
  refine fx_la 0 12 (v := 226) (by decide +kernel) rfl (by decide +kernel) ?_
  refine fx_ci (-1) 13 (by decide +kernel) ?_
  refine fx_pi 226 28 1 16 (by decide +kernel) (by unfold fR; omega) ?_
  refine fx_la 0 17 (v := 226) (by decide +kernel) rfl (by decide +kernel) ?_
  refine fx_ci (0) 18 (by decide +kernel) ?_
  refine fx_pi 226 28 3 21 (by decide +kernel) (by unfold fR; omega) ?_
  refine fx_la 0 22 (v := 226) (by decide +kernel) rfl (by decide +kernel) ?_
  refine fx_c1 74 21 25 0 [7] (by decide +kernel) (by decide) rfl (by first | decide | omega) ?_
  refine sp_advance (T := T) (E := E) ⟨?_, hE0, hE1, fun k h0 h1 => ?_⟩ (by rw [fu_eq]; omega) (by rw [fu_eq]; exact hE0) (fK0 ?_)
  · rw [fu_nj (by decide), fu_nj (by decide), fu_eq]; exact hE
  · rw [fu_nc (by decide), fu_nc (by decide), fu_nc (by decide), fu_nc (by decide)]
    exact hT k h0 h1
  rw [fu_eq]
  refine fx_vret (by decide +kernel) ?_
  exact kq
theorem fUse_st (hT : ∀ k : Int, 0 ≤ k → k < 400 → g 2 k.toNat = T k ∧ 0 ≤ T k ∧ T k ≤ 255) (hE : g 1 1 = E) (hE0 : 0 ≤ E) (hE1 : E ≤ 400) : cSt T E (fUse T E g) (pSk T E 0) := by
  refine cSt_at ⟨?_, hE0, hE1, fun k h0 h1 => ?_⟩ (pOk_sk (Int.le_refl 0) hE0)
  · rw [fu_nj (by decide), fu_nj (by decide), fu_eq]; exact hE
  · rw [fu_nc (by decide), fu_nc (by decide), fu_nc (by decide), fu_nc (by decide)]
    exact hT k h0 h1
theorem fUse_ne {c j : Nat} (h1 : c ≠ 28) (h2 : ¬ (c = 1 ∧ j = 1)) : fUse T E g c j = g c j := by
  unfold fUse cAt
  rw [fu_nc h1, fu_nc h1, fu_nc h1, fu_nc h1, fu_nc h1, fu_ne h2]
theorem fUse_w : fUse T E g 28 1 = -1 := by
  unfold fUse cAt
  rw [fu_nj (by decide), fu_nj (by decide), fu_nj (by decide), fu_eq]
theorem fUse_l : fUse T E g 1 1 = 0 := by
  unfold fUse cAt
  rw [fu_nc (by decide), fu_nc (by decide), fu_nc (by decide), fu_nc (by decide), fu_nc (by decide), fu_eq]
theorem sp_startFrom (hT : ∀ k : Int, 0 ≤ k → k < 400 → g 2 k.toNat = T k ∧ 0 ≤ T k ∧ T k ≤ 255) (hE : g 1 1 = E) (hE0 : 0 ≤ E) (hE1 : E ≤ 400) (kq : Q 0 0 (cpT (cpH (fUse T E g) 3 29) 16 22)) : fx W r 2 71 0 [226, 26, 130] [] g Q := by
  refine fx_la 0 1 (v := 226) (by decide +kernel) rfl (by decide +kernel) ?_
  refine fx_c1 72 21 4 1 [] (by decide +kernel) (by decide) rfl (by first | decide | omega) ?_
  refine sp_useTape hT hE hE0 hE1 (fK0 ?_)
  refine fx_la 0 5 (v := 226) (by decide +kernel) rfl (by decide +kernel) ?_
  refine fx_gp 226 28 5 234 8 (by decide +kernel) ?_
  refine fx_la 1 9 (v := 26) (by decide +kernel) rfl (by decide +kernel) ?_
  refine fx_c2 65 21 12 0 [] (by decide +kernel) (by decide) (by decide) (by decide) rfl (by first | decide | omega) ?_
  refine sp_cpH_house_draft (fK0 ?_)
  refine fx_la 0 13 (v := 226) (by decide +kernel) rfl (by decide +kernel) ?_
  refine fx_gp 226 28 6 178 16 (by decide +kernel) ?_
  refine fx_la 2 17 (v := 130) (by decide +kernel) rfl (by decide +kernel) ?_
  refine fx_c2 63 21 20 0 [] (by decide +kernel) (by decide) (by decide) (by decide) rfl (by first | decide | omega) ?_
  refine sp_cpT_table_scratch (fK0 ?_)
  refine fx_vret (by decide +kernel) ?_
  exact kq
end FYA
