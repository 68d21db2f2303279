/-! fx: the class remembers, and goes back -/
def cRem (g : Nat → Nat → Int) (i : Nat) : Nat → Nat → Int := fu (cpT (fu g 0 17 (i : Int)) 16 (76 + 6 * i)) 0 16 (if g 0 16 < 12 then g 0 16 + 1 else g 0 16)
def cUnd (g : Nat → Nat → Int) (i : Nat) : Nat → Nat → Int := fu (fu (cpT g (76 + 6 * i) 16) 0 17 (((i + 11) % 12 : Nat) : Int)) 0 16 (g 0 16 - 1)
theorem fop_rem12 : ∀ k : Nat, k < 24 → fop 10 (k : Int) 12 = ((k % 12 : Nat) : Int) := by decide +kernel
section FHG
variable {W : ax_W} {r : Nat} {g : Nat → Nat → Int} {Q : Nat → Nat → (Nat → Nat → Int) → Prop}
theorem sp_cpT_tp_0 (kq : Q 0 0 (cpT g 16 76)) : fx W r 0 63 0 [610, 130] [] g Q := by
  refine fx_rg (fun hg => ?_)
  have v5 := hg 16 5 (by decide) (by decide +kernel) (by decide +kernel)
  have v6 := hg 16 6 (by decide) (by decide +kernel) (by decide +kernel)
  have v7 := hg 16 7 (by decide) (by decide +kernel) (by decide +kernel)
  have v8 := hg 16 8 (by decide) (by decide +kernel) (by decide +kernel)
  have v9 := hg 16 9 (by decide) (by decide +kernel) (by decide +kernel)
  have v10 := hg 16 10 (by decide) (by decide +kernel) (by decide +kernel)
  unfold fR at v5 v6 v7 v8 v9 v10
  refine fx_la 1 1 (v := 130) (by decide +kernel) rfl (by decide +kernel) ?_
  refine fx_gp 130 16 0 138 4 (by decide +kernel) ?_
  refine fx_ci (0) 5 (by decide +kernel) ?_
  refine fx_la 0 6 (v := 610) (by decide +kernel) rfl (by decide +kernel) ?_
  refine fx_gp 610 76 0 618 9 (by decide +kernel) ?_
  refine fx_ci (0) 10 (by decide +kernel) ?_
  refine fx_ci (8) 12 (by decide +kernel) ?_
  refine fx_cpy 138 17 618 77 8 15 (by decide +kernel) rfl ?_
  refine fx_la 1 16 (v := 130) (by decide +kernel) rfl (by decide +kernel) ?_
  refine fx_gp 130 16 1 146 19 (by decide +kernel) ?_
  refine fx_ci (0) 20 (by decide +kernel) ?_
  refine fx_la 0 21 (v := 610) (by decide +kernel) rfl (by decide +kernel) ?_
  refine fx_gp 610 76 1 626 24 (by decide +kernel) ?_
  refine fx_ci (0) 25 (by decide +kernel) ?_
  refine fx_ci (8) 27 (by decide +kernel) ?_
  refine fx_cpy 146 18 626 78 8 30 (by decide +kernel) rfl ?_
  refine fx_la 1 31 (v := 130) (by decide +kernel) rfl (by decide +kernel) ?_
  refine fx_gp 130 16 2 154 34 (by decide +kernel) ?_
  refine fx_ci (0) 35 (by decide +kernel) ?_
  refine fx_la 0 36 (v := 610) (by decide +kernel) rfl (by decide +kernel) ?_
  refine fx_gp 610 76 2 634 39 (by decide +kernel) ?_
  refine fx_ci (0) 40 (by decide +kernel) ?_
  refine fx_ci (8) 42 (by decide +kernel) ?_
  refine fx_cpy 154 19 634 79 8 45 (by decide +kernel) rfl ?_
  refine fx_la 1 46 (v := 130) (by decide +kernel) rfl (by decide +kernel) ?_
  refine fx_gp 130 16 3 162 49 (by decide +kernel) ?_
  refine fx_ci (0) 50 (by decide +kernel) ?_
  refine fx_la 0 51 (v := 610) (by decide +kernel) rfl (by decide +kernel) ?_
  refine fx_gp 610 76 3 642 54 (by decide +kernel) ?_
  refine fx_ci (0) 55 (by decide +kernel) ?_
  refine fx_ci (8) 57 (by decide +kernel) ?_
  refine fx_cpy 162 20 642 80 8 60 (by decide +kernel) rfl ?_
  refine fx_la 1 61 (v := 130) (by decide +kernel) rfl (by decide +kernel) ?_
  refine fx_gp 130 16 4 170 64 (by decide +kernel) ?_
  refine fx_ci (0) 65 (by decide +kernel) ?_
  refine fx_la 0 66 (v := 610) (by decide +kernel) rfl (by decide +kernel) ?_
  refine fx_gp 610 76 4 650 69 (by decide +kernel) ?_
  refine fx_ci (0) 70 (by decide +kernel) ?_
  refine fx_ci (60) 72 (by decide +kernel) ?_
  refine fx_cpy 170 21 650 81 60 75 (by decide +kernel) rfl ?_
  refine fx_la 0 76 (v := 610) (by decide +kernel) rfl (by decide +kernel) ?_
  refine fx_la 1 77 (v := 130) (by decide +kernel) rfl (by decide +kernel) ?_
  refine fx_gi 130 16 5 80 (by decide +kernel) ?_
  try simp only [fu_app, fcy_app, Nat.reduceEqDiff, and_true, and_false, false_and, true_and, if_true, if_false, ite_true, ite_false, reduceIte, Int.reduceToNat, fx_simp0]
  refine fx_pi 610 76 5 83 (by decide +kernel) (by unfold fR; omega) ?_
  refine fx_la 0 84 (v := 610) (by decide +kernel) rfl (by decide +kernel) ?_
  refine fx_la 1 85 (v := 130) (by decide +kernel) rfl (by decide +kernel) ?_
  refine fx_gi 130 16 6 88 (by decide +kernel) ?_
  try simp only [fu_app, fcy_app, Nat.reduceEqDiff, and_true, and_false, false_and, true_and, if_true, if_false, ite_true, ite_false, reduceIte, Int.reduceToNat, fx_simp0]
  refine fx_pi 610 76 6 91 (by decide +kernel) (by unfold fR; omega) ?_
  refine fx_la 0 92 (v := 610) (by decide +kernel) rfl (by decide +kernel) ?_
  refine fx_la 1 93 (v := 130) (by decide +kernel) rfl (by decide +kernel) ?_
  refine fx_gi 130 16 7 96 (by decide +kernel) ?_
  try simp only [fu_app, fcy_app, Nat.reduceEqDiff, and_true, and_false, false_and, true_and, if_true, if_false, ite_true, ite_false, reduceIte, Int.reduceToNat, fx_simp0]
  refine fx_pi 610 76 7 99 (by decide +kernel) (by unfold fR; omega) ?_
  refine fx_la 0 100 (v := 610) (by decide +kernel) rfl (by decide +kernel) ?_
  refine fx_la 1 101 (v := 130) (by decide +kernel) rfl (by decide +kernel) ?_
  refine fx_gi 130 16 8 104 (by decide +kernel) ?_
  try simp only [fu_app, fcy_app, Nat.reduceEqDiff, and_true, and_false, false_and, true_and, if_true, if_false, ite_true, ite_false, reduceIte, Int.reduceToNat, fx_simp0]
  refine fx_pi 610 76 8 107 (by decide +kernel) (by unfold fR; omega) ?_
  refine fx_la 0 108 (v := 610) (by decide +kernel) rfl (by decide +kernel) ?_
  refine fx_la 1 109 (v := 130) (by decide +kernel) rfl (by decide +kernel) ?_
  refine fx_gi 130 16 9 112 (by decide +kernel) ?_
  try simp only [fu_app, fcy_app, Nat.reduceEqDiff, and_true, and_false, false_and, true_and, if_true, if_false, ite_true, ite_false, reduceIte, Int.reduceToNat, fx_simp0]
  refine fx_pi 610 76 9 115 (by decide +kernel) (by unfold fR; omega) ?_
  refine fx_la 0 116 (v := 610) (by decide +kernel) rfl (by decide +kernel) ?_
  refine fx_la 1 117 (v := 130) (by decide +kernel) rfl (by decide +kernel) ?_
  refine fx_gi 130 16 10 120 (by decide +kernel) ?_
  try simp only [fu_app, fcy_app, Nat.reduceEqDiff, and_true, and_false, false_and, true_and, if_true, if_false, ite_true, ite_false, reduceIte, Int.reduceToNat, fx_simp0]
  refine fx_pi 610 76 10 123 (by decide +kernel) (by unfold fR; omega) ?_
  refine fx_vret (by decide +kernel) ?_
  exact kq
theorem sp_cpT_pt_0 (kq : Q 0 0 (cpT g 76 16)) : fx W r 0 63 0 [130, 610] [] g Q := by
  refine fx_rg (fun hg => ?_)
  have v5 := hg 76 5 (by decide) (by decide +kernel) (by decide +kernel)
  have v6 := hg 76 6 (by decide) (by decide +kernel) (by decide +kernel)
  have v7 := hg 76 7 (by decide) (by decide +kernel) (by decide +kernel)
  have v8 := hg 76 8 (by decide) (by decide +kernel) (by decide +kernel)
  have v9 := hg 76 9 (by decide) (by decide +kernel) (by decide +kernel)
  have v10 := hg 76 10 (by decide) (by decide +kernel) (by decide +kernel)
  unfold fR at v5 v6 v7 v8 v9 v10
  refine fx_la 1 1 (v := 610) (by decide +kernel) rfl (by decide +kernel) ?_
  refine fx_gp 610 76 0 618 4 (by decide +kernel) ?_
  refine fx_ci (0) 5 (by decide +kernel) ?_
  refine fx_la 0 6 (v := 130) (by decide +kernel) rfl (by decide +kernel) ?_
  refine fx_gp 130 16 0 138 9 (by decide +kernel) ?_
  refine fx_ci (0) 10 (by decide +kernel) ?_
  refine fx_ci (8) 12 (by decide +kernel) ?_
  refine fx_cpy 618 77 138 17 8 15 (by decide +kernel) rfl ?_
  refine fx_la 1 16 (v := 610) (by decide +kernel) rfl (by decide +kernel) ?_
  refine fx_gp 610 76 1 626 19 (by decide +kernel) ?_
  refine fx_ci (0) 20 (by decide +kernel) ?_
  refine fx_la 0 21 (v := 130) (by decide +kernel) rfl (by decide +kernel) ?_
  refine fx_gp 130 16 1 146 24 (by decide +kernel) ?_
  refine fx_ci (0) 25 (by decide +kernel) ?_
  refine fx_ci (8) 27 (by decide +kernel) ?_
  refine fx_cpy 626 78 146 18 8 30 (by decide +kernel) rfl ?_
  refine fx_la 1 31 (v := 610) (by decide +kernel) rfl (by decide +kernel) ?_
  refine fx_gp 610 76 2 634 34 (by decide +kernel) ?_
  refine fx_ci (0) 35 (by decide +kernel) ?_
  refine fx_la 0 36 (v := 130) (by decide +kernel) rfl (by decide +kernel) ?_
  refine fx_gp 130 16 2 154 39 (by decide +kernel) ?_
  refine fx_ci (0) 40 (by decide +kernel) ?_
  refine fx_ci (8) 42 (by decide +kernel) ?_
  refine fx_cpy 634 79 154 19 8 45 (by decide +kernel) rfl ?_
  refine fx_la 1 46 (v := 610) (by decide +kernel) rfl (by decide +kernel) ?_
  refine fx_gp 610 76 3 642 49 (by decide +kernel) ?_
  refine fx_ci (0) 50 (by decide +kernel) ?_
  refine fx_la 0 51 (v := 130) (by decide +kernel) rfl (by decide +kernel) ?_
  refine fx_gp 130 16 3 162 54 (by decide +kernel) ?_
  refine fx_ci (0) 55 (by decide +kernel) ?_
  refine fx_ci (8) 57 (by decide +kernel) ?_
  refine fx_cpy 642 80 162 20 8 60 (by decide +kernel) rfl ?_
  refine fx_la 1 61 (v := 610) (by decide +kernel) rfl (by decide +kernel) ?_
  refine fx_gp 610 76 4 650 64 (by decide +kernel) ?_
  refine fx_ci (0) 65 (by decide +kernel) ?_
  refine fx_la 0 66 (v := 130) (by decide +kernel) rfl (by decide +kernel) ?_
  refine fx_gp 130 16 4 170 69 (by decide +kernel) ?_
  refine fx_ci (0) 70 (by decide +kernel) ?_
  refine fx_ci (60) 72 (by decide +kernel) ?_
  refine fx_cpy 650 81 170 21 60 75 (by decide +kernel) rfl ?_
  refine fx_la 0 76 (v := 130) (by decide +kernel) rfl (by decide +kernel) ?_
  refine fx_la 1 77 (v := 610) (by decide +kernel) rfl (by decide +kernel) ?_
  refine fx_gi 610 76 5 80 (by decide +kernel) ?_
  try simp only [fu_app, fcy_app, Nat.reduceEqDiff, and_true, and_false, false_and, true_and, if_true, if_false, ite_true, ite_false, reduceIte, Int.reduceToNat, fx_simp0]
  refine fx_pi 130 16 5 83 (by decide +kernel) (by unfold fR; omega) ?_
  refine fx_la 0 84 (v := 130) (by decide +kernel) rfl (by decide +kernel) ?_
  refine fx_la 1 85 (v := 610) (by decide +kernel) rfl (by decide +kernel) ?_
  refine fx_gi 610 76 6 88 (by decide +kernel) ?_
  try simp only [fu_app, fcy_app, Nat.reduceEqDiff, and_true, and_false, false_and, true_and, if_true, if_false, ite_true, ite_false, reduceIte, Int.reduceToNat, fx_simp0]
  refine fx_pi 130 16 6 91 (by decide +kernel) (by unfold fR; omega) ?_
  refine fx_la 0 92 (v := 130) (by decide +kernel) rfl (by decide +kernel) ?_
  refine fx_la 1 93 (v := 610) (by decide +kernel) rfl (by decide +kernel) ?_
  refine fx_gi 610 76 7 96 (by decide +kernel) ?_
  try simp only [fu_app, fcy_app, Nat.reduceEqDiff, and_true, and_false, false_and, true_and, if_true, if_false, ite_true, ite_false, reduceIte, Int.reduceToNat, fx_simp0]
  refine fx_pi 130 16 7 99 (by decide +kernel) (by unfold fR; omega) ?_
  refine fx_la 0 100 (v := 130) (by decide +kernel) rfl (by decide +kernel) ?_
  refine fx_la 1 101 (v := 610) (by decide +kernel) rfl (by decide +kernel) ?_
  refine fx_gi 610 76 8 104 (by decide +kernel) ?_
  try simp only [fu_app, fcy_app, Nat.reduceEqDiff, and_true, and_false, false_and, true_and, if_true, if_false, ite_true, ite_false, reduceIte, Int.reduceToNat, fx_simp0]
  refine fx_pi 130 16 8 107 (by decide +kernel) (by unfold fR; omega) ?_
  refine fx_la 0 108 (v := 130) (by decide +kernel) rfl (by decide +kernel) ?_
  refine fx_la 1 109 (v := 610) (by decide +kernel) rfl (by decide +kernel) ?_
  refine fx_gi 610 76 9 112 (by decide +kernel) ?_
  try simp only [fu_app, fcy_app, Nat.reduceEqDiff, and_true, and_false, false_and, true_and, if_true, if_false, ite_true, ite_false, reduceIte, Int.reduceToNat, fx_simp0]
  refine fx_pi 130 16 9 115 (by decide +kernel) (by unfold fR; omega) ?_
  refine fx_la 0 116 (v := 130) (by decide +kernel) rfl (by decide +kernel) ?_
  refine fx_la 1 117 (v := 610) (by decide +kernel) rfl (by decide +kernel) ?_
  refine fx_gi 610 76 10 120 (by decide +kernel) ?_
  try simp only [fu_app, fcy_app, Nat.reduceEqDiff, and_true, and_false, false_and, true_and, if_true, if_false, ite_true, ite_false, reduceIte, Int.reduceToNat, fx_simp0]
  refine fx_pi 130 16 10 123 (by decide +kernel) (by unfold fR; omega) ?_
  refine fx_vret (by decide +kernel) ?_
  exact kq
theorem sp_crem_0 (hi : fop 10 (g 0 17 + 1) 12 = 0) (c0 : 0 ≤ g 0 16) (c1 : g 0 16 ≤ 12) (kq : Q 0 0 (cRem g 0)) : fx W r 1 152 0 [2] [] g Q := by
  have ec : cpT (fu g 0 17 0) 16 76 0 16 = g 0 16 := by rw [cpT_ne (by decide), fu_nj (by decide)]
  refine fx_la 0 1 (v := 2) (by decide +kernel) rfl (by decide +kernel) ?_
  refine fx_la 0 2 (v := 2) (by decide +kernel) rfl (by decide +kernel) ?_
  refine fx_gi 2 0 17 5 (by decide +kernel) ?_
  refine fx_ci (1) 6 (by decide +kernel) ?_
  refine fx_add 7 (by decide +kernel) rfl ?_
  refine fx_ci (12) 9 (by decide +kernel) ?_
  refine fx_bin 10 10 (by decide +kernel) rfl (fun _ => by decide) ?_
  refine fx_pi 2 0 17 13 (by decide +kernel) (by first | exact fop_R _ _ _ | (unfold fR; omega)) ?_
  rw [hi]
  refine fx_la 0 14 (v := 2) (by decide +kernel) rfl (by decide +kernel) ?_
  refine fx_gp 2 0 14 602 17 (by decide +kernel) ?_
  refine fx_la 0 18 (v := 2) (by decide +kernel) rfl (by decide +kernel) ?_
  refine fx_gi 2 0 17 21 (by decide +kernel) ?_
  try simp only [fu_app, fcy_app, Nat.reduceEqDiff, and_true, and_false, false_and, true_and, if_true, if_false, ite_true, ite_false, reduceIte, Int.reduceToNat, fx_simp0]
  refine fx_aal 602 75 0 610 22 (by decide +kernel) rfl ?_
  refine fx_la 0 23 (v := 2) (by decide +kernel) rfl (by decide +kernel) ?_
  refine fx_gp 2 0 3 130 26 (by decide +kernel) ?_
  refine fx_c2 63 21 29 0 [] (by decide +kernel) (by decide) (by decide) (by decide) rfl (by first | decide | omega) ?_
  refine sp_cpT_tp_0 (fK0 ?_)
  refine fx_la 0 30 (v := 2) (by decide +kernel) rfl (by decide +kernel) ?_
  refine fx_gi 2 0 16 33 (by decide +kernel) ?_
  try simp only [fu_app, fcy_app, Nat.reduceEqDiff, and_true, and_false, false_and, true_and, if_true, if_false, ite_true, ite_false, reduceIte, Int.reduceToNat, fx_simp0]
  rw [ec]
  refine fx_ci (12) 35 (by decide +kernel) ?_
  refine fx_ige 48 38 (by decide +kernel) (by unfold fR; omega) (by unfold fR; omega) (fun h35 => ?_) (fun h35 => ?_)
  · refine fx_vret (by decide +kernel) ?_
    unfold cRem at kq
    rw [if_neg (by omega)] at kq
    have s := fu_self (cpT (fu g 0 17 0) 16 76) 0 16
    rw [ec] at s
    rw [← s]
    exact kq
  · refine fx_la 0 39 (v := 2) (by decide +kernel) rfl (by decide +kernel) ?_
    refine fx_dup 40 (by decide +kernel) rfl (by decide) ?_
    refine fx_gi 2 0 16 43 (by decide +kernel) ?_
    try simp only [fu_app, fcy_app, Nat.reduceEqDiff, and_true, and_false, false_and, true_and, if_true, if_false, ite_true, ite_false, reduceIte, Int.reduceToNat, fx_simp0]
    rw [ec]
    refine fx_ci (1) 44 (by decide +kernel) ?_
    refine fx_add 45 (by decide +kernel) rfl ?_
    refine fx_pi 2 0 16 48 (by decide +kernel) (by unfold fR; omega) ?_
    refine fx_vret (by decide +kernel) ?_
    unfold cRem at kq
    rw [if_pos (by omega)] at kq
    exact kq
theorem sp_cund_0 (hi : g 0 17 = 0) (c0 : 1 ≤ g 0 16) (c1 : g 0 16 ≤ 12) (kq : Q 1 (fI 1) (cUnd g 0)) : fx W r 1 62 0 [2] [] g Q := by
  have ec : cpT g 76 16 0 16 = g 0 16 := cpT_ne (by decide)
  have en : cpT g 76 16 0 17 = 0 := (cpT_ne (by decide)).trans hi
  refine fx_la 0 1 (v := 2) (by decide +kernel) rfl (by decide +kernel) ?_
  refine fx_gi 2 0 16 4 (by decide +kernel) ?_
  refine fx_zne 9 7 (by decide +kernel) (by first | exact hg 0 16 (by decide) (by decide +kernel) (by decide +kernel) | (unfold fR; omega)) (fun h4 => ?_) (fun h4 => ?_)
  · refine fx_la 0 10 (v := 2) (by decide +kernel) rfl (by decide +kernel) ?_
    refine fx_gp 2 0 3 130 13 (by decide +kernel) ?_
    refine fx_la 0 14 (v := 2) (by decide +kernel) rfl (by decide +kernel) ?_
    refine fx_gp 2 0 14 602 17 (by decide +kernel) ?_
    refine fx_la 0 18 (v := 2) (by decide +kernel) rfl (by decide +kernel) ?_
    refine fx_gi 2 0 17 21 (by decide +kernel) ?_
    rw [hi]
    refine fx_aal 602 75 0 610 22 (by decide +kernel) rfl ?_
    refine fx_c2 63 21 25 0 [] (by decide +kernel) (by decide) (by decide) (by decide) rfl (by first | decide | omega) ?_
    refine sp_cpT_pt_0 (fK0 ?_)
    refine fx_la 0 26 (v := 2) (by decide +kernel) rfl (by decide +kernel) ?_
    refine fx_la 0 27 (v := 2) (by decide +kernel) rfl (by decide +kernel) ?_
    refine fx_gi 2 0 17 30 (by decide +kernel) ?_
    try simp only [fu_app, fcy_app, Nat.reduceEqDiff, and_true, and_false, false_and, true_and, if_true, if_false, ite_true, ite_false, reduceIte, Int.reduceToNat, fx_simp0]
    rw [en]
    refine fx_ci (12) 32 (by decide +kernel) ?_
    refine fx_add 33 (by decide +kernel) rfl ?_
    refine fx_ci (1) 34 (by decide +kernel) ?_
    refine fx_sub 35 (by decide +kernel) rfl ?_
    refine fx_ci (12) 37 (by decide +kernel) ?_
    refine fx_bin 10 38 (by decide +kernel) rfl (fun _ => by decide) ?_
    refine fx_pi 2 0 17 41 (by decide +kernel) (by first | exact fop_R _ _ _ | (unfold fR; omega)) ?_
    rw [show fop 10 ((0 : Int) + 12 - 1) 12 = ((11 : Nat) : Int) from fop_rem12 11 (by decide)]
    refine fx_la 0 42 (v := 2) (by decide +kernel) rfl (by decide +kernel) ?_
    refine fx_dup 43 (by decide +kernel) rfl (by decide) ?_
    refine fx_gi 2 0 16 46 (by decide +kernel) ?_
    try simp only [fu_app, fcy_app, Nat.reduceEqDiff, and_true, and_false, false_and, true_and, if_true, if_false, ite_true, ite_false, reduceIte, Int.reduceToNat, fx_simp0]
    rw [ec]
    refine fx_ci (1) 47 (by decide +kernel) ?_
    refine fx_sub 48 (by decide +kernel) rfl ?_
    refine fx_pi 2 0 16 51 (by decide +kernel) (by unfold fR; omega) ?_
    refine fx_ci (1) 52 (by decide +kernel) ?_
    refine fx_retb (by decide +kernel) (by first | exact Or.inl rfl | exact Or.inr rfl | omega) ?_
    exact kq
  · refine fx_ci (0) 8 (by decide +kernel) ?_
    refine fx_retb (by decide +kernel) (by first | exact Or.inl rfl | exact Or.inr rfl | omega) ?_
    exfalso; omega
theorem sp_cpT_tp_1 (kq : Q 0 0 (cpT g 16 82)) : fx W r 0 63 0 [658, 130] [] g Q := by
  refine fx_rg (fun hg => ?_)
  have v5 := hg 16 5 (by decide) (by decide +kernel) (by decide +kernel)
  have v6 := hg 16 6 (by decide) (by decide +kernel) (by decide +kernel)
  have v7 := hg 16 7 (by decide) (by decide +kernel) (by decide +kernel)
  have v8 := hg 16 8 (by decide) (by decide +kernel) (by decide +kernel)
  have v9 := hg 16 9 (by decide) (by decide +kernel) (by decide +kernel)
  have v10 := hg 16 10 (by decide) (by decide +kernel) (by decide +kernel)
  unfold fR at v5 v6 v7 v8 v9 v10
  refine fx_la 1 1 (v := 130) (by decide +kernel) rfl (by decide +kernel) ?_
  refine fx_gp 130 16 0 138 4 (by decide +kernel) ?_
  refine fx_ci (0) 5 (by decide +kernel) ?_
  refine fx_la 0 6 (v := 658) (by decide +kernel) rfl (by decide +kernel) ?_
  refine fx_gp 658 82 0 666 9 (by decide +kernel) ?_
  refine fx_ci (0) 10 (by decide +kernel) ?_
  refine fx_ci (8) 12 (by decide +kernel) ?_
  refine fx_cpy 138 17 666 83 8 15 (by decide +kernel) rfl ?_
  refine fx_la 1 16 (v := 130) (by decide +kernel) rfl (by decide +kernel) ?_
  refine fx_gp 130 16 1 146 19 (by decide +kernel) ?_
  refine fx_ci (0) 20 (by decide +kernel) ?_
  refine fx_la 0 21 (v := 658) (by decide +kernel) rfl (by decide +kernel) ?_
  refine fx_gp 658 82 1 674 24 (by decide +kernel) ?_
  refine fx_ci (0) 25 (by decide +kernel) ?_
  refine fx_ci (8) 27 (by decide +kernel) ?_
  refine fx_cpy 146 18 674 84 8 30 (by decide +kernel) rfl ?_
  refine fx_la 1 31 (v := 130) (by decide +kernel) rfl (by decide +kernel) ?_
  refine fx_gp 130 16 2 154 34 (by decide +kernel) ?_
  refine fx_ci (0) 35 (by decide +kernel) ?_
  refine fx_la 0 36 (v := 658) (by decide +kernel) rfl (by decide +kernel) ?_
  refine fx_gp 658 82 2 682 39 (by decide +kernel) ?_
  refine fx_ci (0) 40 (by decide +kernel) ?_
  refine fx_ci (8) 42 (by decide +kernel) ?_
  refine fx_cpy 154 19 682 85 8 45 (by decide +kernel) rfl ?_
  refine fx_la 1 46 (v := 130) (by decide +kernel) rfl (by decide +kernel) ?_
  refine fx_gp 130 16 3 162 49 (by decide +kernel) ?_
  refine fx_ci (0) 50 (by decide +kernel) ?_
  refine fx_la 0 51 (v := 658) (by decide +kernel) rfl (by decide +kernel) ?_
  refine fx_gp 658 82 3 690 54 (by decide +kernel) ?_
  refine fx_ci (0) 55 (by decide +kernel) ?_
  refine fx_ci (8) 57 (by decide +kernel) ?_
  refine fx_cpy 162 20 690 86 8 60 (by decide +kernel) rfl ?_
  refine fx_la 1 61 (v := 130) (by decide +kernel) rfl (by decide +kernel) ?_
  refine fx_gp 130 16 4 170 64 (by decide +kernel) ?_
  refine fx_ci (0) 65 (by decide +kernel) ?_
  refine fx_la 0 66 (v := 658) (by decide +kernel) rfl (by decide +kernel) ?_
  refine fx_gp 658 82 4 698 69 (by decide +kernel) ?_
  refine fx_ci (0) 70 (by decide +kernel) ?_
  refine fx_ci (60) 72 (by decide +kernel) ?_
  refine fx_cpy 170 21 698 87 60 75 (by decide +kernel) rfl ?_
  refine fx_la 0 76 (v := 658) (by decide +kernel) rfl (by decide +kernel) ?_
  refine fx_la 1 77 (v := 130) (by decide +kernel) rfl (by decide +kernel) ?_
  refine fx_gi 130 16 5 80 (by decide +kernel) ?_
  try simp only [fu_app, fcy_app, Nat.reduceEqDiff, and_true, and_false, false_and, true_and, if_true, if_false, ite_true, ite_false, reduceIte, Int.reduceToNat, fx_simp0]
  refine fx_pi 658 82 5 83 (by decide +kernel) (by unfold fR; omega) ?_
  refine fx_la 0 84 (v := 658) (by decide +kernel) rfl (by decide +kernel) ?_
  refine fx_la 1 85 (v := 130) (by decide +kernel) rfl (by decide +kernel) ?_
  refine fx_gi 130 16 6 88 (by decide +kernel) ?_
  try simp only [fu_app, fcy_app, Nat.reduceEqDiff, and_true, and_false, false_and, true_and, if_true, if_false, ite_true, ite_false, reduceIte, Int.reduceToNat, fx_simp0]
  refine fx_pi 658 82 6 91 (by decide +kernel) (by unfold fR; omega) ?_
  refine fx_la 0 92 (v := 658) (by decide +kernel) rfl (by decide +kernel) ?_
  refine fx_la 1 93 (v := 130) (by decide +kernel) rfl (by decide +kernel) ?_
  refine fx_gi 130 16 7 96 (by decide +kernel) ?_
  try simp only [fu_app, fcy_app, Nat.reduceEqDiff, and_true, and_false, false_and, true_and, if_true, if_false, ite_true, ite_false, reduceIte, Int.reduceToNat, fx_simp0]
  refine fx_pi 658 82 7 99 (by decide +kernel) (by unfold fR; omega) ?_
  refine fx_la 0 100 (v := 658) (by decide +kernel) rfl (by decide +kernel) ?_
  refine fx_la 1 101 (v := 130) (by decide +kernel) rfl (by decide +kernel) ?_
  refine fx_gi 130 16 8 104 (by decide +kernel) ?_
  try simp only [fu_app, fcy_app, Nat.reduceEqDiff, and_true, and_false, false_and, true_and, if_true, if_false, ite_true, ite_false, reduceIte, Int.reduceToNat, fx_simp0]
  refine fx_pi 658 82 8 107 (by decide +kernel) (by unfold fR; omega) ?_
  refine fx_la 0 108 (v := 658) (by decide +kernel) rfl (by decide +kernel) ?_
  refine fx_la 1 109 (v := 130) (by decide +kernel) rfl (by decide +kernel) ?_
  refine fx_gi 130 16 9 112 (by decide +kernel) ?_
  try simp only [fu_app, fcy_app, Nat.reduceEqDiff, and_true, and_false, false_and, true_and, if_true, if_false, ite_true, ite_false, reduceIte, Int.reduceToNat, fx_simp0]
  refine fx_pi 658 82 9 115 (by decide +kernel) (by unfold fR; omega) ?_
  refine fx_la 0 116 (v := 658) (by decide +kernel) rfl (by decide +kernel) ?_
  refine fx_la 1 117 (v := 130) (by decide +kernel) rfl (by decide +kernel) ?_
  refine fx_gi 130 16 10 120 (by decide +kernel) ?_
  try simp only [fu_app, fcy_app, Nat.reduceEqDiff, and_true, and_false, false_and, true_and, if_true, if_false, ite_true, ite_false, reduceIte, Int.reduceToNat, fx_simp0]
  refine fx_pi 658 82 10 123 (by decide +kernel) (by unfold fR; omega) ?_
  refine fx_vret (by decide +kernel) ?_
  exact kq
theorem sp_cpT_pt_1 (kq : Q 0 0 (cpT g 82 16)) : fx W r 0 63 0 [130, 658] [] g Q := by
  refine fx_rg (fun hg => ?_)
  have v5 := hg 82 5 (by decide) (by decide +kernel) (by decide +kernel)
  have v6 := hg 82 6 (by decide) (by decide +kernel) (by decide +kernel)
  have v7 := hg 82 7 (by decide) (by decide +kernel) (by decide +kernel)
  have v8 := hg 82 8 (by decide) (by decide +kernel) (by decide +kernel)
  have v9 := hg 82 9 (by decide) (by decide +kernel) (by decide +kernel)
  have v10 := hg 82 10 (by decide) (by decide +kernel) (by decide +kernel)
  unfold fR at v5 v6 v7 v8 v9 v10
  refine fx_la 1 1 (v := 658) (by decide +kernel) rfl (by decide +kernel) ?_
  refine fx_gp 658 82 0 666 4 (by decide +kernel) ?_
  refine fx_ci (0) 5 (by decide +kernel) ?_
  refine fx_la 0 6 (v := 130) (by decide +kernel) rfl (by decide +kernel) ?_
  refine fx_gp 130 16 0 138 9 (by decide +kernel) ?_
  refine fx_ci (0) 10 (by decide +kernel) ?_
  refine fx_ci (8) 12 (by decide +kernel) ?_
  refine fx_cpy 666 83 138 17 8 15 (by decide +kernel) rfl ?_
  refine fx_la 1 16 (v := 658) (by decide +kernel) rfl (by decide +kernel) ?_
  refine fx_gp 658 82 1 674 19 (by decide +kernel) ?_
  refine fx_ci (0) 20 (by decide +kernel) ?_
  refine fx_la 0 21 (v := 130) (by decide +kernel) rfl (by decide +kernel) ?_
  refine fx_gp 130 16 1 146 24 (by decide +kernel) ?_
  refine fx_ci (0) 25 (by decide +kernel) ?_
  refine fx_ci (8) 27 (by decide +kernel) ?_
  refine fx_cpy 674 84 146 18 8 30 (by decide +kernel) rfl ?_
  refine fx_la 1 31 (v := 658) (by decide +kernel) rfl (by decide +kernel) ?_
  refine fx_gp 658 82 2 682 34 (by decide +kernel) ?_
  refine fx_ci (0) 35 (by decide +kernel) ?_
  refine fx_la 0 36 (v := 130) (by decide +kernel) rfl (by decide +kernel) ?_
  refine fx_gp 130 16 2 154 39 (by decide +kernel) ?_
  refine fx_ci (0) 40 (by decide +kernel) ?_
  refine fx_ci (8) 42 (by decide +kernel) ?_
  refine fx_cpy 682 85 154 19 8 45 (by decide +kernel) rfl ?_
  refine fx_la 1 46 (v := 658) (by decide +kernel) rfl (by decide +kernel) ?_
  refine fx_gp 658 82 3 690 49 (by decide +kernel) ?_
  refine fx_ci (0) 50 (by decide +kernel) ?_
  refine fx_la 0 51 (v := 130) (by decide +kernel) rfl (by decide +kernel) ?_
  refine fx_gp 130 16 3 162 54 (by decide +kernel) ?_
  refine fx_ci (0) 55 (by decide +kernel) ?_
  refine fx_ci (8) 57 (by decide +kernel) ?_
  refine fx_cpy 690 86 162 20 8 60 (by decide +kernel) rfl ?_
  refine fx_la 1 61 (v := 658) (by decide +kernel) rfl (by decide +kernel) ?_
  refine fx_gp 658 82 4 698 64 (by decide +kernel) ?_
  refine fx_ci (0) 65 (by decide +kernel) ?_
  refine fx_la 0 66 (v := 130) (by decide +kernel) rfl (by decide +kernel) ?_
  refine fx_gp 130 16 4 170 69 (by decide +kernel) ?_
  refine fx_ci (0) 70 (by decide +kernel) ?_
  refine fx_ci (60) 72 (by decide +kernel) ?_
  refine fx_cpy 698 87 170 21 60 75 (by decide +kernel) rfl ?_
  refine fx_la 0 76 (v := 130) (by decide +kernel) rfl (by decide +kernel) ?_
  refine fx_la 1 77 (v := 658) (by decide +kernel) rfl (by decide +kernel) ?_
  refine fx_gi 658 82 5 80 (by decide +kernel) ?_
  try simp only [fu_app, fcy_app, Nat.reduceEqDiff, and_true, and_false, false_and, true_and, if_true, if_false, ite_true, ite_false, reduceIte, Int.reduceToNat, fx_simp0]
  refine fx_pi 130 16 5 83 (by decide +kernel) (by unfold fR; omega) ?_
  refine fx_la 0 84 (v := 130) (by decide +kernel) rfl (by decide +kernel) ?_
  refine fx_la 1 85 (v := 658) (by decide +kernel) rfl (by decide +kernel) ?_
  refine fx_gi 658 82 6 88 (by decide +kernel) ?_
  try simp only [fu_app, fcy_app, Nat.reduceEqDiff, and_true, and_false, false_and, true_and, if_true, if_false, ite_true, ite_false, reduceIte, Int.reduceToNat, fx_simp0]
  refine fx_pi 130 16 6 91 (by decide +kernel) (by unfold fR; omega) ?_
  refine fx_la 0 92 (v := 130) (by decide +kernel) rfl (by decide +kernel) ?_
  refine fx_la 1 93 (v := 658) (by decide +kernel) rfl (by decide +kernel) ?_
  refine fx_gi 658 82 7 96 (by decide +kernel) ?_
  try simp only [fu_app, fcy_app, Nat.reduceEqDiff, and_true, and_false, false_and, true_and, if_true, if_false, ite_true, ite_false, reduceIte, Int.reduceToNat, fx_simp0]
  refine fx_pi 130 16 7 99 (by decide +kernel) (by unfold fR; omega) ?_
  refine fx_la 0 100 (v := 130) (by decide +kernel) rfl (by decide +kernel) ?_
  refine fx_la 1 101 (v := 658) (by decide +kernel) rfl (by decide +kernel) ?_
  refine fx_gi 658 82 8 104 (by decide +kernel) ?_
  try simp only [fu_app, fcy_app, Nat.reduceEqDiff, and_true, and_false, false_and, true_and, if_true, if_false, ite_true, ite_false, reduceIte, Int.reduceToNat, fx_simp0]
  refine fx_pi 130 16 8 107 (by decide +kernel) (by unfold fR; omega) ?_
  refine fx_la 0 108 (v := 130) (by decide +kernel) rfl (by decide +kernel) ?_
  refine fx_la 1 109 (v := 658) (by decide +kernel) rfl (by decide +kernel) ?_
  refine fx_gi 658 82 9 112 (by decide +kernel) ?_
  try simp only [fu_app, fcy_app, Nat.reduceEqDiff, and_true, and_false, false_and, true_and, if_true, if_false, ite_true, ite_false, reduceIte, Int.reduceToNat, fx_simp0]
  refine fx_pi 130 16 9 115 (by decide +kernel) (by unfold fR; omega) ?_
  refine fx_la 0 116 (v := 130) (by decide +kernel) rfl (by decide +kernel) ?_
  refine fx_la 1 117 (v := 658) (by decide +kernel) rfl (by decide +kernel) ?_
  refine fx_gi 658 82 10 120 (by decide +kernel) ?_
  try simp only [fu_app, fcy_app, Nat.reduceEqDiff, and_true, and_false, false_and, true_and, if_true, if_false, ite_true, ite_false, reduceIte, Int.reduceToNat, fx_simp0]
  refine fx_pi 130 16 10 123 (by decide +kernel) (by unfold fR; omega) ?_
  refine fx_vret (by decide +kernel) ?_
  exact kq
theorem sp_crem_1 (hi : fop 10 (g 0 17 + 1) 12 = 1) (c0 : 0 ≤ g 0 16) (c1 : g 0 16 ≤ 12) (kq : Q 0 0 (cRem g 1)) : fx W r 1 152 0 [2] [] g Q := by
  have ec : cpT (fu g 0 17 1) 16 82 0 16 = g 0 16 := by rw [cpT_ne (by decide), fu_nj (by decide)]
  refine fx_la 0 1 (v := 2) (by decide +kernel) rfl (by decide +kernel) ?_
  refine fx_la 0 2 (v := 2) (by decide +kernel) rfl (by decide +kernel) ?_
  refine fx_gi 2 0 17 5 (by decide +kernel) ?_
  refine fx_ci (1) 6 (by decide +kernel) ?_
  refine fx_add 7 (by decide +kernel) rfl ?_
  refine fx_ci (12) 9 (by decide +kernel) ?_
  refine fx_bin 10 10 (by decide +kernel) rfl (fun _ => by decide) ?_
  refine fx_pi 2 0 17 13 (by decide +kernel) (by first | exact fop_R _ _ _ | (unfold fR; omega)) ?_
  rw [hi]
  refine fx_la 0 14 (v := 2) (by decide +kernel) rfl (by decide +kernel) ?_
  refine fx_gp 2 0 14 602 17 (by decide +kernel) ?_
  refine fx_la 0 18 (v := 2) (by decide +kernel) rfl (by decide +kernel) ?_
  refine fx_gi 2 0 17 21 (by decide +kernel) ?_
  try simp only [fu_app, fcy_app, Nat.reduceEqDiff, and_true, and_false, false_and, true_and, if_true, if_false, ite_true, ite_false, reduceIte, Int.reduceToNat, fx_simp0]
  refine fx_aal 602 75 1 658 22 (by decide +kernel) rfl ?_
  refine fx_la 0 23 (v := 2) (by decide +kernel) rfl (by decide +kernel) ?_
  refine fx_gp 2 0 3 130 26 (by decide +kernel) ?_
  refine fx_c2 63 21 29 0 [] (by decide +kernel) (by decide) (by decide) (by decide) rfl (by first | decide | omega) ?_
  refine sp_cpT_tp_1 (fK0 ?_)
  refine fx_la 0 30 (v := 2) (by decide +kernel) rfl (by decide +kernel) ?_
  refine fx_gi 2 0 16 33 (by decide +kernel) ?_
  try simp only [fu_app, fcy_app, Nat.reduceEqDiff, and_true, and_false, false_and, true_and, if_true, if_false, ite_true, ite_false, reduceIte, Int.reduceToNat, fx_simp0]
  rw [ec]
  refine fx_ci (12) 35 (by decide +kernel) ?_
  refine fx_ige 48 38 (by decide +kernel) (by unfold fR; omega) (by unfold fR; omega) (fun h35 => ?_) (fun h35 => ?_)
  · refine fx_vret (by decide +kernel) ?_
    unfold cRem at kq
    rw [if_neg (by omega)] at kq
    have s := fu_self (cpT (fu g 0 17 1) 16 82) 0 16
    rw [ec] at s
    rw [← s]
    exact kq
  · refine fx_la 0 39 (v := 2) (by decide +kernel) rfl (by decide +kernel) ?_
    refine fx_dup 40 (by decide +kernel) rfl (by decide) ?_
    refine fx_gi 2 0 16 43 (by decide +kernel) ?_
    try simp only [fu_app, fcy_app, Nat.reduceEqDiff, and_true, and_false, false_and, true_and, if_true, if_false, ite_true, ite_false, reduceIte, Int.reduceToNat, fx_simp0]
    rw [ec]
    refine fx_ci (1) 44 (by decide +kernel) ?_
    refine fx_add 45 (by decide +kernel) rfl ?_
    refine fx_pi 2 0 16 48 (by decide +kernel) (by unfold fR; omega) ?_
    refine fx_vret (by decide +kernel) ?_
    unfold cRem at kq
    rw [if_pos (by omega)] at kq
    exact kq
theorem sp_cund_1 (hi : g 0 17 = 1) (c0 : 1 ≤ g 0 16) (c1 : g 0 16 ≤ 12) (kq : Q 1 (fI 1) (cUnd g 1)) : fx W r 1 62 0 [2] [] g Q := by
  have ec : cpT g 82 16 0 16 = g 0 16 := cpT_ne (by decide)
  have en : cpT g 82 16 0 17 = 1 := (cpT_ne (by decide)).trans hi
  refine fx_la 0 1 (v := 2) (by decide +kernel) rfl (by decide +kernel) ?_
  refine fx_gi 2 0 16 4 (by decide +kernel) ?_
  refine fx_zne 9 7 (by decide +kernel) (by first | exact hg 0 16 (by decide) (by decide +kernel) (by decide +kernel) | (unfold fR; omega)) (fun h4 => ?_) (fun h4 => ?_)
  · refine fx_la 0 10 (v := 2) (by decide +kernel) rfl (by decide +kernel) ?_
    refine fx_gp 2 0 3 130 13 (by decide +kernel) ?_
    refine fx_la 0 14 (v := 2) (by decide +kernel) rfl (by decide +kernel) ?_
    refine fx_gp 2 0 14 602 17 (by decide +kernel) ?_
    refine fx_la 0 18 (v := 2) (by decide +kernel) rfl (by decide +kernel) ?_
    refine fx_gi 2 0 17 21 (by decide +kernel) ?_
    rw [hi]
    refine fx_aal 602 75 1 658 22 (by decide +kernel) rfl ?_
    refine fx_c2 63 21 25 0 [] (by decide +kernel) (by decide) (by decide) (by decide) rfl (by first | decide | omega) ?_
    refine sp_cpT_pt_1 (fK0 ?_)
    refine fx_la 0 26 (v := 2) (by decide +kernel) rfl (by decide +kernel) ?_
    refine fx_la 0 27 (v := 2) (by decide +kernel) rfl (by decide +kernel) ?_
    refine fx_gi 2 0 17 30 (by decide +kernel) ?_
    try simp only [fu_app, fcy_app, Nat.reduceEqDiff, and_true, and_false, false_and, true_and, if_true, if_false, ite_true, ite_false, reduceIte, Int.reduceToNat, fx_simp0]
    rw [en]
    refine fx_ci (12) 32 (by decide +kernel) ?_
    refine fx_add 33 (by decide +kernel) rfl ?_
    refine fx_ci (1) 34 (by decide +kernel) ?_
    refine fx_sub 35 (by decide +kernel) rfl ?_
    refine fx_ci (12) 37 (by decide +kernel) ?_
    refine fx_bin 10 38 (by decide +kernel) rfl (fun _ => by decide) ?_
    refine fx_pi 2 0 17 41 (by decide +kernel) (by first | exact fop_R _ _ _ | (unfold fR; omega)) ?_
    rw [show fop 10 ((1 : Int) + 12 - 1) 12 = ((0 : Nat) : Int) from fop_rem12 12 (by decide)]
    refine fx_la 0 42 (v := 2) (by decide +kernel) rfl (by decide +kernel) ?_
    refine fx_dup 43 (by decide +kernel) rfl (by decide) ?_
    refine fx_gi 2 0 16 46 (by decide +kernel) ?_
    try simp only [fu_app, fcy_app, Nat.reduceEqDiff, and_true, and_false, false_and, true_and, if_true, if_false, ite_true, ite_false, reduceIte, Int.reduceToNat, fx_simp0]
    rw [ec]
    refine fx_ci (1) 47 (by decide +kernel) ?_
    refine fx_sub 48 (by decide +kernel) rfl ?_
    refine fx_pi 2 0 16 51 (by decide +kernel) (by unfold fR; omega) ?_
    refine fx_ci (1) 52 (by decide +kernel) ?_
    refine fx_retb (by decide +kernel) (by first | exact Or.inl rfl | exact Or.inr rfl | omega) ?_
    exact kq
  · refine fx_ci (0) 8 (by decide +kernel) ?_
    refine fx_retb (by decide +kernel) (by first | exact Or.inl rfl | exact Or.inr rfl | omega) ?_
    exfalso; omega
theorem sp_cpT_tp_2 (kq : Q 0 0 (cpT g 16 88)) : fx W r 0 63 0 [706, 130] [] g Q := by
  refine fx_rg (fun hg => ?_)
  have v5 := hg 16 5 (by decide) (by decide +kernel) (by decide +kernel)
  have v6 := hg 16 6 (by decide) (by decide +kernel) (by decide +kernel)
  have v7 := hg 16 7 (by decide) (by decide +kernel) (by decide +kernel)
  have v8 := hg 16 8 (by decide) (by decide +kernel) (by decide +kernel)
  have v9 := hg 16 9 (by decide) (by decide +kernel) (by decide +kernel)
  have v10 := hg 16 10 (by decide) (by decide +kernel) (by decide +kernel)
  unfold fR at v5 v6 v7 v8 v9 v10
  refine fx_la 1 1 (v := 130) (by decide +kernel) rfl (by decide +kernel) ?_
  refine fx_gp 130 16 0 138 4 (by decide +kernel) ?_
  refine fx_ci (0) 5 (by decide +kernel) ?_
  refine fx_la 0 6 (v := 706) (by decide +kernel) rfl (by decide +kernel) ?_
  refine fx_gp 706 88 0 714 9 (by decide +kernel) ?_
  refine fx_ci (0) 10 (by decide +kernel) ?_
  refine fx_ci (8) 12 (by decide +kernel) ?_
  refine fx_cpy 138 17 714 89 8 15 (by decide +kernel) rfl ?_
  refine fx_la 1 16 (v := 130) (by decide +kernel) rfl (by decide +kernel) ?_
  refine fx_gp 130 16 1 146 19 (by decide +kernel) ?_
  refine fx_ci (0) 20 (by decide +kernel) ?_
  refine fx_la 0 21 (v := 706) (by decide +kernel) rfl (by decide +kernel) ?_
  refine fx_gp 706 88 1 722 24 (by decide +kernel) ?_
  refine fx_ci (0) 25 (by decide +kernel) ?_
  refine fx_ci (8) 27 (by decide +kernel) ?_
  refine fx_cpy 146 18 722 90 8 30 (by decide +kernel) rfl ?_
  refine fx_la 1 31 (v := 130) (by decide +kernel) rfl (by decide +kernel) ?_
  refine fx_gp 130 16 2 154 34 (by decide +kernel) ?_
  refine fx_ci (0) 35 (by decide +kernel) ?_
  refine fx_la 0 36 (v := 706) (by decide +kernel) rfl (by decide +kernel) ?_
  refine fx_gp 706 88 2 730 39 (by decide +kernel) ?_
  refine fx_ci (0) 40 (by decide +kernel) ?_
  refine fx_ci (8) 42 (by decide +kernel) ?_
  refine fx_cpy 154 19 730 91 8 45 (by decide +kernel) rfl ?_
  refine fx_la 1 46 (v := 130) (by decide +kernel) rfl (by decide +kernel) ?_
  refine fx_gp 130 16 3 162 49 (by decide +kernel) ?_
  refine fx_ci (0) 50 (by decide +kernel) ?_
  refine fx_la 0 51 (v := 706) (by decide +kernel) rfl (by decide +kernel) ?_
  refine fx_gp 706 88 3 738 54 (by decide +kernel) ?_
  refine fx_ci (0) 55 (by decide +kernel) ?_
  refine fx_ci (8) 57 (by decide +kernel) ?_
  refine fx_cpy 162 20 738 92 8 60 (by decide +kernel) rfl ?_
  refine fx_la 1 61 (v := 130) (by decide +kernel) rfl (by decide +kernel) ?_
  refine fx_gp 130 16 4 170 64 (by decide +kernel) ?_
  refine fx_ci (0) 65 (by decide +kernel) ?_
  refine fx_la 0 66 (v := 706) (by decide +kernel) rfl (by decide +kernel) ?_
  refine fx_gp 706 88 4 746 69 (by decide +kernel) ?_
  refine fx_ci (0) 70 (by decide +kernel) ?_
  refine fx_ci (60) 72 (by decide +kernel) ?_
  refine fx_cpy 170 21 746 93 60 75 (by decide +kernel) rfl ?_
  refine fx_la 0 76 (v := 706) (by decide +kernel) rfl (by decide +kernel) ?_
  refine fx_la 1 77 (v := 130) (by decide +kernel) rfl (by decide +kernel) ?_
  refine fx_gi 130 16 5 80 (by decide +kernel) ?_
  try simp only [fu_app, fcy_app, Nat.reduceEqDiff, and_true, and_false, false_and, true_and, if_true, if_false, ite_true, ite_false, reduceIte, Int.reduceToNat, fx_simp0]
  refine fx_pi 706 88 5 83 (by decide +kernel) (by unfold fR; omega) ?_
  refine fx_la 0 84 (v := 706) (by decide +kernel) rfl (by decide +kernel) ?_
  refine fx_la 1 85 (v := 130) (by decide +kernel) rfl (by decide +kernel) ?_
  refine fx_gi 130 16 6 88 (by decide +kernel) ?_
  try simp only [fu_app, fcy_app, Nat.reduceEqDiff, and_true, and_false, false_and, true_and, if_true, if_false, ite_true, ite_false, reduceIte, Int.reduceToNat, fx_simp0]
  refine fx_pi 706 88 6 91 (by decide +kernel) (by unfold fR; omega) ?_
  refine fx_la 0 92 (v := 706) (by decide +kernel) rfl (by decide +kernel) ?_
  refine fx_la 1 93 (v := 130) (by decide +kernel) rfl (by decide +kernel) ?_
  refine fx_gi 130 16 7 96 (by decide +kernel) ?_
  try simp only [fu_app, fcy_app, Nat.reduceEqDiff, and_true, and_false, false_and, true_and, if_true, if_false, ite_true, ite_false, reduceIte, Int.reduceToNat, fx_simp0]
  refine fx_pi 706 88 7 99 (by decide +kernel) (by unfold fR; omega) ?_
  refine fx_la 0 100 (v := 706) (by decide +kernel) rfl (by decide +kernel) ?_
  refine fx_la 1 101 (v := 130) (by decide +kernel) rfl (by decide +kernel) ?_
  refine fx_gi 130 16 8 104 (by decide +kernel) ?_
  try simp only [fu_app, fcy_app, Nat.reduceEqDiff, and_true, and_false, false_and, true_and, if_true, if_false, ite_true, ite_false, reduceIte, Int.reduceToNat, fx_simp0]
  refine fx_pi 706 88 8 107 (by decide +kernel) (by unfold fR; omega) ?_
  refine fx_la 0 108 (v := 706) (by decide +kernel) rfl (by decide +kernel) ?_
  refine fx_la 1 109 (v := 130) (by decide +kernel) rfl (by decide +kernel) ?_
  refine fx_gi 130 16 9 112 (by decide +kernel) ?_
  try simp only [fu_app, fcy_app, Nat.reduceEqDiff, and_true, and_false, false_and, true_and, if_true, if_false, ite_true, ite_false, reduceIte, Int.reduceToNat, fx_simp0]
  refine fx_pi 706 88 9 115 (by decide +kernel) (by unfold fR; omega) ?_
  refine fx_la 0 116 (v := 706) (by decide +kernel) rfl (by decide +kernel) ?_
  refine fx_la 1 117 (v := 130) (by decide +kernel) rfl (by decide +kernel) ?_
  refine fx_gi 130 16 10 120 (by decide +kernel) ?_
  try simp only [fu_app, fcy_app, Nat.reduceEqDiff, and_true, and_false, false_and, true_and, if_true, if_false, ite_true, ite_false, reduceIte, Int.reduceToNat, fx_simp0]
  refine fx_pi 706 88 10 123 (by decide +kernel) (by unfold fR; omega) ?_
  refine fx_vret (by decide +kernel) ?_
  exact kq
theorem sp_cpT_pt_2 (kq : Q 0 0 (cpT g 88 16)) : fx W r 0 63 0 [130, 706] [] g Q := by
  refine fx_rg (fun hg => ?_)
  have v5 := hg 88 5 (by decide) (by decide +kernel) (by decide +kernel)
  have v6 := hg 88 6 (by decide) (by decide +kernel) (by decide +kernel)
  have v7 := hg 88 7 (by decide) (by decide +kernel) (by decide +kernel)
  have v8 := hg 88 8 (by decide) (by decide +kernel) (by decide +kernel)
  have v9 := hg 88 9 (by decide) (by decide +kernel) (by decide +kernel)
  have v10 := hg 88 10 (by decide) (by decide +kernel) (by decide +kernel)
  unfold fR at v5 v6 v7 v8 v9 v10
  refine fx_la 1 1 (v := 706) (by decide +kernel) rfl (by decide +kernel) ?_
  refine fx_gp 706 88 0 714 4 (by decide +kernel) ?_
  refine fx_ci (0) 5 (by decide +kernel) ?_
  refine fx_la 0 6 (v := 130) (by decide +kernel) rfl (by decide +kernel) ?_
  refine fx_gp 130 16 0 138 9 (by decide +kernel) ?_
  refine fx_ci (0) 10 (by decide +kernel) ?_
  refine fx_ci (8) 12 (by decide +kernel) ?_
  refine fx_cpy 714 89 138 17 8 15 (by decide +kernel) rfl ?_
  refine fx_la 1 16 (v := 706) (by decide +kernel) rfl (by decide +kernel) ?_
  refine fx_gp 706 88 1 722 19 (by decide +kernel) ?_
  refine fx_ci (0) 20 (by decide +kernel) ?_
  refine fx_la 0 21 (v := 130) (by decide +kernel) rfl (by decide +kernel) ?_
  refine fx_gp 130 16 1 146 24 (by decide +kernel) ?_
  refine fx_ci (0) 25 (by decide +kernel) ?_
  refine fx_ci (8) 27 (by decide +kernel) ?_
  refine fx_cpy 722 90 146 18 8 30 (by decide +kernel) rfl ?_
  refine fx_la 1 31 (v := 706) (by decide +kernel) rfl (by decide +kernel) ?_
  refine fx_gp 706 88 2 730 34 (by decide +kernel) ?_
  refine fx_ci (0) 35 (by decide +kernel) ?_
  refine fx_la 0 36 (v := 130) (by decide +kernel) rfl (by decide +kernel) ?_
  refine fx_gp 130 16 2 154 39 (by decide +kernel) ?_
  refine fx_ci (0) 40 (by decide +kernel) ?_
  refine fx_ci (8) 42 (by decide +kernel) ?_
  refine fx_cpy 730 91 154 19 8 45 (by decide +kernel) rfl ?_
  refine fx_la 1 46 (v := 706) (by decide +kernel) rfl (by decide +kernel) ?_
  refine fx_gp 706 88 3 738 49 (by decide +kernel) ?_
  refine fx_ci (0) 50 (by decide +kernel) ?_
  refine fx_la 0 51 (v := 130) (by decide +kernel) rfl (by decide +kernel) ?_
  refine fx_gp 130 16 3 162 54 (by decide +kernel) ?_
  refine fx_ci (0) 55 (by decide +kernel) ?_
  refine fx_ci (8) 57 (by decide +kernel) ?_
  refine fx_cpy 738 92 162 20 8 60 (by decide +kernel) rfl ?_
  refine fx_la 1 61 (v := 706) (by decide +kernel) rfl (by decide +kernel) ?_
  refine fx_gp 706 88 4 746 64 (by decide +kernel) ?_
  refine fx_ci (0) 65 (by decide +kernel) ?_
  refine fx_la 0 66 (v := 130) (by decide +kernel) rfl (by decide +kernel) ?_
  refine fx_gp 130 16 4 170 69 (by decide +kernel) ?_
  refine fx_ci (0) 70 (by decide +kernel) ?_
  refine fx_ci (60) 72 (by decide +kernel) ?_
  refine fx_cpy 746 93 170 21 60 75 (by decide +kernel) rfl ?_
  refine fx_la 0 76 (v := 130) (by decide +kernel) rfl (by decide +kernel) ?_
  refine fx_la 1 77 (v := 706) (by decide +kernel) rfl (by decide +kernel) ?_
  refine fx_gi 706 88 5 80 (by decide +kernel) ?_
  try simp only [fu_app, fcy_app, Nat.reduceEqDiff, and_true, and_false, false_and, true_and, if_true, if_false, ite_true, ite_false, reduceIte, Int.reduceToNat, fx_simp0]
  refine fx_pi 130 16 5 83 (by decide +kernel) (by unfold fR; omega) ?_
  refine fx_la 0 84 (v := 130) (by decide +kernel) rfl (by decide +kernel) ?_
  refine fx_la 1 85 (v := 706) (by decide +kernel) rfl (by decide +kernel) ?_
  refine fx_gi 706 88 6 88 (by decide +kernel) ?_
  try simp only [fu_app, fcy_app, Nat.reduceEqDiff, and_true, and_false, false_and, true_and, if_true, if_false, ite_true, ite_false, reduceIte, Int.reduceToNat, fx_simp0]
  refine fx_pi 130 16 6 91 (by decide +kernel) (by unfold fR; omega) ?_
  refine fx_la 0 92 (v := 130) (by decide +kernel) rfl (by decide +kernel) ?_
  refine fx_la 1 93 (v := 706) (by decide +kernel) rfl (by decide +kernel) ?_
  refine fx_gi 706 88 7 96 (by decide +kernel) ?_
  try simp only [fu_app, fcy_app, Nat.reduceEqDiff, and_true, and_false, false_and, true_and, if_true, if_false, ite_true, ite_false, reduceIte, Int.reduceToNat, fx_simp0]
  refine fx_pi 130 16 7 99 (by decide +kernel) (by unfold fR; omega) ?_
  refine fx_la 0 100 (v := 130) (by decide +kernel) rfl (by decide +kernel) ?_
  refine fx_la 1 101 (v := 706) (by decide +kernel) rfl (by decide +kernel) ?_
  refine fx_gi 706 88 8 104 (by decide +kernel) ?_
  try simp only [fu_app, fcy_app, Nat.reduceEqDiff, and_true, and_false, false_and, true_and, if_true, if_false, ite_true, ite_false, reduceIte, Int.reduceToNat, fx_simp0]
  refine fx_pi 130 16 8 107 (by decide +kernel) (by unfold fR; omega) ?_
  refine fx_la 0 108 (v := 130) (by decide +kernel) rfl (by decide +kernel) ?_
  refine fx_la 1 109 (v := 706) (by decide +kernel) rfl (by decide +kernel) ?_
  refine fx_gi 706 88 9 112 (by decide +kernel) ?_
  try simp only [fu_app, fcy_app, Nat.reduceEqDiff, and_true, and_false, false_and, true_and, if_true, if_false, ite_true, ite_false, reduceIte, Int.reduceToNat, fx_simp0]
  refine fx_pi 130 16 9 115 (by decide +kernel) (by unfold fR; omega) ?_
  refine fx_la 0 116 (v := 130) (by decide +kernel) rfl (by decide +kernel) ?_
  refine fx_la 1 117 (v := 706) (by decide +kernel) rfl (by decide +kernel) ?_
  refine fx_gi 706 88 10 120 (by decide +kernel) ?_
  try simp only [fu_app, fcy_app, Nat.reduceEqDiff, and_true, and_false, false_and, true_and, if_true, if_false, ite_true, ite_false, reduceIte, Int.reduceToNat, fx_simp0]
  refine fx_pi 130 16 10 123 (by decide +kernel) (by unfold fR; omega) ?_
  refine fx_vret (by decide +kernel) ?_
  exact kq
theorem sp_crem_2 (hi : fop 10 (g 0 17 + 1) 12 = 2) (c0 : 0 ≤ g 0 16) (c1 : g 0 16 ≤ 12) (kq : Q 0 0 (cRem g 2)) : fx W r 1 152 0 [2] [] g Q := by
  have ec : cpT (fu g 0 17 2) 16 88 0 16 = g 0 16 := by rw [cpT_ne (by decide), fu_nj (by decide)]
  refine fx_la 0 1 (v := 2) (by decide +kernel) rfl (by decide +kernel) ?_
  refine fx_la 0 2 (v := 2) (by decide +kernel) rfl (by decide +kernel) ?_
  refine fx_gi 2 0 17 5 (by decide +kernel) ?_
  refine fx_ci (1) 6 (by decide +kernel) ?_
  refine fx_add 7 (by decide +kernel) rfl ?_
  refine fx_ci (12) 9 (by decide +kernel) ?_
  refine fx_bin 10 10 (by decide +kernel) rfl (fun _ => by decide) ?_
  refine fx_pi 2 0 17 13 (by decide +kernel) (by first | exact fop_R _ _ _ | (unfold fR; omega)) ?_
  rw [hi]
  refine fx_la 0 14 (v := 2) (by decide +kernel) rfl (by decide +kernel) ?_
  refine fx_gp 2 0 14 602 17 (by decide +kernel) ?_
  refine fx_la 0 18 (v := 2) (by decide +kernel) rfl (by decide +kernel) ?_
  refine fx_gi 2 0 17 21 (by decide +kernel) ?_
  try simp only [fu_app, fcy_app, Nat.reduceEqDiff, and_true, and_false, false_and, true_and, if_true, if_false, ite_true, ite_false, reduceIte, Int.reduceToNat, fx_simp0]
  refine fx_aal 602 75 2 706 22 (by decide +kernel) rfl ?_
  refine fx_la 0 23 (v := 2) (by decide +kernel) rfl (by decide +kernel) ?_
  refine fx_gp 2 0 3 130 26 (by decide +kernel) ?_
  refine fx_c2 63 21 29 0 [] (by decide +kernel) (by decide) (by decide) (by decide) rfl (by first | decide | omega) ?_
  refine sp_cpT_tp_2 (fK0 ?_)
  refine fx_la 0 30 (v := 2) (by decide +kernel) rfl (by decide +kernel) ?_
  refine fx_gi 2 0 16 33 (by decide +kernel) ?_
  try simp only [fu_app, fcy_app, Nat.reduceEqDiff, and_true, and_false, false_and, true_and, if_true, if_false, ite_true, ite_false, reduceIte, Int.reduceToNat, fx_simp0]
  rw [ec]
  refine fx_ci (12) 35 (by decide +kernel) ?_
  refine fx_ige 48 38 (by decide +kernel) (by unfold fR; omega) (by unfold fR; omega) (fun h35 => ?_) (fun h35 => ?_)
  · refine fx_vret (by decide +kernel) ?_
    unfold cRem at kq
    rw [if_neg (by omega)] at kq
    have s := fu_self (cpT (fu g 0 17 2) 16 88) 0 16
    rw [ec] at s
    rw [← s]
    exact kq
  · refine fx_la 0 39 (v := 2) (by decide +kernel) rfl (by decide +kernel) ?_
    refine fx_dup 40 (by decide +kernel) rfl (by decide) ?_
    refine fx_gi 2 0 16 43 (by decide +kernel) ?_
    try simp only [fu_app, fcy_app, Nat.reduceEqDiff, and_true, and_false, false_and, true_and, if_true, if_false, ite_true, ite_false, reduceIte, Int.reduceToNat, fx_simp0]
    rw [ec]
    refine fx_ci (1) 44 (by decide +kernel) ?_
    refine fx_add 45 (by decide +kernel) rfl ?_
    refine fx_pi 2 0 16 48 (by decide +kernel) (by unfold fR; omega) ?_
    refine fx_vret (by decide +kernel) ?_
    unfold cRem at kq
    rw [if_pos (by omega)] at kq
    exact kq
theorem sp_cund_2 (hi : g 0 17 = 2) (c0 : 1 ≤ g 0 16) (c1 : g 0 16 ≤ 12) (kq : Q 1 (fI 1) (cUnd g 2)) : fx W r 1 62 0 [2] [] g Q := by
  have ec : cpT g 88 16 0 16 = g 0 16 := cpT_ne (by decide)
  have en : cpT g 88 16 0 17 = 2 := (cpT_ne (by decide)).trans hi
  refine fx_la 0 1 (v := 2) (by decide +kernel) rfl (by decide +kernel) ?_
  refine fx_gi 2 0 16 4 (by decide +kernel) ?_
  refine fx_zne 9 7 (by decide +kernel) (by first | exact hg 0 16 (by decide) (by decide +kernel) (by decide +kernel) | (unfold fR; omega)) (fun h4 => ?_) (fun h4 => ?_)
  · refine fx_la 0 10 (v := 2) (by decide +kernel) rfl (by decide +kernel) ?_
    refine fx_gp 2 0 3 130 13 (by decide +kernel) ?_
    refine fx_la 0 14 (v := 2) (by decide +kernel) rfl (by decide +kernel) ?_
    refine fx_gp 2 0 14 602 17 (by decide +kernel) ?_
    refine fx_la 0 18 (v := 2) (by decide +kernel) rfl (by decide +kernel) ?_
    refine fx_gi 2 0 17 21 (by decide +kernel) ?_
    rw [hi]
    refine fx_aal 602 75 2 706 22 (by decide +kernel) rfl ?_
    refine fx_c2 63 21 25 0 [] (by decide +kernel) (by decide) (by decide) (by decide) rfl (by first | decide | omega) ?_
    refine sp_cpT_pt_2 (fK0 ?_)
    refine fx_la 0 26 (v := 2) (by decide +kernel) rfl (by decide +kernel) ?_
    refine fx_la 0 27 (v := 2) (by decide +kernel) rfl (by decide +kernel) ?_
    refine fx_gi 2 0 17 30 (by decide +kernel) ?_
    try simp only [fu_app, fcy_app, Nat.reduceEqDiff, and_true, and_false, false_and, true_and, if_true, if_false, ite_true, ite_false, reduceIte, Int.reduceToNat, fx_simp0]
    rw [en]
    refine fx_ci (12) 32 (by decide +kernel) ?_
    refine fx_add 33 (by decide +kernel) rfl ?_
    refine fx_ci (1) 34 (by decide +kernel) ?_
    refine fx_sub 35 (by decide +kernel) rfl ?_
    refine fx_ci (12) 37 (by decide +kernel) ?_
    refine fx_bin 10 38 (by decide +kernel) rfl (fun _ => by decide) ?_
    refine fx_pi 2 0 17 41 (by decide +kernel) (by first | exact fop_R _ _ _ | (unfold fR; omega)) ?_
    rw [show fop 10 ((2 : Int) + 12 - 1) 12 = ((1 : Nat) : Int) from fop_rem12 13 (by decide)]
    refine fx_la 0 42 (v := 2) (by decide +kernel) rfl (by decide +kernel) ?_
    refine fx_dup 43 (by decide +kernel) rfl (by decide) ?_
    refine fx_gi 2 0 16 46 (by decide +kernel) ?_
    try simp only [fu_app, fcy_app, Nat.reduceEqDiff, and_true, and_false, false_and, true_and, if_true, if_false, ite_true, ite_false, reduceIte, Int.reduceToNat, fx_simp0]
    rw [ec]
    refine fx_ci (1) 47 (by decide +kernel) ?_
    refine fx_sub 48 (by decide +kernel) rfl ?_
    refine fx_pi 2 0 16 51 (by decide +kernel) (by unfold fR; omega) ?_
    refine fx_ci (1) 52 (by decide +kernel) ?_
    refine fx_retb (by decide +kernel) (by first | exact Or.inl rfl | exact Or.inr rfl | omega) ?_
    exact kq
  · refine fx_ci (0) 8 (by decide +kernel) ?_
    refine fx_retb (by decide +kernel) (by first | exact Or.inl rfl | exact Or.inr rfl | omega) ?_
    exfalso; omega
theorem sp_cpT_tp_3 (kq : Q 0 0 (cpT g 16 94)) : fx W r 0 63 0 [754, 130] [] g Q := by
  refine fx_rg (fun hg => ?_)
  have v5 := hg 16 5 (by decide) (by decide +kernel) (by decide +kernel)
  have v6 := hg 16 6 (by decide) (by decide +kernel) (by decide +kernel)
  have v7 := hg 16 7 (by decide) (by decide +kernel) (by decide +kernel)
  have v8 := hg 16 8 (by decide) (by decide +kernel) (by decide +kernel)
  have v9 := hg 16 9 (by decide) (by decide +kernel) (by decide +kernel)
  have v10 := hg 16 10 (by decide) (by decide +kernel) (by decide +kernel)
  unfold fR at v5 v6 v7 v8 v9 v10
  refine fx_la 1 1 (v := 130) (by decide +kernel) rfl (by decide +kernel) ?_
  refine fx_gp 130 16 0 138 4 (by decide +kernel) ?_
  refine fx_ci (0) 5 (by decide +kernel) ?_
  refine fx_la 0 6 (v := 754) (by decide +kernel) rfl (by decide +kernel) ?_
  refine fx_gp 754 94 0 762 9 (by decide +kernel) ?_
  refine fx_ci (0) 10 (by decide +kernel) ?_
  refine fx_ci (8) 12 (by decide +kernel) ?_
  refine fx_cpy 138 17 762 95 8 15 (by decide +kernel) rfl ?_
  refine fx_la 1 16 (v := 130) (by decide +kernel) rfl (by decide +kernel) ?_
  refine fx_gp 130 16 1 146 19 (by decide +kernel) ?_
  refine fx_ci (0) 20 (by decide +kernel) ?_
  refine fx_la 0 21 (v := 754) (by decide +kernel) rfl (by decide +kernel) ?_
  refine fx_gp 754 94 1 770 24 (by decide +kernel) ?_
  refine fx_ci (0) 25 (by decide +kernel) ?_
  refine fx_ci (8) 27 (by decide +kernel) ?_
  refine fx_cpy 146 18 770 96 8 30 (by decide +kernel) rfl ?_
  refine fx_la 1 31 (v := 130) (by decide +kernel) rfl (by decide +kernel) ?_
  refine fx_gp 130 16 2 154 34 (by decide +kernel) ?_
  refine fx_ci (0) 35 (by decide +kernel) ?_
  refine fx_la 0 36 (v := 754) (by decide +kernel) rfl (by decide +kernel) ?_
  refine fx_gp 754 94 2 778 39 (by decide +kernel) ?_
  refine fx_ci (0) 40 (by decide +kernel) ?_
  refine fx_ci (8) 42 (by decide +kernel) ?_
  refine fx_cpy 154 19 778 97 8 45 (by decide +kernel) rfl ?_
  refine fx_la 1 46 (v := 130) (by decide +kernel) rfl (by decide +kernel) ?_
  refine fx_gp 130 16 3 162 49 (by decide +kernel) ?_
  refine fx_ci (0) 50 (by decide +kernel) ?_
  refine fx_la 0 51 (v := 754) (by decide +kernel) rfl (by decide +kernel) ?_
  refine fx_gp 754 94 3 786 54 (by decide +kernel) ?_
  refine fx_ci (0) 55 (by decide +kernel) ?_
  refine fx_ci (8) 57 (by decide +kernel) ?_
  refine fx_cpy 162 20 786 98 8 60 (by decide +kernel) rfl ?_
  refine fx_la 1 61 (v := 130) (by decide +kernel) rfl (by decide +kernel) ?_
  refine fx_gp 130 16 4 170 64 (by decide +kernel) ?_
  refine fx_ci (0) 65 (by decide +kernel) ?_
  refine fx_la 0 66 (v := 754) (by decide +kernel) rfl (by decide +kernel) ?_
  refine fx_gp 754 94 4 794 69 (by decide +kernel) ?_
  refine fx_ci (0) 70 (by decide +kernel) ?_
  refine fx_ci (60) 72 (by decide +kernel) ?_
  refine fx_cpy 170 21 794 99 60 75 (by decide +kernel) rfl ?_
  refine fx_la 0 76 (v := 754) (by decide +kernel) rfl (by decide +kernel) ?_
  refine fx_la 1 77 (v := 130) (by decide +kernel) rfl (by decide +kernel) ?_
  refine fx_gi 130 16 5 80 (by decide +kernel) ?_
  try simp only [fu_app, fcy_app, Nat.reduceEqDiff, and_true, and_false, false_and, true_and, if_true, if_false, ite_true, ite_false, reduceIte, Int.reduceToNat, fx_simp0]
  refine fx_pi 754 94 5 83 (by decide +kernel) (by unfold fR; omega) ?_
  refine fx_la 0 84 (v := 754) (by decide +kernel) rfl (by decide +kernel) ?_
  refine fx_la 1 85 (v := 130) (by decide +kernel) rfl (by decide +kernel) ?_
  refine fx_gi 130 16 6 88 (by decide +kernel) ?_
  try simp only [fu_app, fcy_app, Nat.reduceEqDiff, and_true, and_false, false_and, true_and, if_true, if_false, ite_true, ite_false, reduceIte, Int.reduceToNat, fx_simp0]
  refine fx_pi 754 94 6 91 (by decide +kernel) (by unfold fR; omega) ?_
  refine fx_la 0 92 (v := 754) (by decide +kernel) rfl (by decide +kernel) ?_
  refine fx_la 1 93 (v := 130) (by decide +kernel) rfl (by decide +kernel) ?_
  refine fx_gi 130 16 7 96 (by decide +kernel) ?_
  try simp only [fu_app, fcy_app, Nat.reduceEqDiff, and_true, and_false, false_and, true_and, if_true, if_false, ite_true, ite_false, reduceIte, Int.reduceToNat, fx_simp0]
  refine fx_pi 754 94 7 99 (by decide +kernel) (by unfold fR; omega) ?_
  refine fx_la 0 100 (v := 754) (by decide +kernel) rfl (by decide +kernel) ?_
  refine fx_la 1 101 (v := 130) (by decide +kernel) rfl (by decide +kernel) ?_
  refine fx_gi 130 16 8 104 (by decide +kernel) ?_
  try simp only [fu_app, fcy_app, Nat.reduceEqDiff, and_true, and_false, false_and, true_and, if_true, if_false, ite_true, ite_false, reduceIte, Int.reduceToNat, fx_simp0]
  refine fx_pi 754 94 8 107 (by decide +kernel) (by unfold fR; omega) ?_
  refine fx_la 0 108 (v := 754) (by decide +kernel) rfl (by decide +kernel) ?_
  refine fx_la 1 109 (v := 130) (by decide +kernel) rfl (by decide +kernel) ?_
  refine fx_gi 130 16 9 112 (by decide +kernel) ?_
  try simp only [fu_app, fcy_app, Nat.reduceEqDiff, and_true, and_false, false_and, true_and, if_true, if_false, ite_true, ite_false, reduceIte, Int.reduceToNat, fx_simp0]
  refine fx_pi 754 94 9 115 (by decide +kernel) (by unfold fR; omega) ?_
  refine fx_la 0 116 (v := 754) (by decide +kernel) rfl (by decide +kernel) ?_
  refine fx_la 1 117 (v := 130) (by decide +kernel) rfl (by decide +kernel) ?_
  refine fx_gi 130 16 10 120 (by decide +kernel) ?_
  try simp only [fu_app, fcy_app, Nat.reduceEqDiff, and_true, and_false, false_and, true_and, if_true, if_false, ite_true, ite_false, reduceIte, Int.reduceToNat, fx_simp0]
  refine fx_pi 754 94 10 123 (by decide +kernel) (by unfold fR; omega) ?_
  refine fx_vret (by decide +kernel) ?_
  exact kq
theorem sp_cpT_pt_3 (kq : Q 0 0 (cpT g 94 16)) : fx W r 0 63 0 [130, 754] [] g Q := by
  refine fx_rg (fun hg => ?_)
  have v5 := hg 94 5 (by decide) (by decide +kernel) (by decide +kernel)
  have v6 := hg 94 6 (by decide) (by decide +kernel) (by decide +kernel)
  have v7 := hg 94 7 (by decide) (by decide +kernel) (by decide +kernel)
  have v8 := hg 94 8 (by decide) (by decide +kernel) (by decide +kernel)
  have v9 := hg 94 9 (by decide) (by decide +kernel) (by decide +kernel)
  have v10 := hg 94 10 (by decide) (by decide +kernel) (by decide +kernel)
  unfold fR at v5 v6 v7 v8 v9 v10
  refine fx_la 1 1 (v := 754) (by decide +kernel) rfl (by decide +kernel) ?_
  refine fx_gp 754 94 0 762 4 (by decide +kernel) ?_
  refine fx_ci (0) 5 (by decide +kernel) ?_
  refine fx_la 0 6 (v := 130) (by decide +kernel) rfl (by decide +kernel) ?_
  refine fx_gp 130 16 0 138 9 (by decide +kernel) ?_
  refine fx_ci (0) 10 (by decide +kernel) ?_
  refine fx_ci (8) 12 (by decide +kernel) ?_
  refine fx_cpy 762 95 138 17 8 15 (by decide +kernel) rfl ?_
  refine fx_la 1 16 (v := 754) (by decide +kernel) rfl (by decide +kernel) ?_
  refine fx_gp 754 94 1 770 19 (by decide +kernel) ?_
  refine fx_ci (0) 20 (by decide +kernel) ?_
  refine fx_la 0 21 (v := 130) (by decide +kernel) rfl (by decide +kernel) ?_
  refine fx_gp 130 16 1 146 24 (by decide +kernel) ?_
  refine fx_ci (0) 25 (by decide +kernel) ?_
  refine fx_ci (8) 27 (by decide +kernel) ?_
  refine fx_cpy 770 96 146 18 8 30 (by decide +kernel) rfl ?_
  refine fx_la 1 31 (v := 754) (by decide +kernel) rfl (by decide +kernel) ?_
  refine fx_gp 754 94 2 778 34 (by decide +kernel) ?_
  refine fx_ci (0) 35 (by decide +kernel) ?_
  refine fx_la 0 36 (v := 130) (by decide +kernel) rfl (by decide +kernel) ?_
  refine fx_gp 130 16 2 154 39 (by decide +kernel) ?_
  refine fx_ci (0) 40 (by decide +kernel) ?_
  refine fx_ci (8) 42 (by decide +kernel) ?_
  refine fx_cpy 778 97 154 19 8 45 (by decide +kernel) rfl ?_
  refine fx_la 1 46 (v := 754) (by decide +kernel) rfl (by decide +kernel) ?_
  refine fx_gp 754 94 3 786 49 (by decide +kernel) ?_
  refine fx_ci (0) 50 (by decide +kernel) ?_
  refine fx_la 0 51 (v := 130) (by decide +kernel) rfl (by decide +kernel) ?_
  refine fx_gp 130 16 3 162 54 (by decide +kernel) ?_
  refine fx_ci (0) 55 (by decide +kernel) ?_
  refine fx_ci (8) 57 (by decide +kernel) ?_
  refine fx_cpy 786 98 162 20 8 60 (by decide +kernel) rfl ?_
  refine fx_la 1 61 (v := 754) (by decide +kernel) rfl (by decide +kernel) ?_
  refine fx_gp 754 94 4 794 64 (by decide +kernel) ?_
  refine fx_ci (0) 65 (by decide +kernel) ?_
  refine fx_la 0 66 (v := 130) (by decide +kernel) rfl (by decide +kernel) ?_
  refine fx_gp 130 16 4 170 69 (by decide +kernel) ?_
  refine fx_ci (0) 70 (by decide +kernel) ?_
  refine fx_ci (60) 72 (by decide +kernel) ?_
  refine fx_cpy 794 99 170 21 60 75 (by decide +kernel) rfl ?_
  refine fx_la 0 76 (v := 130) (by decide +kernel) rfl (by decide +kernel) ?_
  refine fx_la 1 77 (v := 754) (by decide +kernel) rfl (by decide +kernel) ?_
  refine fx_gi 754 94 5 80 (by decide +kernel) ?_
  try simp only [fu_app, fcy_app, Nat.reduceEqDiff, and_true, and_false, false_and, true_and, if_true, if_false, ite_true, ite_false, reduceIte, Int.reduceToNat, fx_simp0]
  refine fx_pi 130 16 5 83 (by decide +kernel) (by unfold fR; omega) ?_
  refine fx_la 0 84 (v := 130) (by decide +kernel) rfl (by decide +kernel) ?_
  refine fx_la 1 85 (v := 754) (by decide +kernel) rfl (by decide +kernel) ?_
  refine fx_gi 754 94 6 88 (by decide +kernel) ?_
  try simp only [fu_app, fcy_app, Nat.reduceEqDiff, and_true, and_false, false_and, true_and, if_true, if_false, ite_true, ite_false, reduceIte, Int.reduceToNat, fx_simp0]
  refine fx_pi 130 16 6 91 (by decide +kernel) (by unfold fR; omega) ?_
  refine fx_la 0 92 (v := 130) (by decide +kernel) rfl (by decide +kernel) ?_
  refine fx_la 1 93 (v := 754) (by decide +kernel) rfl (by decide +kernel) ?_
  refine fx_gi 754 94 7 96 (by decide +kernel) ?_
  try simp only [fu_app, fcy_app, Nat.reduceEqDiff, and_true, and_false, false_and, true_and, if_true, if_false, ite_true, ite_false, reduceIte, Int.reduceToNat, fx_simp0]
  refine fx_pi 130 16 7 99 (by decide +kernel) (by unfold fR; omega) ?_
  refine fx_la 0 100 (v := 130) (by decide +kernel) rfl (by decide +kernel) ?_
  refine fx_la 1 101 (v := 754) (by decide +kernel) rfl (by decide +kernel) ?_
  refine fx_gi 754 94 8 104 (by decide +kernel) ?_
  try simp only [fu_app, fcy_app, Nat.reduceEqDiff, and_true, and_false, false_and, true_and, if_true, if_false, ite_true, ite_false, reduceIte, Int.reduceToNat, fx_simp0]
  refine fx_pi 130 16 8 107 (by decide +kernel) (by unfold fR; omega) ?_
  refine fx_la 0 108 (v := 130) (by decide +kernel) rfl (by decide +kernel) ?_
  refine fx_la 1 109 (v := 754) (by decide +kernel) rfl (by decide +kernel) ?_
  refine fx_gi 754 94 9 112 (by decide +kernel) ?_
  try simp only [fu_app, fcy_app, Nat.reduceEqDiff, and_true, and_false, false_and, true_and, if_true, if_false, ite_true, ite_false, reduceIte, Int.reduceToNat, fx_simp0]
  refine fx_pi 130 16 9 115 (by decide +kernel) (by unfold fR; omega) ?_
  refine fx_la 0 116 (v := 130) (by decide +kernel) rfl (by decide +kernel) ?_
  refine fx_la 1 117 (v := 754) (by decide +kernel) rfl (by decide +kernel) ?_
  refine fx_gi 754 94 10 120 (by decide +kernel) ?_
  try simp only [fu_app, fcy_app, Nat.reduceEqDiff, and_true, and_false, false_and, true_and, if_true, if_false, ite_true, ite_false, reduceIte, Int.reduceToNat, fx_simp0]
  refine fx_pi 130 16 10 123 (by decide +kernel) (by unfold fR; omega) ?_
  refine fx_vret (by decide +kernel) ?_
  exact kq
theorem sp_crem_3 (hi : fop 10 (g 0 17 + 1) 12 = 3) (c0 : 0 ≤ g 0 16) (c1 : g 0 16 ≤ 12) (kq : Q 0 0 (cRem g 3)) : fx W r 1 152 0 [2] [] g Q := by
  have ec : cpT (fu g 0 17 3) 16 94 0 16 = g 0 16 := by rw [cpT_ne (by decide), fu_nj (by decide)]
  refine fx_la 0 1 (v := 2) (by decide +kernel) rfl (by decide +kernel) ?_
  refine fx_la 0 2 (v := 2) (by decide +kernel) rfl (by decide +kernel) ?_
  refine fx_gi 2 0 17 5 (by decide +kernel) ?_
  refine fx_ci (1) 6 (by decide +kernel) ?_
  refine fx_add 7 (by decide +kernel) rfl ?_
  refine fx_ci (12) 9 (by decide +kernel) ?_
  refine fx_bin 10 10 (by decide +kernel) rfl (fun _ => by decide) ?_
  refine fx_pi 2 0 17 13 (by decide +kernel) (by first | exact fop_R _ _ _ | (unfold fR; omega)) ?_
  rw [hi]
  refine fx_la 0 14 (v := 2) (by decide +kernel) rfl (by decide +kernel) ?_
  refine fx_gp 2 0 14 602 17 (by decide +kernel) ?_
  refine fx_la 0 18 (v := 2) (by decide +kernel) rfl (by decide +kernel) ?_
  refine fx_gi 2 0 17 21 (by decide +kernel) ?_
  try simp only [fu_app, fcy_app, Nat.reduceEqDiff, and_true, and_false, false_and, true_and, if_true, if_false, ite_true, ite_false, reduceIte, Int.reduceToNat, fx_simp0]
  refine fx_aal 602 75 3 754 22 (by decide +kernel) rfl ?_
  refine fx_la 0 23 (v := 2) (by decide +kernel) rfl (by decide +kernel) ?_
  refine fx_gp 2 0 3 130 26 (by decide +kernel) ?_
  refine fx_c2 63 21 29 0 [] (by decide +kernel) (by decide) (by decide) (by decide) rfl (by first | decide | omega) ?_
  refine sp_cpT_tp_3 (fK0 ?_)
  refine fx_la 0 30 (v := 2) (by decide +kernel) rfl (by decide +kernel) ?_
  refine fx_gi 2 0 16 33 (by decide +kernel) ?_
  try simp only [fu_app, fcy_app, Nat.reduceEqDiff, and_true, and_false, false_and, true_and, if_true, if_false, ite_true, ite_false, reduceIte, Int.reduceToNat, fx_simp0]
  rw [ec]
  refine fx_ci (12) 35 (by decide +kernel) ?_
  refine fx_ige 48 38 (by decide +kernel) (by unfold fR; omega) (by unfold fR; omega) (fun h35 => ?_) (fun h35 => ?_)
  · refine fx_vret (by decide +kernel) ?_
    unfold cRem at kq
    rw [if_neg (by omega)] at kq
    have s := fu_self (cpT (fu g 0 17 3) 16 94) 0 16
    rw [ec] at s
    rw [← s]
    exact kq
  · refine fx_la 0 39 (v := 2) (by decide +kernel) rfl (by decide +kernel) ?_
    refine fx_dup 40 (by decide +kernel) rfl (by decide) ?_
    refine fx_gi 2 0 16 43 (by decide +kernel) ?_
    try simp only [fu_app, fcy_app, Nat.reduceEqDiff, and_true, and_false, false_and, true_and, if_true, if_false, ite_true, ite_false, reduceIte, Int.reduceToNat, fx_simp0]
    rw [ec]
    refine fx_ci (1) 44 (by decide +kernel) ?_
    refine fx_add 45 (by decide +kernel) rfl ?_
    refine fx_pi 2 0 16 48 (by decide +kernel) (by unfold fR; omega) ?_
    refine fx_vret (by decide +kernel) ?_
    unfold cRem at kq
    rw [if_pos (by omega)] at kq
    exact kq
theorem sp_cund_3 (hi : g 0 17 = 3) (c0 : 1 ≤ g 0 16) (c1 : g 0 16 ≤ 12) (kq : Q 1 (fI 1) (cUnd g 3)) : fx W r 1 62 0 [2] [] g Q := by
  have ec : cpT g 94 16 0 16 = g 0 16 := cpT_ne (by decide)
  have en : cpT g 94 16 0 17 = 3 := (cpT_ne (by decide)).trans hi
  refine fx_la 0 1 (v := 2) (by decide +kernel) rfl (by decide +kernel) ?_
  refine fx_gi 2 0 16 4 (by decide +kernel) ?_
  refine fx_zne 9 7 (by decide +kernel) (by first | exact hg 0 16 (by decide) (by decide +kernel) (by decide +kernel) | (unfold fR; omega)) (fun h4 => ?_) (fun h4 => ?_)
  · refine fx_la 0 10 (v := 2) (by decide +kernel) rfl (by decide +kernel) ?_
    refine fx_gp 2 0 3 130 13 (by decide +kernel) ?_
    refine fx_la 0 14 (v := 2) (by decide +kernel) rfl (by decide +kernel) ?_
    refine fx_gp 2 0 14 602 17 (by decide +kernel) ?_
    refine fx_la 0 18 (v := 2) (by decide +kernel) rfl (by decide +kernel) ?_
    refine fx_gi 2 0 17 21 (by decide +kernel) ?_
    rw [hi]
    refine fx_aal 602 75 3 754 22 (by decide +kernel) rfl ?_
    refine fx_c2 63 21 25 0 [] (by decide +kernel) (by decide) (by decide) (by decide) rfl (by first | decide | omega) ?_
    refine sp_cpT_pt_3 (fK0 ?_)
    refine fx_la 0 26 (v := 2) (by decide +kernel) rfl (by decide +kernel) ?_
    refine fx_la 0 27 (v := 2) (by decide +kernel) rfl (by decide +kernel) ?_
    refine fx_gi 2 0 17 30 (by decide +kernel) ?_
    try simp only [fu_app, fcy_app, Nat.reduceEqDiff, and_true, and_false, false_and, true_and, if_true, if_false, ite_true, ite_false, reduceIte, Int.reduceToNat, fx_simp0]
    rw [en]
    refine fx_ci (12) 32 (by decide +kernel) ?_
    refine fx_add 33 (by decide +kernel) rfl ?_
    refine fx_ci (1) 34 (by decide +kernel) ?_
    refine fx_sub 35 (by decide +kernel) rfl ?_
    refine fx_ci (12) 37 (by decide +kernel) ?_
    refine fx_bin 10 38 (by decide +kernel) rfl (fun _ => by decide) ?_
    refine fx_pi 2 0 17 41 (by decide +kernel) (by first | exact fop_R _ _ _ | (unfold fR; omega)) ?_
    rw [show fop 10 ((3 : Int) + 12 - 1) 12 = ((2 : Nat) : Int) from fop_rem12 14 (by decide)]
    refine fx_la 0 42 (v := 2) (by decide +kernel) rfl (by decide +kernel) ?_
    refine fx_dup 43 (by decide +kernel) rfl (by decide) ?_
    refine fx_gi 2 0 16 46 (by decide +kernel) ?_
    try simp only [fu_app, fcy_app, Nat.reduceEqDiff, and_true, and_false, false_and, true_and, if_true, if_false, ite_true, ite_false, reduceIte, Int.reduceToNat, fx_simp0]
    rw [ec]
    refine fx_ci (1) 47 (by decide +kernel) ?_
    refine fx_sub 48 (by decide +kernel) rfl ?_
    refine fx_pi 2 0 16 51 (by decide +kernel) (by unfold fR; omega) ?_
    refine fx_ci (1) 52 (by decide +kernel) ?_
    refine fx_retb (by decide +kernel) (by first | exact Or.inl rfl | exact Or.inr rfl | omega) ?_
    exact kq
  · refine fx_ci (0) 8 (by decide +kernel) ?_
    refine fx_retb (by decide +kernel) (by first | exact Or.inl rfl | exact Or.inr rfl | omega) ?_
    exfalso; omega
theorem sp_cpT_tp_4 (kq : Q 0 0 (cpT g 16 100)) : fx W r 0 63 0 [802, 130] [] g Q := by
  refine fx_rg (fun hg => ?_)
  have v5 := hg 16 5 (by decide) (by decide +kernel) (by decide +kernel)
  have v6 := hg 16 6 (by decide) (by decide +kernel) (by decide +kernel)
  have v7 := hg 16 7 (by decide) (by decide +kernel) (by decide +kernel)
  have v8 := hg 16 8 (by decide) (by decide +kernel) (by decide +kernel)
  have v9 := hg 16 9 (by decide) (by decide +kernel) (by decide +kernel)
  have v10 := hg 16 10 (by decide) (by decide +kernel) (by decide +kernel)
  unfold fR at v5 v6 v7 v8 v9 v10
  refine fx_la 1 1 (v := 130) (by decide +kernel) rfl (by decide +kernel) ?_
  refine fx_gp 130 16 0 138 4 (by decide +kernel) ?_
  refine fx_ci (0) 5 (by decide +kernel) ?_
  refine fx_la 0 6 (v := 802) (by decide +kernel) rfl (by decide +kernel) ?_
  refine fx_gp 802 100 0 810 9 (by decide +kernel) ?_
  refine fx_ci (0) 10 (by decide +kernel) ?_
  refine fx_ci (8) 12 (by decide +kernel) ?_
  refine fx_cpy 138 17 810 101 8 15 (by decide +kernel) rfl ?_
  refine fx_la 1 16 (v := 130) (by decide +kernel) rfl (by decide +kernel) ?_
  refine fx_gp 130 16 1 146 19 (by decide +kernel) ?_
  refine fx_ci (0) 20 (by decide +kernel) ?_
  refine fx_la 0 21 (v := 802) (by decide +kernel) rfl (by decide +kernel) ?_
  refine fx_gp 802 100 1 818 24 (by decide +kernel) ?_
  refine fx_ci (0) 25 (by decide +kernel) ?_
  refine fx_ci (8) 27 (by decide +kernel) ?_
  refine fx_cpy 146 18 818 102 8 30 (by decide +kernel) rfl ?_
  refine fx_la 1 31 (v := 130) (by decide +kernel) rfl (by decide +kernel) ?_
  refine fx_gp 130 16 2 154 34 (by decide +kernel) ?_
  refine fx_ci (0) 35 (by decide +kernel) ?_
  refine fx_la 0 36 (v := 802) (by decide +kernel) rfl (by decide +kernel) ?_
  refine fx_gp 802 100 2 826 39 (by decide +kernel) ?_
  refine fx_ci (0) 40 (by decide +kernel) ?_
  refine fx_ci (8) 42 (by decide +kernel) ?_
  refine fx_cpy 154 19 826 103 8 45 (by decide +kernel) rfl ?_
  refine fx_la 1 46 (v := 130) (by decide +kernel) rfl (by decide +kernel) ?_
  refine fx_gp 130 16 3 162 49 (by decide +kernel) ?_
  refine fx_ci (0) 50 (by decide +kernel) ?_
  refine fx_la 0 51 (v := 802) (by decide +kernel) rfl (by decide +kernel) ?_
  refine fx_gp 802 100 3 834 54 (by decide +kernel) ?_
  refine fx_ci (0) 55 (by decide +kernel) ?_
  refine fx_ci (8) 57 (by decide +kernel) ?_
  refine fx_cpy 162 20 834 104 8 60 (by decide +kernel) rfl ?_
  refine fx_la 1 61 (v := 130) (by decide +kernel) rfl (by decide +kernel) ?_
  refine fx_gp 130 16 4 170 64 (by decide +kernel) ?_
  refine fx_ci (0) 65 (by decide +kernel) ?_
  refine fx_la 0 66 (v := 802) (by decide +kernel) rfl (by decide +kernel) ?_
  refine fx_gp 802 100 4 842 69 (by decide +kernel) ?_
  refine fx_ci (0) 70 (by decide +kernel) ?_
  refine fx_ci (60) 72 (by decide +kernel) ?_
  refine fx_cpy 170 21 842 105 60 75 (by decide +kernel) rfl ?_
  refine fx_la 0 76 (v := 802) (by decide +kernel) rfl (by decide +kernel) ?_
  refine fx_la 1 77 (v := 130) (by decide +kernel) rfl (by decide +kernel) ?_
  refine fx_gi 130 16 5 80 (by decide +kernel) ?_
  try simp only [fu_app, fcy_app, Nat.reduceEqDiff, and_true, and_false, false_and, true_and, if_true, if_false, ite_true, ite_false, reduceIte, Int.reduceToNat, fx_simp0]
  refine fx_pi 802 100 5 83 (by decide +kernel) (by unfold fR; omega) ?_
  refine fx_la 0 84 (v := 802) (by decide +kernel) rfl (by decide +kernel) ?_
  refine fx_la 1 85 (v := 130) (by decide +kernel) rfl (by decide +kernel) ?_
  refine fx_gi 130 16 6 88 (by decide +kernel) ?_
  try simp only [fu_app, fcy_app, Nat.reduceEqDiff, and_true, and_false, false_and, true_and, if_true, if_false, ite_true, ite_false, reduceIte, Int.reduceToNat, fx_simp0]
  refine fx_pi 802 100 6 91 (by decide +kernel) (by unfold fR; omega) ?_
  refine fx_la 0 92 (v := 802) (by decide +kernel) rfl (by decide +kernel) ?_
  refine fx_la 1 93 (v := 130) (by decide +kernel) rfl (by decide +kernel) ?_
  refine fx_gi 130 16 7 96 (by decide +kernel) ?_
  try simp only [fu_app, fcy_app, Nat.reduceEqDiff, and_true, and_false, false_and, true_and, if_true, if_false, ite_true, ite_false, reduceIte, Int.reduceToNat, fx_simp0]
  refine fx_pi 802 100 7 99 (by decide +kernel) (by unfold fR; omega) ?_
  refine fx_la 0 100 (v := 802) (by decide +kernel) rfl (by decide +kernel) ?_
  refine fx_la 1 101 (v := 130) (by decide +kernel) rfl (by decide +kernel) ?_
  refine fx_gi 130 16 8 104 (by decide +kernel) ?_
  try simp only [fu_app, fcy_app, Nat.reduceEqDiff, and_true, and_false, false_and, true_and, if_true, if_false, ite_true, ite_false, reduceIte, Int.reduceToNat, fx_simp0]
  refine fx_pi 802 100 8 107 (by decide +kernel) (by unfold fR; omega) ?_
  refine fx_la 0 108 (v := 802) (by decide +kernel) rfl (by decide +kernel) ?_
  refine fx_la 1 109 (v := 130) (by decide +kernel) rfl (by decide +kernel) ?_
  refine fx_gi 130 16 9 112 (by decide +kernel) ?_
  try simp only [fu_app, fcy_app, Nat.reduceEqDiff, and_true, and_false, false_and, true_and, if_true, if_false, ite_true, ite_false, reduceIte, Int.reduceToNat, fx_simp0]
  refine fx_pi 802 100 9 115 (by decide +kernel) (by unfold fR; omega) ?_
  refine fx_la 0 116 (v := 802) (by decide +kernel) rfl (by decide +kernel) ?_
  refine fx_la 1 117 (v := 130) (by decide +kernel) rfl (by decide +kernel) ?_
  refine fx_gi 130 16 10 120 (by decide +kernel) ?_
  try simp only [fu_app, fcy_app, Nat.reduceEqDiff, and_true, and_false, false_and, true_and, if_true, if_false, ite_true, ite_false, reduceIte, Int.reduceToNat, fx_simp0]
  refine fx_pi 802 100 10 123 (by decide +kernel) (by unfold fR; omega) ?_
  refine fx_vret (by decide +kernel) ?_
  exact kq
theorem sp_cpT_pt_4 (kq : Q 0 0 (cpT g 100 16)) : fx W r 0 63 0 [130, 802] [] g Q := by
  refine fx_rg (fun hg => ?_)
  have v5 := hg 100 5 (by decide) (by decide +kernel) (by decide +kernel)
  have v6 := hg 100 6 (by decide) (by decide +kernel) (by decide +kernel)
  have v7 := hg 100 7 (by decide) (by decide +kernel) (by decide +kernel)
  have v8 := hg 100 8 (by decide) (by decide +kernel) (by decide +kernel)
  have v9 := hg 100 9 (by decide) (by decide +kernel) (by decide +kernel)
  have v10 := hg 100 10 (by decide) (by decide +kernel) (by decide +kernel)
  unfold fR at v5 v6 v7 v8 v9 v10
  refine fx_la 1 1 (v := 802) (by decide +kernel) rfl (by decide +kernel) ?_
  refine fx_gp 802 100 0 810 4 (by decide +kernel) ?_
  refine fx_ci (0) 5 (by decide +kernel) ?_
  refine fx_la 0 6 (v := 130) (by decide +kernel) rfl (by decide +kernel) ?_
  refine fx_gp 130 16 0 138 9 (by decide +kernel) ?_
  refine fx_ci (0) 10 (by decide +kernel) ?_
  refine fx_ci (8) 12 (by decide +kernel) ?_
  refine fx_cpy 810 101 138 17 8 15 (by decide +kernel) rfl ?_
  refine fx_la 1 16 (v := 802) (by decide +kernel) rfl (by decide +kernel) ?_
  refine fx_gp 802 100 1 818 19 (by decide +kernel) ?_
  refine fx_ci (0) 20 (by decide +kernel) ?_
  refine fx_la 0 21 (v := 130) (by decide +kernel) rfl (by decide +kernel) ?_
  refine fx_gp 130 16 1 146 24 (by decide +kernel) ?_
  refine fx_ci (0) 25 (by decide +kernel) ?_
  refine fx_ci (8) 27 (by decide +kernel) ?_
  refine fx_cpy 818 102 146 18 8 30 (by decide +kernel) rfl ?_
  refine fx_la 1 31 (v := 802) (by decide +kernel) rfl (by decide +kernel) ?_
  refine fx_gp 802 100 2 826 34 (by decide +kernel) ?_
  refine fx_ci (0) 35 (by decide +kernel) ?_
  refine fx_la 0 36 (v := 130) (by decide +kernel) rfl (by decide +kernel) ?_
  refine fx_gp 130 16 2 154 39 (by decide +kernel) ?_
  refine fx_ci (0) 40 (by decide +kernel) ?_
  refine fx_ci (8) 42 (by decide +kernel) ?_
  refine fx_cpy 826 103 154 19 8 45 (by decide +kernel) rfl ?_
  refine fx_la 1 46 (v := 802) (by decide +kernel) rfl (by decide +kernel) ?_
  refine fx_gp 802 100 3 834 49 (by decide +kernel) ?_
  refine fx_ci (0) 50 (by decide +kernel) ?_
  refine fx_la 0 51 (v := 130) (by decide +kernel) rfl (by decide +kernel) ?_
  refine fx_gp 130 16 3 162 54 (by decide +kernel) ?_
  refine fx_ci (0) 55 (by decide +kernel) ?_
  refine fx_ci (8) 57 (by decide +kernel) ?_
  refine fx_cpy 834 104 162 20 8 60 (by decide +kernel) rfl ?_
  refine fx_la 1 61 (v := 802) (by decide +kernel) rfl (by decide +kernel) ?_
  refine fx_gp 802 100 4 842 64 (by decide +kernel) ?_
  refine fx_ci (0) 65 (by decide +kernel) ?_
  refine fx_la 0 66 (v := 130) (by decide +kernel) rfl (by decide +kernel) ?_
  refine fx_gp 130 16 4 170 69 (by decide +kernel) ?_
  refine fx_ci (0) 70 (by decide +kernel) ?_
  refine fx_ci (60) 72 (by decide +kernel) ?_
  refine fx_cpy 842 105 170 21 60 75 (by decide +kernel) rfl ?_
  refine fx_la 0 76 (v := 130) (by decide +kernel) rfl (by decide +kernel) ?_
  refine fx_la 1 77 (v := 802) (by decide +kernel) rfl (by decide +kernel) ?_
  refine fx_gi 802 100 5 80 (by decide +kernel) ?_
  try simp only [fu_app, fcy_app, Nat.reduceEqDiff, and_true, and_false, false_and, true_and, if_true, if_false, ite_true, ite_false, reduceIte, Int.reduceToNat, fx_simp0]
  refine fx_pi 130 16 5 83 (by decide +kernel) (by unfold fR; omega) ?_
  refine fx_la 0 84 (v := 130) (by decide +kernel) rfl (by decide +kernel) ?_
  refine fx_la 1 85 (v := 802) (by decide +kernel) rfl (by decide +kernel) ?_
  refine fx_gi 802 100 6 88 (by decide +kernel) ?_
  try simp only [fu_app, fcy_app, Nat.reduceEqDiff, and_true, and_false, false_and, true_and, if_true, if_false, ite_true, ite_false, reduceIte, Int.reduceToNat, fx_simp0]
  refine fx_pi 130 16 6 91 (by decide +kernel) (by unfold fR; omega) ?_
  refine fx_la 0 92 (v := 130) (by decide +kernel) rfl (by decide +kernel) ?_
  refine fx_la 1 93 (v := 802) (by decide +kernel) rfl (by decide +kernel) ?_
  refine fx_gi 802 100 7 96 (by decide +kernel) ?_
  try simp only [fu_app, fcy_app, Nat.reduceEqDiff, and_true, and_false, false_and, true_and, if_true, if_false, ite_true, ite_false, reduceIte, Int.reduceToNat, fx_simp0]
  refine fx_pi 130 16 7 99 (by decide +kernel) (by unfold fR; omega) ?_
  refine fx_la 0 100 (v := 130) (by decide +kernel) rfl (by decide +kernel) ?_
  refine fx_la 1 101 (v := 802) (by decide +kernel) rfl (by decide +kernel) ?_
  refine fx_gi 802 100 8 104 (by decide +kernel) ?_
  try simp only [fu_app, fcy_app, Nat.reduceEqDiff, and_true, and_false, false_and, true_and, if_true, if_false, ite_true, ite_false, reduceIte, Int.reduceToNat, fx_simp0]
  refine fx_pi 130 16 8 107 (by decide +kernel) (by unfold fR; omega) ?_
  refine fx_la 0 108 (v := 130) (by decide +kernel) rfl (by decide +kernel) ?_
  refine fx_la 1 109 (v := 802) (by decide +kernel) rfl (by decide +kernel) ?_
  refine fx_gi 802 100 9 112 (by decide +kernel) ?_
  try simp only [fu_app, fcy_app, Nat.reduceEqDiff, and_true, and_false, false_and, true_and, if_true, if_false, ite_true, ite_false, reduceIte, Int.reduceToNat, fx_simp0]
  refine fx_pi 130 16 9 115 (by decide +kernel) (by unfold fR; omega) ?_
  refine fx_la 0 116 (v := 130) (by decide +kernel) rfl (by decide +kernel) ?_
  refine fx_la 1 117 (v := 802) (by decide +kernel) rfl (by decide +kernel) ?_
  refine fx_gi 802 100 10 120 (by decide +kernel) ?_
  try simp only [fu_app, fcy_app, Nat.reduceEqDiff, and_true, and_false, false_and, true_and, if_true, if_false, ite_true, ite_false, reduceIte, Int.reduceToNat, fx_simp0]
  refine fx_pi 130 16 10 123 (by decide +kernel) (by unfold fR; omega) ?_
  refine fx_vret (by decide +kernel) ?_
  exact kq
theorem sp_crem_4 (hi : fop 10 (g 0 17 + 1) 12 = 4) (c0 : 0 ≤ g 0 16) (c1 : g 0 16 ≤ 12) (kq : Q 0 0 (cRem g 4)) : fx W r 1 152 0 [2] [] g Q := by
  have ec : cpT (fu g 0 17 4) 16 100 0 16 = g 0 16 := by rw [cpT_ne (by decide), fu_nj (by decide)]
  refine fx_la 0 1 (v := 2) (by decide +kernel) rfl (by decide +kernel) ?_
  refine fx_la 0 2 (v := 2) (by decide +kernel) rfl (by decide +kernel) ?_
  refine fx_gi 2 0 17 5 (by decide +kernel) ?_
  refine fx_ci (1) 6 (by decide +kernel) ?_
  refine fx_add 7 (by decide +kernel) rfl ?_
  refine fx_ci (12) 9 (by decide +kernel) ?_
  refine fx_bin 10 10 (by decide +kernel) rfl (fun _ => by decide) ?_
  refine fx_pi 2 0 17 13 (by decide +kernel) (by first | exact fop_R _ _ _ | (unfold fR; omega)) ?_
  rw [hi]
  refine fx_la 0 14 (v := 2) (by decide +kernel) rfl (by decide +kernel) ?_
  refine fx_gp 2 0 14 602 17 (by decide +kernel) ?_
  refine fx_la 0 18 (v := 2) (by decide +kernel) rfl (by decide +kernel) ?_
  refine fx_gi 2 0 17 21 (by decide +kernel) ?_
  try simp only [fu_app, fcy_app, Nat.reduceEqDiff, and_true, and_false, false_and, true_and, if_true, if_false, ite_true, ite_false, reduceIte, Int.reduceToNat, fx_simp0]
  refine fx_aal 602 75 4 802 22 (by decide +kernel) rfl ?_
  refine fx_la 0 23 (v := 2) (by decide +kernel) rfl (by decide +kernel) ?_
  refine fx_gp 2 0 3 130 26 (by decide +kernel) ?_
  refine fx_c2 63 21 29 0 [] (by decide +kernel) (by decide) (by decide) (by decide) rfl (by first | decide | omega) ?_
  refine sp_cpT_tp_4 (fK0 ?_)
  refine fx_la 0 30 (v := 2) (by decide +kernel) rfl (by decide +kernel) ?_
  refine fx_gi 2 0 16 33 (by decide +kernel) ?_
  try simp only [fu_app, fcy_app, Nat.reduceEqDiff, and_true, and_false, false_and, true_and, if_true, if_false, ite_true, ite_false, reduceIte, Int.reduceToNat, fx_simp0]
  rw [ec]
  refine fx_ci (12) 35 (by decide +kernel) ?_
  refine fx_ige 48 38 (by decide +kernel) (by unfold fR; omega) (by unfold fR; omega) (fun h35 => ?_) (fun h35 => ?_)
  · refine fx_vret (by decide +kernel) ?_
    unfold cRem at kq
    rw [if_neg (by omega)] at kq
    have s := fu_self (cpT (fu g 0 17 4) 16 100) 0 16
    rw [ec] at s
    rw [← s]
    exact kq
  · refine fx_la 0 39 (v := 2) (by decide +kernel) rfl (by decide +kernel) ?_
    refine fx_dup 40 (by decide +kernel) rfl (by decide) ?_
    refine fx_gi 2 0 16 43 (by decide +kernel) ?_
    try simp only [fu_app, fcy_app, Nat.reduceEqDiff, and_true, and_false, false_and, true_and, if_true, if_false, ite_true, ite_false, reduceIte, Int.reduceToNat, fx_simp0]
    rw [ec]
    refine fx_ci (1) 44 (by decide +kernel) ?_
    refine fx_add 45 (by decide +kernel) rfl ?_
    refine fx_pi 2 0 16 48 (by decide +kernel) (by unfold fR; omega) ?_
    refine fx_vret (by decide +kernel) ?_
    unfold cRem at kq
    rw [if_pos (by omega)] at kq
    exact kq
theorem sp_cund_4 (hi : g 0 17 = 4) (c0 : 1 ≤ g 0 16) (c1 : g 0 16 ≤ 12) (kq : Q 1 (fI 1) (cUnd g 4)) : fx W r 1 62 0 [2] [] g Q := by
  have ec : cpT g 100 16 0 16 = g 0 16 := cpT_ne (by decide)
  have en : cpT g 100 16 0 17 = 4 := (cpT_ne (by decide)).trans hi
  refine fx_la 0 1 (v := 2) (by decide +kernel) rfl (by decide +kernel) ?_
  refine fx_gi 2 0 16 4 (by decide +kernel) ?_
  refine fx_zne 9 7 (by decide +kernel) (by first | exact hg 0 16 (by decide) (by decide +kernel) (by decide +kernel) | (unfold fR; omega)) (fun h4 => ?_) (fun h4 => ?_)
  · refine fx_la 0 10 (v := 2) (by decide +kernel) rfl (by decide +kernel) ?_
    refine fx_gp 2 0 3 130 13 (by decide +kernel) ?_
    refine fx_la 0 14 (v := 2) (by decide +kernel) rfl (by decide +kernel) ?_
    refine fx_gp 2 0 14 602 17 (by decide +kernel) ?_
    refine fx_la 0 18 (v := 2) (by decide +kernel) rfl (by decide +kernel) ?_
    refine fx_gi 2 0 17 21 (by decide +kernel) ?_
    rw [hi]
    refine fx_aal 602 75 4 802 22 (by decide +kernel) rfl ?_
    refine fx_c2 63 21 25 0 [] (by decide +kernel) (by decide) (by decide) (by decide) rfl (by first | decide | omega) ?_
    refine sp_cpT_pt_4 (fK0 ?_)
    refine fx_la 0 26 (v := 2) (by decide +kernel) rfl (by decide +kernel) ?_
    refine fx_la 0 27 (v := 2) (by decide +kernel) rfl (by decide +kernel) ?_
    refine fx_gi 2 0 17 30 (by decide +kernel) ?_
    try simp only [fu_app, fcy_app, Nat.reduceEqDiff, and_true, and_false, false_and, true_and, if_true, if_false, ite_true, ite_false, reduceIte, Int.reduceToNat, fx_simp0]
    rw [en]
    refine fx_ci (12) 32 (by decide +kernel) ?_
    refine fx_add 33 (by decide +kernel) rfl ?_
    refine fx_ci (1) 34 (by decide +kernel) ?_
    refine fx_sub 35 (by decide +kernel) rfl ?_
    refine fx_ci (12) 37 (by decide +kernel) ?_
    refine fx_bin 10 38 (by decide +kernel) rfl (fun _ => by decide) ?_
    refine fx_pi 2 0 17 41 (by decide +kernel) (by first | exact fop_R _ _ _ | (unfold fR; omega)) ?_
    rw [show fop 10 ((4 : Int) + 12 - 1) 12 = ((3 : Nat) : Int) from fop_rem12 15 (by decide)]
    refine fx_la 0 42 (v := 2) (by decide +kernel) rfl (by decide +kernel) ?_
    refine fx_dup 43 (by decide +kernel) rfl (by decide) ?_
    refine fx_gi 2 0 16 46 (by decide +kernel) ?_
    try simp only [fu_app, fcy_app, Nat.reduceEqDiff, and_true, and_false, false_and, true_and, if_true, if_false, ite_true, ite_false, reduceIte, Int.reduceToNat, fx_simp0]
    rw [ec]
    refine fx_ci (1) 47 (by decide +kernel) ?_
    refine fx_sub 48 (by decide +kernel) rfl ?_
    refine fx_pi 2 0 16 51 (by decide +kernel) (by unfold fR; omega) ?_
    refine fx_ci (1) 52 (by decide +kernel) ?_
    refine fx_retb (by decide +kernel) (by first | exact Or.inl rfl | exact Or.inr rfl | omega) ?_
    exact kq
  · refine fx_ci (0) 8 (by decide +kernel) ?_
    refine fx_retb (by decide +kernel) (by first | exact Or.inl rfl | exact Or.inr rfl | omega) ?_
    exfalso; omega
theorem sp_cpT_tp_5 (kq : Q 0 0 (cpT g 16 106)) : fx W r 0 63 0 [850, 130] [] g Q := by
  refine fx_rg (fun hg => ?_)
  have v5 := hg 16 5 (by decide) (by decide +kernel) (by decide +kernel)
  have v6 := hg 16 6 (by decide) (by decide +kernel) (by decide +kernel)
  have v7 := hg 16 7 (by decide) (by decide +kernel) (by decide +kernel)
  have v8 := hg 16 8 (by decide) (by decide +kernel) (by decide +kernel)
  have v9 := hg 16 9 (by decide) (by decide +kernel) (by decide +kernel)
  have v10 := hg 16 10 (by decide) (by decide +kernel) (by decide +kernel)
  unfold fR at v5 v6 v7 v8 v9 v10
  refine fx_la 1 1 (v := 130) (by decide +kernel) rfl (by decide +kernel) ?_
  refine fx_gp 130 16 0 138 4 (by decide +kernel) ?_
  refine fx_ci (0) 5 (by decide +kernel) ?_
  refine fx_la 0 6 (v := 850) (by decide +kernel) rfl (by decide +kernel) ?_
  refine fx_gp 850 106 0 858 9 (by decide +kernel) ?_
  refine fx_ci (0) 10 (by decide +kernel) ?_
  refine fx_ci (8) 12 (by decide +kernel) ?_
  refine fx_cpy 138 17 858 107 8 15 (by decide +kernel) rfl ?_
  refine fx_la 1 16 (v := 130) (by decide +kernel) rfl (by decide +kernel) ?_
  refine fx_gp 130 16 1 146 19 (by decide +kernel) ?_
  refine fx_ci (0) 20 (by decide +kernel) ?_
  refine fx_la 0 21 (v := 850) (by decide +kernel) rfl (by decide +kernel) ?_
  refine fx_gp 850 106 1 866 24 (by decide +kernel) ?_
  refine fx_ci (0) 25 (by decide +kernel) ?_
  refine fx_ci (8) 27 (by decide +kernel) ?_
  refine fx_cpy 146 18 866 108 8 30 (by decide +kernel) rfl ?_
  refine fx_la 1 31 (v := 130) (by decide +kernel) rfl (by decide +kernel) ?_
  refine fx_gp 130 16 2 154 34 (by decide +kernel) ?_
  refine fx_ci (0) 35 (by decide +kernel) ?_
  refine fx_la 0 36 (v := 850) (by decide +kernel) rfl (by decide +kernel) ?_
  refine fx_gp 850 106 2 874 39 (by decide +kernel) ?_
  refine fx_ci (0) 40 (by decide +kernel) ?_
  refine fx_ci (8) 42 (by decide +kernel) ?_
  refine fx_cpy 154 19 874 109 8 45 (by decide +kernel) rfl ?_
  refine fx_la 1 46 (v := 130) (by decide +kernel) rfl (by decide +kernel) ?_
  refine fx_gp 130 16 3 162 49 (by decide +kernel) ?_
  refine fx_ci (0) 50 (by decide +kernel) ?_
  refine fx_la 0 51 (v := 850) (by decide +kernel) rfl (by decide +kernel) ?_
  refine fx_gp 850 106 3 882 54 (by decide +kernel) ?_
  refine fx_ci (0) 55 (by decide +kernel) ?_
  refine fx_ci (8) 57 (by decide +kernel) ?_
  refine fx_cpy 162 20 882 110 8 60 (by decide +kernel) rfl ?_
  refine fx_la 1 61 (v := 130) (by decide +kernel) rfl (by decide +kernel) ?_
  refine fx_gp 130 16 4 170 64 (by decide +kernel) ?_
  refine fx_ci (0) 65 (by decide +kernel) ?_
  refine fx_la 0 66 (v := 850) (by decide +kernel) rfl (by decide +kernel) ?_
  refine fx_gp 850 106 4 890 69 (by decide +kernel) ?_
  refine fx_ci (0) 70 (by decide +kernel) ?_
  refine fx_ci (60) 72 (by decide +kernel) ?_
  refine fx_cpy 170 21 890 111 60 75 (by decide +kernel) rfl ?_
  refine fx_la 0 76 (v := 850) (by decide +kernel) rfl (by decide +kernel) ?_
  refine fx_la 1 77 (v := 130) (by decide +kernel) rfl (by decide +kernel) ?_
  refine fx_gi 130 16 5 80 (by decide +kernel) ?_
  try simp only [fu_app, fcy_app, Nat.reduceEqDiff, and_true, and_false, false_and, true_and, if_true, if_false, ite_true, ite_false, reduceIte, Int.reduceToNat, fx_simp0]
  refine fx_pi 850 106 5 83 (by decide +kernel) (by unfold fR; omega) ?_
  refine fx_la 0 84 (v := 850) (by decide +kernel) rfl (by decide +kernel) ?_
  refine fx_la 1 85 (v := 130) (by decide +kernel) rfl (by decide +kernel) ?_
  refine fx_gi 130 16 6 88 (by decide +kernel) ?_
  try simp only [fu_app, fcy_app, Nat.reduceEqDiff, and_true, and_false, false_and, true_and, if_true, if_false, ite_true, ite_false, reduceIte, Int.reduceToNat, fx_simp0]
  refine fx_pi 850 106 6 91 (by decide +kernel) (by unfold fR; omega) ?_
  refine fx_la 0 92 (v := 850) (by decide +kernel) rfl (by decide +kernel) ?_
  refine fx_la 1 93 (v := 130) (by decide +kernel) rfl (by decide +kernel) ?_
  refine fx_gi 130 16 7 96 (by decide +kernel) ?_
  try simp only [fu_app, fcy_app, Nat.reduceEqDiff, and_true, and_false, false_and, true_and, if_true, if_false, ite_true, ite_false, reduceIte, Int.reduceToNat, fx_simp0]
  refine fx_pi 850 106 7 99 (by decide +kernel) (by unfold fR; omega) ?_
  refine fx_la 0 100 (v := 850) (by decide +kernel) rfl (by decide +kernel) ?_
  refine fx_la 1 101 (v := 130) (by decide +kernel) rfl (by decide +kernel) ?_
  refine fx_gi 130 16 8 104 (by decide +kernel) ?_
  try simp only [fu_app, fcy_app, Nat.reduceEqDiff, and_true, and_false, false_and, true_and, if_true, if_false, ite_true, ite_false, reduceIte, Int.reduceToNat, fx_simp0]
  refine fx_pi 850 106 8 107 (by decide +kernel) (by unfold fR; omega) ?_
  refine fx_la 0 108 (v := 850) (by decide +kernel) rfl (by decide +kernel) ?_
  refine fx_la 1 109 (v := 130) (by decide +kernel) rfl (by decide +kernel) ?_
  refine fx_gi 130 16 9 112 (by decide +kernel) ?_
  try simp only [fu_app, fcy_app, Nat.reduceEqDiff, and_true, and_false, false_and, true_and, if_true, if_false, ite_true, ite_false, reduceIte, Int.reduceToNat, fx_simp0]
  refine fx_pi 850 106 9 115 (by decide +kernel) (by unfold fR; omega) ?_
  refine fx_la 0 116 (v := 850) (by decide +kernel) rfl (by decide +kernel) ?_
  refine fx_la 1 117 (v := 130) (by decide +kernel) rfl (by decide +kernel) ?_
  refine fx_gi 130 16 10 120 (by decide +kernel) ?_
  try simp only [fu_app, fcy_app, Nat.reduceEqDiff, and_true, and_false, false_and, true_and, if_true, if_false, ite_true, ite_false, reduceIte, Int.reduceToNat, fx_simp0]
  refine fx_pi 850 106 10 123 (by decide +kernel) (by unfold fR; omega) ?_
  refine fx_vret (by decide +kernel) ?_
  exact kq
theorem sp_cpT_pt_5 (kq : Q 0 0 (cpT g 106 16)) : fx W r 0 63 0 [130, 850] [] g Q := by
  refine fx_rg (fun hg => ?_)
  have v5 := hg 106 5 (by decide) (by decide +kernel) (by decide +kernel)
  have v6 := hg 106 6 (by decide) (by decide +kernel) (by decide +kernel)
  have v7 := hg 106 7 (by decide) (by decide +kernel) (by decide +kernel)
  have v8 := hg 106 8 (by decide) (by decide +kernel) (by decide +kernel)
  have v9 := hg 106 9 (by decide) (by decide +kernel) (by decide +kernel)
  have v10 := hg 106 10 (by decide) (by decide +kernel) (by decide +kernel)
  unfold fR at v5 v6 v7 v8 v9 v10
  refine fx_la 1 1 (v := 850) (by decide +kernel) rfl (by decide +kernel) ?_
  refine fx_gp 850 106 0 858 4 (by decide +kernel) ?_
  refine fx_ci (0) 5 (by decide +kernel) ?_
  refine fx_la 0 6 (v := 130) (by decide +kernel) rfl (by decide +kernel) ?_
  refine fx_gp 130 16 0 138 9 (by decide +kernel) ?_
  refine fx_ci (0) 10 (by decide +kernel) ?_
  refine fx_ci (8) 12 (by decide +kernel) ?_
  refine fx_cpy 858 107 138 17 8 15 (by decide +kernel) rfl ?_
  refine fx_la 1 16 (v := 850) (by decide +kernel) rfl (by decide +kernel) ?_
  refine fx_gp 850 106 1 866 19 (by decide +kernel) ?_
  refine fx_ci (0) 20 (by decide +kernel) ?_
  refine fx_la 0 21 (v := 130) (by decide +kernel) rfl (by decide +kernel) ?_
  refine fx_gp 130 16 1 146 24 (by decide +kernel) ?_
  refine fx_ci (0) 25 (by decide +kernel) ?_
  refine fx_ci (8) 27 (by decide +kernel) ?_
  refine fx_cpy 866 108 146 18 8 30 (by decide +kernel) rfl ?_
  refine fx_la 1 31 (v := 850) (by decide +kernel) rfl (by decide +kernel) ?_
  refine fx_gp 850 106 2 874 34 (by decide +kernel) ?_
  refine fx_ci (0) 35 (by decide +kernel) ?_
  refine fx_la 0 36 (v := 130) (by decide +kernel) rfl (by decide +kernel) ?_
  refine fx_gp 130 16 2 154 39 (by decide +kernel) ?_
  refine fx_ci (0) 40 (by decide +kernel) ?_
  refine fx_ci (8) 42 (by decide +kernel) ?_
  refine fx_cpy 874 109 154 19 8 45 (by decide +kernel) rfl ?_
  refine fx_la 1 46 (v := 850) (by decide +kernel) rfl (by decide +kernel) ?_
  refine fx_gp 850 106 3 882 49 (by decide +kernel) ?_
  refine fx_ci (0) 50 (by decide +kernel) ?_
  refine fx_la 0 51 (v := 130) (by decide +kernel) rfl (by decide +kernel) ?_
  refine fx_gp 130 16 3 162 54 (by decide +kernel) ?_
  refine fx_ci (0) 55 (by decide +kernel) ?_
  refine fx_ci (8) 57 (by decide +kernel) ?_
  refine fx_cpy 882 110 162 20 8 60 (by decide +kernel) rfl ?_
  refine fx_la 1 61 (v := 850) (by decide +kernel) rfl (by decide +kernel) ?_
  refine fx_gp 850 106 4 890 64 (by decide +kernel) ?_
  refine fx_ci (0) 65 (by decide +kernel) ?_
  refine fx_la 0 66 (v := 130) (by decide +kernel) rfl (by decide +kernel) ?_
  refine fx_gp 130 16 4 170 69 (by decide +kernel) ?_
  refine fx_ci (0) 70 (by decide +kernel) ?_
  refine fx_ci (60) 72 (by decide +kernel) ?_
  refine fx_cpy 890 111 170 21 60 75 (by decide +kernel) rfl ?_
  refine fx_la 0 76 (v := 130) (by decide +kernel) rfl (by decide +kernel) ?_
  refine fx_la 1 77 (v := 850) (by decide +kernel) rfl (by decide +kernel) ?_
  refine fx_gi 850 106 5 80 (by decide +kernel) ?_
  try simp only [fu_app, fcy_app, Nat.reduceEqDiff, and_true, and_false, false_and, true_and, if_true, if_false, ite_true, ite_false, reduceIte, Int.reduceToNat, fx_simp0]
  refine fx_pi 130 16 5 83 (by decide +kernel) (by unfold fR; omega) ?_
  refine fx_la 0 84 (v := 130) (by decide +kernel) rfl (by decide +kernel) ?_
  refine fx_la 1 85 (v := 850) (by decide +kernel) rfl (by decide +kernel) ?_
  refine fx_gi 850 106 6 88 (by decide +kernel) ?_
  try simp only [fu_app, fcy_app, Nat.reduceEqDiff, and_true, and_false, false_and, true_and, if_true, if_false, ite_true, ite_false, reduceIte, Int.reduceToNat, fx_simp0]
  refine fx_pi 130 16 6 91 (by decide +kernel) (by unfold fR; omega) ?_
  refine fx_la 0 92 (v := 130) (by decide +kernel) rfl (by decide +kernel) ?_
  refine fx_la 1 93 (v := 850) (by decide +kernel) rfl (by decide +kernel) ?_
  refine fx_gi 850 106 7 96 (by decide +kernel) ?_
  try simp only [fu_app, fcy_app, Nat.reduceEqDiff, and_true, and_false, false_and, true_and, if_true, if_false, ite_true, ite_false, reduceIte, Int.reduceToNat, fx_simp0]
  refine fx_pi 130 16 7 99 (by decide +kernel) (by unfold fR; omega) ?_
  refine fx_la 0 100 (v := 130) (by decide +kernel) rfl (by decide +kernel) ?_
  refine fx_la 1 101 (v := 850) (by decide +kernel) rfl (by decide +kernel) ?_
  refine fx_gi 850 106 8 104 (by decide +kernel) ?_
  try simp only [fu_app, fcy_app, Nat.reduceEqDiff, and_true, and_false, false_and, true_and, if_true, if_false, ite_true, ite_false, reduceIte, Int.reduceToNat, fx_simp0]
  refine fx_pi 130 16 8 107 (by decide +kernel) (by unfold fR; omega) ?_
  refine fx_la 0 108 (v := 130) (by decide +kernel) rfl (by decide +kernel) ?_
  refine fx_la 1 109 (v := 850) (by decide +kernel) rfl (by decide +kernel) ?_
  refine fx_gi 850 106 9 112 (by decide +kernel) ?_
  try simp only [fu_app, fcy_app, Nat.reduceEqDiff, and_true, and_false, false_and, true_and, if_true, if_false, ite_true, ite_false, reduceIte, Int.reduceToNat, fx_simp0]
  refine fx_pi 130 16 9 115 (by decide +kernel) (by unfold fR; omega) ?_
  refine fx_la 0 116 (v := 130) (by decide +kernel) rfl (by decide +kernel) ?_
  refine fx_la 1 117 (v := 850) (by decide +kernel) rfl (by decide +kernel) ?_
  refine fx_gi 850 106 10 120 (by decide +kernel) ?_
  try simp only [fu_app, fcy_app, Nat.reduceEqDiff, and_true, and_false, false_and, true_and, if_true, if_false, ite_true, ite_false, reduceIte, Int.reduceToNat, fx_simp0]
  refine fx_pi 130 16 10 123 (by decide +kernel) (by unfold fR; omega) ?_
  refine fx_vret (by decide +kernel) ?_
  exact kq
theorem sp_crem_5 (hi : fop 10 (g 0 17 + 1) 12 = 5) (c0 : 0 ≤ g 0 16) (c1 : g 0 16 ≤ 12) (kq : Q 0 0 (cRem g 5)) : fx W r 1 152 0 [2] [] g Q := by
  have ec : cpT (fu g 0 17 5) 16 106 0 16 = g 0 16 := by rw [cpT_ne (by decide), fu_nj (by decide)]
  refine fx_la 0 1 (v := 2) (by decide +kernel) rfl (by decide +kernel) ?_
  refine fx_la 0 2 (v := 2) (by decide +kernel) rfl (by decide +kernel) ?_
  refine fx_gi 2 0 17 5 (by decide +kernel) ?_
  refine fx_ci (1) 6 (by decide +kernel) ?_
  refine fx_add 7 (by decide +kernel) rfl ?_
  refine fx_ci (12) 9 (by decide +kernel) ?_
  refine fx_bin 10 10 (by decide +kernel) rfl (fun _ => by decide) ?_
  refine fx_pi 2 0 17 13 (by decide +kernel) (by first | exact fop_R _ _ _ | (unfold fR; omega)) ?_
  rw [hi]
  refine fx_la 0 14 (v := 2) (by decide +kernel) rfl (by decide +kernel) ?_
  refine fx_gp 2 0 14 602 17 (by decide +kernel) ?_
  refine fx_la 0 18 (v := 2) (by decide +kernel) rfl (by decide +kernel) ?_
  refine fx_gi 2 0 17 21 (by decide +kernel) ?_
  try simp only [fu_app, fcy_app, Nat.reduceEqDiff, and_true, and_false, false_and, true_and, if_true, if_false, ite_true, ite_false, reduceIte, Int.reduceToNat, fx_simp0]
  refine fx_aal 602 75 5 850 22 (by decide +kernel) rfl ?_
  refine fx_la 0 23 (v := 2) (by decide +kernel) rfl (by decide +kernel) ?_
  refine fx_gp 2 0 3 130 26 (by decide +kernel) ?_
  refine fx_c2 63 21 29 0 [] (by decide +kernel) (by decide) (by decide) (by decide) rfl (by first | decide | omega) ?_
  refine sp_cpT_tp_5 (fK0 ?_)
  refine fx_la 0 30 (v := 2) (by decide +kernel) rfl (by decide +kernel) ?_
  refine fx_gi 2 0 16 33 (by decide +kernel) ?_
  try simp only [fu_app, fcy_app, Nat.reduceEqDiff, and_true, and_false, false_and, true_and, if_true, if_false, ite_true, ite_false, reduceIte, Int.reduceToNat, fx_simp0]
  rw [ec]
  refine fx_ci (12) 35 (by decide +kernel) ?_
  refine fx_ige 48 38 (by decide +kernel) (by unfold fR; omega) (by unfold fR; omega) (fun h35 => ?_) (fun h35 => ?_)
  · refine fx_vret (by decide +kernel) ?_
    unfold cRem at kq
    rw [if_neg (by omega)] at kq
    have s := fu_self (cpT (fu g 0 17 5) 16 106) 0 16
    rw [ec] at s
    rw [← s]
    exact kq
  · refine fx_la 0 39 (v := 2) (by decide +kernel) rfl (by decide +kernel) ?_
    refine fx_dup 40 (by decide +kernel) rfl (by decide) ?_
    refine fx_gi 2 0 16 43 (by decide +kernel) ?_
    try simp only [fu_app, fcy_app, Nat.reduceEqDiff, and_true, and_false, false_and, true_and, if_true, if_false, ite_true, ite_false, reduceIte, Int.reduceToNat, fx_simp0]
    rw [ec]
    refine fx_ci (1) 44 (by decide +kernel) ?_
    refine fx_add 45 (by decide +kernel) rfl ?_
    refine fx_pi 2 0 16 48 (by decide +kernel) (by unfold fR; omega) ?_
    refine fx_vret (by decide +kernel) ?_
    unfold cRem at kq
    rw [if_pos (by omega)] at kq
    exact kq
theorem sp_cund_5 (hi : g 0 17 = 5) (c0 : 1 ≤ g 0 16) (c1 : g 0 16 ≤ 12) (kq : Q 1 (fI 1) (cUnd g 5)) : fx W r 1 62 0 [2] [] g Q := by
  have ec : cpT g 106 16 0 16 = g 0 16 := cpT_ne (by decide)
  have en : cpT g 106 16 0 17 = 5 := (cpT_ne (by decide)).trans hi
  refine fx_la 0 1 (v := 2) (by decide +kernel) rfl (by decide +kernel) ?_
  refine fx_gi 2 0 16 4 (by decide +kernel) ?_
  refine fx_zne 9 7 (by decide +kernel) (by first | exact hg 0 16 (by decide) (by decide +kernel) (by decide +kernel) | (unfold fR; omega)) (fun h4 => ?_) (fun h4 => ?_)
  · refine fx_la 0 10 (v := 2) (by decide +kernel) rfl (by decide +kernel) ?_
    refine fx_gp 2 0 3 130 13 (by decide +kernel) ?_
    refine fx_la 0 14 (v := 2) (by decide +kernel) rfl (by decide +kernel) ?_
    refine fx_gp 2 0 14 602 17 (by decide +kernel) ?_
    refine fx_la 0 18 (v := 2) (by decide +kernel) rfl (by decide +kernel) ?_
    refine fx_gi 2 0 17 21 (by decide +kernel) ?_
    rw [hi]
    refine fx_aal 602 75 5 850 22 (by decide +kernel) rfl ?_
    refine fx_c2 63 21 25 0 [] (by decide +kernel) (by decide) (by decide) (by decide) rfl (by first | decide | omega) ?_
    refine sp_cpT_pt_5 (fK0 ?_)
    refine fx_la 0 26 (v := 2) (by decide +kernel) rfl (by decide +kernel) ?_
    refine fx_la 0 27 (v := 2) (by decide +kernel) rfl (by decide +kernel) ?_
    refine fx_gi 2 0 17 30 (by decide +kernel) ?_
    try simp only [fu_app, fcy_app, Nat.reduceEqDiff, and_true, and_false, false_and, true_and, if_true, if_false, ite_true, ite_false, reduceIte, Int.reduceToNat, fx_simp0]
    rw [en]
    refine fx_ci (12) 32 (by decide +kernel) ?_
    refine fx_add 33 (by decide +kernel) rfl ?_
    refine fx_ci (1) 34 (by decide +kernel) ?_
    refine fx_sub 35 (by decide +kernel) rfl ?_
    refine fx_ci (12) 37 (by decide +kernel) ?_
    refine fx_bin 10 38 (by decide +kernel) rfl (fun _ => by decide) ?_
    refine fx_pi 2 0 17 41 (by decide +kernel) (by first | exact fop_R _ _ _ | (unfold fR; omega)) ?_
    rw [show fop 10 ((5 : Int) + 12 - 1) 12 = ((4 : Nat) : Int) from fop_rem12 16 (by decide)]
    refine fx_la 0 42 (v := 2) (by decide +kernel) rfl (by decide +kernel) ?_
    refine fx_dup 43 (by decide +kernel) rfl (by decide) ?_
    refine fx_gi 2 0 16 46 (by decide +kernel) ?_
    try simp only [fu_app, fcy_app, Nat.reduceEqDiff, and_true, and_false, false_and, true_and, if_true, if_false, ite_true, ite_false, reduceIte, Int.reduceToNat, fx_simp0]
    rw [ec]
    refine fx_ci (1) 47 (by decide +kernel) ?_
    refine fx_sub 48 (by decide +kernel) rfl ?_
    refine fx_pi 2 0 16 51 (by decide +kernel) (by unfold fR; omega) ?_
    refine fx_ci (1) 52 (by decide +kernel) ?_
    refine fx_retb (by decide +kernel) (by first | exact Or.inl rfl | exact Or.inr rfl | omega) ?_
    exact kq
  · refine fx_ci (0) 8 (by decide +kernel) ?_
    refine fx_retb (by decide +kernel) (by first | exact Or.inl rfl | exact Or.inr rfl | omega) ?_
    exfalso; omega
theorem sp_cpT_tp_6 (kq : Q 0 0 (cpT g 16 112)) : fx W r 0 63 0 [898, 130] [] g Q := by
  refine fx_rg (fun hg => ?_)
  have v5 := hg 16 5 (by decide) (by decide +kernel) (by decide +kernel)
  have v6 := hg 16 6 (by decide) (by decide +kernel) (by decide +kernel)
  have v7 := hg 16 7 (by decide) (by decide +kernel) (by decide +kernel)
  have v8 := hg 16 8 (by decide) (by decide +kernel) (by decide +kernel)
  have v9 := hg 16 9 (by decide) (by decide +kernel) (by decide +kernel)
  have v10 := hg 16 10 (by decide) (by decide +kernel) (by decide +kernel)
  unfold fR at v5 v6 v7 v8 v9 v10
  refine fx_la 1 1 (v := 130) (by decide +kernel) rfl (by decide +kernel) ?_
  refine fx_gp 130 16 0 138 4 (by decide +kernel) ?_
  refine fx_ci (0) 5 (by decide +kernel) ?_
  refine fx_la 0 6 (v := 898) (by decide +kernel) rfl (by decide +kernel) ?_
  refine fx_gp 898 112 0 906 9 (by decide +kernel) ?_
  refine fx_ci (0) 10 (by decide +kernel) ?_
  refine fx_ci (8) 12 (by decide +kernel) ?_
  refine fx_cpy 138 17 906 113 8 15 (by decide +kernel) rfl ?_
  refine fx_la 1 16 (v := 130) (by decide +kernel) rfl (by decide +kernel) ?_
  refine fx_gp 130 16 1 146 19 (by decide +kernel) ?_
  refine fx_ci (0) 20 (by decide +kernel) ?_
  refine fx_la 0 21 (v := 898) (by decide +kernel) rfl (by decide +kernel) ?_
  refine fx_gp 898 112 1 914 24 (by decide +kernel) ?_
  refine fx_ci (0) 25 (by decide +kernel) ?_
  refine fx_ci (8) 27 (by decide +kernel) ?_
  refine fx_cpy 146 18 914 114 8 30 (by decide +kernel) rfl ?_
  refine fx_la 1 31 (v := 130) (by decide +kernel) rfl (by decide +kernel) ?_
  refine fx_gp 130 16 2 154 34 (by decide +kernel) ?_
  refine fx_ci (0) 35 (by decide +kernel) ?_
  refine fx_la 0 36 (v := 898) (by decide +kernel) rfl (by decide +kernel) ?_
  refine fx_gp 898 112 2 922 39 (by decide +kernel) ?_
  refine fx_ci (0) 40 (by decide +kernel) ?_
  refine fx_ci (8) 42 (by decide +kernel) ?_
  refine fx_cpy 154 19 922 115 8 45 (by decide +kernel) rfl ?_
  refine fx_la 1 46 (v := 130) (by decide +kernel) rfl (by decide +kernel) ?_
  refine fx_gp 130 16 3 162 49 (by decide +kernel) ?_
  refine fx_ci (0) 50 (by decide +kernel) ?_
  refine fx_la 0 51 (v := 898) (by decide +kernel) rfl (by decide +kernel) ?_
  refine fx_gp 898 112 3 930 54 (by decide +kernel) ?_
  refine fx_ci (0) 55 (by decide +kernel) ?_
  refine fx_ci (8) 57 (by decide +kernel) ?_
  refine fx_cpy 162 20 930 116 8 60 (by decide +kernel) rfl ?_
  refine fx_la 1 61 (v := 130) (by decide +kernel) rfl (by decide +kernel) ?_
  refine fx_gp 130 16 4 170 64 (by decide +kernel) ?_
  refine fx_ci (0) 65 (by decide +kernel) ?_
  refine fx_la 0 66 (v := 898) (by decide +kernel) rfl (by decide +kernel) ?_
  refine fx_gp 898 112 4 938 69 (by decide +kernel) ?_
  refine fx_ci (0) 70 (by decide +kernel) ?_
  refine fx_ci (60) 72 (by decide +kernel) ?_
  refine fx_cpy 170 21 938 117 60 75 (by decide +kernel) rfl ?_
  refine fx_la 0 76 (v := 898) (by decide +kernel) rfl (by decide +kernel) ?_
  refine fx_la 1 77 (v := 130) (by decide +kernel) rfl (by decide +kernel) ?_
  refine fx_gi 130 16 5 80 (by decide +kernel) ?_
  try simp only [fu_app, fcy_app, Nat.reduceEqDiff, and_true, and_false, false_and, true_and, if_true, if_false, ite_true, ite_false, reduceIte, Int.reduceToNat, fx_simp0]
  refine fx_pi 898 112 5 83 (by decide +kernel) (by unfold fR; omega) ?_
  refine fx_la 0 84 (v := 898) (by decide +kernel) rfl (by decide +kernel) ?_
  refine fx_la 1 85 (v := 130) (by decide +kernel) rfl (by decide +kernel) ?_
  refine fx_gi 130 16 6 88 (by decide +kernel) ?_
  try simp only [fu_app, fcy_app, Nat.reduceEqDiff, and_true, and_false, false_and, true_and, if_true, if_false, ite_true, ite_false, reduceIte, Int.reduceToNat, fx_simp0]
  refine fx_pi 898 112 6 91 (by decide +kernel) (by unfold fR; omega) ?_
  refine fx_la 0 92 (v := 898) (by decide +kernel) rfl (by decide +kernel) ?_
  refine fx_la 1 93 (v := 130) (by decide +kernel) rfl (by decide +kernel) ?_
  refine fx_gi 130 16 7 96 (by decide +kernel) ?_
  try simp only [fu_app, fcy_app, Nat.reduceEqDiff, and_true, and_false, false_and, true_and, if_true, if_false, ite_true, ite_false, reduceIte, Int.reduceToNat, fx_simp0]
  refine fx_pi 898 112 7 99 (by decide +kernel) (by unfold fR; omega) ?_
  refine fx_la 0 100 (v := 898) (by decide +kernel) rfl (by decide +kernel) ?_
  refine fx_la 1 101 (v := 130) (by decide +kernel) rfl (by decide +kernel) ?_
  refine fx_gi 130 16 8 104 (by decide +kernel) ?_
  try simp only [fu_app, fcy_app, Nat.reduceEqDiff, and_true, and_false, false_and, true_and, if_true, if_false, ite_true, ite_false, reduceIte, Int.reduceToNat, fx_simp0]
  refine fx_pi 898 112 8 107 (by decide +kernel) (by unfold fR; omega) ?_
  refine fx_la 0 108 (v := 898) (by decide +kernel) rfl (by decide +kernel) ?_
  refine fx_la 1 109 (v := 130) (by decide +kernel) rfl (by decide +kernel) ?_
  refine fx_gi 130 16 9 112 (by decide +kernel) ?_
  try simp only [fu_app, fcy_app, Nat.reduceEqDiff, and_true, and_false, false_and, true_and, if_true, if_false, ite_true, ite_false, reduceIte, Int.reduceToNat, fx_simp0]
  refine fx_pi 898 112 9 115 (by decide +kernel) (by unfold fR; omega) ?_
  refine fx_la 0 116 (v := 898) (by decide +kernel) rfl (by decide +kernel) ?_
  refine fx_la 1 117 (v := 130) (by decide +kernel) rfl (by decide +kernel) ?_
  refine fx_gi 130 16 10 120 (by decide +kernel) ?_
  try simp only [fu_app, fcy_app, Nat.reduceEqDiff, and_true, and_false, false_and, true_and, if_true, if_false, ite_true, ite_false, reduceIte, Int.reduceToNat, fx_simp0]
  refine fx_pi 898 112 10 123 (by decide +kernel) (by unfold fR; omega) ?_
  refine fx_vret (by decide +kernel) ?_
  exact kq
theorem sp_cpT_pt_6 (kq : Q 0 0 (cpT g 112 16)) : fx W r 0 63 0 [130, 898] [] g Q := by
  refine fx_rg (fun hg => ?_)
  have v5 := hg 112 5 (by decide) (by decide +kernel) (by decide +kernel)
  have v6 := hg 112 6 (by decide) (by decide +kernel) (by decide +kernel)
  have v7 := hg 112 7 (by decide) (by decide +kernel) (by decide +kernel)
  have v8 := hg 112 8 (by decide) (by decide +kernel) (by decide +kernel)
  have v9 := hg 112 9 (by decide) (by decide +kernel) (by decide +kernel)
  have v10 := hg 112 10 (by decide) (by decide +kernel) (by decide +kernel)
  unfold fR at v5 v6 v7 v8 v9 v10
  refine fx_la 1 1 (v := 898) (by decide +kernel) rfl (by decide +kernel) ?_
  refine fx_gp 898 112 0 906 4 (by decide +kernel) ?_
  refine fx_ci (0) 5 (by decide +kernel) ?_
  refine fx_la 0 6 (v := 130) (by decide +kernel) rfl (by decide +kernel) ?_
  refine fx_gp 130 16 0 138 9 (by decide +kernel) ?_
  refine fx_ci (0) 10 (by decide +kernel) ?_
  refine fx_ci (8) 12 (by decide +kernel) ?_
  refine fx_cpy 906 113 138 17 8 15 (by decide +kernel) rfl ?_
  refine fx_la 1 16 (v := 898) (by decide +kernel) rfl (by decide +kernel) ?_
  refine fx_gp 898 112 1 914 19 (by decide +kernel) ?_
  refine fx_ci (0) 20 (by decide +kernel) ?_
  refine fx_la 0 21 (v := 130) (by decide +kernel) rfl (by decide +kernel) ?_
  refine fx_gp 130 16 1 146 24 (by decide +kernel) ?_
  refine fx_ci (0) 25 (by decide +kernel) ?_
  refine fx_ci (8) 27 (by decide +kernel) ?_
  refine fx_cpy 914 114 146 18 8 30 (by decide +kernel) rfl ?_
  refine fx_la 1 31 (v := 898) (by decide +kernel) rfl (by decide +kernel) ?_
  refine fx_gp 898 112 2 922 34 (by decide +kernel) ?_
  refine fx_ci (0) 35 (by decide +kernel) ?_
  refine fx_la 0 36 (v := 130) (by decide +kernel) rfl (by decide +kernel) ?_
  refine fx_gp 130 16 2 154 39 (by decide +kernel) ?_
  refine fx_ci (0) 40 (by decide +kernel) ?_
  refine fx_ci (8) 42 (by decide +kernel) ?_
  refine fx_cpy 922 115 154 19 8 45 (by decide +kernel) rfl ?_
  refine fx_la 1 46 (v := 898) (by decide +kernel) rfl (by decide +kernel) ?_
  refine fx_gp 898 112 3 930 49 (by decide +kernel) ?_
  refine fx_ci (0) 50 (by decide +kernel) ?_
  refine fx_la 0 51 (v := 130) (by decide +kernel) rfl (by decide +kernel) ?_
  refine fx_gp 130 16 3 162 54 (by decide +kernel) ?_
  refine fx_ci (0) 55 (by decide +kernel) ?_
  refine fx_ci (8) 57 (by decide +kernel) ?_
  refine fx_cpy 930 116 162 20 8 60 (by decide +kernel) rfl ?_
  refine fx_la 1 61 (v := 898) (by decide +kernel) rfl (by decide +kernel) ?_
  refine fx_gp 898 112 4 938 64 (by decide +kernel) ?_
  refine fx_ci (0) 65 (by decide +kernel) ?_
  refine fx_la 0 66 (v := 130) (by decide +kernel) rfl (by decide +kernel) ?_
  refine fx_gp 130 16 4 170 69 (by decide +kernel) ?_
  refine fx_ci (0) 70 (by decide +kernel) ?_
  refine fx_ci (60) 72 (by decide +kernel) ?_
  refine fx_cpy 938 117 170 21 60 75 (by decide +kernel) rfl ?_
  refine fx_la 0 76 (v := 130) (by decide +kernel) rfl (by decide +kernel) ?_
  refine fx_la 1 77 (v := 898) (by decide +kernel) rfl (by decide +kernel) ?_
  refine fx_gi 898 112 5 80 (by decide +kernel) ?_
  try simp only [fu_app, fcy_app, Nat.reduceEqDiff, and_true, and_false, false_and, true_and, if_true, if_false, ite_true, ite_false, reduceIte, Int.reduceToNat, fx_simp0]
  refine fx_pi 130 16 5 83 (by decide +kernel) (by unfold fR; omega) ?_
  refine fx_la 0 84 (v := 130) (by decide +kernel) rfl (by decide +kernel) ?_
  refine fx_la 1 85 (v := 898) (by decide +kernel) rfl (by decide +kernel) ?_
  refine fx_gi 898 112 6 88 (by decide +kernel) ?_
  try simp only [fu_app, fcy_app, Nat.reduceEqDiff, and_true, and_false, false_and, true_and, if_true, if_false, ite_true, ite_false, reduceIte, Int.reduceToNat, fx_simp0]
  refine fx_pi 130 16 6 91 (by decide +kernel) (by unfold fR; omega) ?_
  refine fx_la 0 92 (v := 130) (by decide +kernel) rfl (by decide +kernel) ?_
  refine fx_la 1 93 (v := 898) (by decide +kernel) rfl (by decide +kernel) ?_
  refine fx_gi 898 112 7 96 (by decide +kernel) ?_
  try simp only [fu_app, fcy_app, Nat.reduceEqDiff, and_true, and_false, false_and, true_and, if_true, if_false, ite_true, ite_false, reduceIte, Int.reduceToNat, fx_simp0]
  refine fx_pi 130 16 7 99 (by decide +kernel) (by unfold fR; omega) ?_
  refine fx_la 0 100 (v := 130) (by decide +kernel) rfl (by decide +kernel) ?_
  refine fx_la 1 101 (v := 898) (by decide +kernel) rfl (by decide +kernel) ?_
  refine fx_gi 898 112 8 104 (by decide +kernel) ?_
  try simp only [fu_app, fcy_app, Nat.reduceEqDiff, and_true, and_false, false_and, true_and, if_true, if_false, ite_true, ite_false, reduceIte, Int.reduceToNat, fx_simp0]
  refine fx_pi 130 16 8 107 (by decide +kernel) (by unfold fR; omega) ?_
  refine fx_la 0 108 (v := 130) (by decide +kernel) rfl (by decide +kernel) ?_
  refine fx_la 1 109 (v := 898) (by decide +kernel) rfl (by decide +kernel) ?_
  refine fx_gi 898 112 9 112 (by decide +kernel) ?_
  try simp only [fu_app, fcy_app, Nat.reduceEqDiff, and_true, and_false, false_and, true_and, if_true, if_false, ite_true, ite_false, reduceIte, Int.reduceToNat, fx_simp0]
  refine fx_pi 130 16 9 115 (by decide +kernel) (by unfold fR; omega) ?_
  refine fx_la 0 116 (v := 130) (by decide +kernel) rfl (by decide +kernel) ?_
  refine fx_la 1 117 (v := 898) (by decide +kernel) rfl (by decide +kernel) ?_
  refine fx_gi 898 112 10 120 (by decide +kernel) ?_
  try simp only [fu_app, fcy_app, Nat.reduceEqDiff, and_true, and_false, false_and, true_and, if_true, if_false, ite_true, ite_false, reduceIte, Int.reduceToNat, fx_simp0]
  refine fx_pi 130 16 10 123 (by decide +kernel) (by unfold fR; omega) ?_
  refine fx_vret (by decide +kernel) ?_
  exact kq
theorem sp_crem_6 (hi : fop 10 (g 0 17 + 1) 12 = 6) (c0 : 0 ≤ g 0 16) (c1 : g 0 16 ≤ 12) (kq : Q 0 0 (cRem g 6)) : fx W r 1 152 0 [2] [] g Q := by
  have ec : cpT (fu g 0 17 6) 16 112 0 16 = g 0 16 := by rw [cpT_ne (by decide), fu_nj (by decide)]
  refine fx_la 0 1 (v := 2) (by decide +kernel) rfl (by decide +kernel) ?_
  refine fx_la 0 2 (v := 2) (by decide +kernel) rfl (by decide +kernel) ?_
  refine fx_gi 2 0 17 5 (by decide +kernel) ?_
  refine fx_ci (1) 6 (by decide +kernel) ?_
  refine fx_add 7 (by decide +kernel) rfl ?_
  refine fx_ci (12) 9 (by decide +kernel) ?_
  refine fx_bin 10 10 (by decide +kernel) rfl (fun _ => by decide) ?_
  refine fx_pi 2 0 17 13 (by decide +kernel) (by first | exact fop_R _ _ _ | (unfold fR; omega)) ?_
  rw [hi]
  refine fx_la 0 14 (v := 2) (by decide +kernel) rfl (by decide +kernel) ?_
  refine fx_gp 2 0 14 602 17 (by decide +kernel) ?_
  refine fx_la 0 18 (v := 2) (by decide +kernel) rfl (by decide +kernel) ?_
  refine fx_gi 2 0 17 21 (by decide +kernel) ?_
  try simp only [fu_app, fcy_app, Nat.reduceEqDiff, and_true, and_false, false_and, true_and, if_true, if_false, ite_true, ite_false, reduceIte, Int.reduceToNat, fx_simp0]
  refine fx_aal 602 75 6 898 22 (by decide +kernel) rfl ?_
  refine fx_la 0 23 (v := 2) (by decide +kernel) rfl (by decide +kernel) ?_
  refine fx_gp 2 0 3 130 26 (by decide +kernel) ?_
  refine fx_c2 63 21 29 0 [] (by decide +kernel) (by decide) (by decide) (by decide) rfl (by first | decide | omega) ?_
  refine sp_cpT_tp_6 (fK0 ?_)
  refine fx_la 0 30 (v := 2) (by decide +kernel) rfl (by decide +kernel) ?_
  refine fx_gi 2 0 16 33 (by decide +kernel) ?_
  try simp only [fu_app, fcy_app, Nat.reduceEqDiff, and_true, and_false, false_and, true_and, if_true, if_false, ite_true, ite_false, reduceIte, Int.reduceToNat, fx_simp0]
  rw [ec]
  refine fx_ci (12) 35 (by decide +kernel) ?_
  refine fx_ige 48 38 (by decide +kernel) (by unfold fR; omega) (by unfold fR; omega) (fun h35 => ?_) (fun h35 => ?_)
  · refine fx_vret (by decide +kernel) ?_
    unfold cRem at kq
    rw [if_neg (by omega)] at kq
    have s := fu_self (cpT (fu g 0 17 6) 16 112) 0 16
    rw [ec] at s
    rw [← s]
    exact kq
  · refine fx_la 0 39 (v := 2) (by decide +kernel) rfl (by decide +kernel) ?_
    refine fx_dup 40 (by decide +kernel) rfl (by decide) ?_
    refine fx_gi 2 0 16 43 (by decide +kernel) ?_
    try simp only [fu_app, fcy_app, Nat.reduceEqDiff, and_true, and_false, false_and, true_and, if_true, if_false, ite_true, ite_false, reduceIte, Int.reduceToNat, fx_simp0]
    rw [ec]
    refine fx_ci (1) 44 (by decide +kernel) ?_
    refine fx_add 45 (by decide +kernel) rfl ?_
    refine fx_pi 2 0 16 48 (by decide +kernel) (by unfold fR; omega) ?_
    refine fx_vret (by decide +kernel) ?_
    unfold cRem at kq
    rw [if_pos (by omega)] at kq
    exact kq
theorem sp_cund_6 (hi : g 0 17 = 6) (c0 : 1 ≤ g 0 16) (c1 : g 0 16 ≤ 12) (kq : Q 1 (fI 1) (cUnd g 6)) : fx W r 1 62 0 [2] [] g Q := by
  have ec : cpT g 112 16 0 16 = g 0 16 := cpT_ne (by decide)
  have en : cpT g 112 16 0 17 = 6 := (cpT_ne (by decide)).trans hi
  refine fx_la 0 1 (v := 2) (by decide +kernel) rfl (by decide +kernel) ?_
  refine fx_gi 2 0 16 4 (by decide +kernel) ?_
  refine fx_zne 9 7 (by decide +kernel) (by first | exact hg 0 16 (by decide) (by decide +kernel) (by decide +kernel) | (unfold fR; omega)) (fun h4 => ?_) (fun h4 => ?_)
  · refine fx_la 0 10 (v := 2) (by decide +kernel) rfl (by decide +kernel) ?_
    refine fx_gp 2 0 3 130 13 (by decide +kernel) ?_
    refine fx_la 0 14 (v := 2) (by decide +kernel) rfl (by decide +kernel) ?_
    refine fx_gp 2 0 14 602 17 (by decide +kernel) ?_
    refine fx_la 0 18 (v := 2) (by decide +kernel) rfl (by decide +kernel) ?_
    refine fx_gi 2 0 17 21 (by decide +kernel) ?_
    rw [hi]
    refine fx_aal 602 75 6 898 22 (by decide +kernel) rfl ?_
    refine fx_c2 63 21 25 0 [] (by decide +kernel) (by decide) (by decide) (by decide) rfl (by first | decide | omega) ?_
    refine sp_cpT_pt_6 (fK0 ?_)
    refine fx_la 0 26 (v := 2) (by decide +kernel) rfl (by decide +kernel) ?_
    refine fx_la 0 27 (v := 2) (by decide +kernel) rfl (by decide +kernel) ?_
    refine fx_gi 2 0 17 30 (by decide +kernel) ?_
    try simp only [fu_app, fcy_app, Nat.reduceEqDiff, and_true, and_false, false_and, true_and, if_true, if_false, ite_true, ite_false, reduceIte, Int.reduceToNat, fx_simp0]
    rw [en]
    refine fx_ci (12) 32 (by decide +kernel) ?_
    refine fx_add 33 (by decide +kernel) rfl ?_
    refine fx_ci (1) 34 (by decide +kernel) ?_
    refine fx_sub 35 (by decide +kernel) rfl ?_
    refine fx_ci (12) 37 (by decide +kernel) ?_
    refine fx_bin 10 38 (by decide +kernel) rfl (fun _ => by decide) ?_
    refine fx_pi 2 0 17 41 (by decide +kernel) (by first | exact fop_R _ _ _ | (unfold fR; omega)) ?_
    rw [show fop 10 ((6 : Int) + 12 - 1) 12 = ((5 : Nat) : Int) from fop_rem12 17 (by decide)]
    refine fx_la 0 42 (v := 2) (by decide +kernel) rfl (by decide +kernel) ?_
    refine fx_dup 43 (by decide +kernel) rfl (by decide) ?_
    refine fx_gi 2 0 16 46 (by decide +kernel) ?_
    try simp only [fu_app, fcy_app, Nat.reduceEqDiff, and_true, and_false, false_and, true_and, if_true, if_false, ite_true, ite_false, reduceIte, Int.reduceToNat, fx_simp0]
    rw [ec]
    refine fx_ci (1) 47 (by decide +kernel) ?_
    refine fx_sub 48 (by decide +kernel) rfl ?_
    refine fx_pi 2 0 16 51 (by decide +kernel) (by unfold fR; omega) ?_
    refine fx_ci (1) 52 (by decide +kernel) ?_
    refine fx_retb (by decide +kernel) (by first | exact Or.inl rfl | exact Or.inr rfl | omega) ?_
    exact kq
  · refine fx_ci (0) 8 (by decide +kernel) ?_
    refine fx_retb (by decide +kernel) (by first | exact Or.inl rfl | exact Or.inr rfl | omega) ?_
    exfalso; omega
theorem sp_cpT_tp_7 (kq : Q 0 0 (cpT g 16 118)) : fx W r 0 63 0 [946, 130] [] g Q := by
  refine fx_rg (fun hg => ?_)
  have v5 := hg 16 5 (by decide) (by decide +kernel) (by decide +kernel)
  have v6 := hg 16 6 (by decide) (by decide +kernel) (by decide +kernel)
  have v7 := hg 16 7 (by decide) (by decide +kernel) (by decide +kernel)
  have v8 := hg 16 8 (by decide) (by decide +kernel) (by decide +kernel)
  have v9 := hg 16 9 (by decide) (by decide +kernel) (by decide +kernel)
  have v10 := hg 16 10 (by decide) (by decide +kernel) (by decide +kernel)
  unfold fR at v5 v6 v7 v8 v9 v10
  refine fx_la 1 1 (v := 130) (by decide +kernel) rfl (by decide +kernel) ?_
  refine fx_gp 130 16 0 138 4 (by decide +kernel) ?_
  refine fx_ci (0) 5 (by decide +kernel) ?_
  refine fx_la 0 6 (v := 946) (by decide +kernel) rfl (by decide +kernel) ?_
  refine fx_gp 946 118 0 954 9 (by decide +kernel) ?_
  refine fx_ci (0) 10 (by decide +kernel) ?_
  refine fx_ci (8) 12 (by decide +kernel) ?_
  refine fx_cpy 138 17 954 119 8 15 (by decide +kernel) rfl ?_
  refine fx_la 1 16 (v := 130) (by decide +kernel) rfl (by decide +kernel) ?_
  refine fx_gp 130 16 1 146 19 (by decide +kernel) ?_
  refine fx_ci (0) 20 (by decide +kernel) ?_
  refine fx_la 0 21 (v := 946) (by decide +kernel) rfl (by decide +kernel) ?_
  refine fx_gp 946 118 1 962 24 (by decide +kernel) ?_
  refine fx_ci (0) 25 (by decide +kernel) ?_
  refine fx_ci (8) 27 (by decide +kernel) ?_
  refine fx_cpy 146 18 962 120 8 30 (by decide +kernel) rfl ?_
  refine fx_la 1 31 (v := 130) (by decide +kernel) rfl (by decide +kernel) ?_
  refine fx_gp 130 16 2 154 34 (by decide +kernel) ?_
  refine fx_ci (0) 35 (by decide +kernel) ?_
  refine fx_la 0 36 (v := 946) (by decide +kernel) rfl (by decide +kernel) ?_
  refine fx_gp 946 118 2 970 39 (by decide +kernel) ?_
  refine fx_ci (0) 40 (by decide +kernel) ?_
  refine fx_ci (8) 42 (by decide +kernel) ?_
  refine fx_cpy 154 19 970 121 8 45 (by decide +kernel) rfl ?_
  refine fx_la 1 46 (v := 130) (by decide +kernel) rfl (by decide +kernel) ?_
  refine fx_gp 130 16 3 162 49 (by decide +kernel) ?_
  refine fx_ci (0) 50 (by decide +kernel) ?_
  refine fx_la 0 51 (v := 946) (by decide +kernel) rfl (by decide +kernel) ?_
  refine fx_gp 946 118 3 978 54 (by decide +kernel) ?_
  refine fx_ci (0) 55 (by decide +kernel) ?_
  refine fx_ci (8) 57 (by decide +kernel) ?_
  refine fx_cpy 162 20 978 122 8 60 (by decide +kernel) rfl ?_
  refine fx_la 1 61 (v := 130) (by decide +kernel) rfl (by decide +kernel) ?_
  refine fx_gp 130 16 4 170 64 (by decide +kernel) ?_
  refine fx_ci (0) 65 (by decide +kernel) ?_
  refine fx_la 0 66 (v := 946) (by decide +kernel) rfl (by decide +kernel) ?_
  refine fx_gp 946 118 4 986 69 (by decide +kernel) ?_
  refine fx_ci (0) 70 (by decide +kernel) ?_
  refine fx_ci (60) 72 (by decide +kernel) ?_
  refine fx_cpy 170 21 986 123 60 75 (by decide +kernel) rfl ?_
  refine fx_la 0 76 (v := 946) (by decide +kernel) rfl (by decide +kernel) ?_
  refine fx_la 1 77 (v := 130) (by decide +kernel) rfl (by decide +kernel) ?_
  refine fx_gi 130 16 5 80 (by decide +kernel) ?_
  try simp only [fu_app, fcy_app, Nat.reduceEqDiff, and_true, and_false, false_and, true_and, if_true, if_false, ite_true, ite_false, reduceIte, Int.reduceToNat, fx_simp0]
  refine fx_pi 946 118 5 83 (by decide +kernel) (by unfold fR; omega) ?_
  refine fx_la 0 84 (v := 946) (by decide +kernel) rfl (by decide +kernel) ?_
  refine fx_la 1 85 (v := 130) (by decide +kernel) rfl (by decide +kernel) ?_
  refine fx_gi 130 16 6 88 (by decide +kernel) ?_
  try simp only [fu_app, fcy_app, Nat.reduceEqDiff, and_true, and_false, false_and, true_and, if_true, if_false, ite_true, ite_false, reduceIte, Int.reduceToNat, fx_simp0]
  refine fx_pi 946 118 6 91 (by decide +kernel) (by unfold fR; omega) ?_
  refine fx_la 0 92 (v := 946) (by decide +kernel) rfl (by decide +kernel) ?_
  refine fx_la 1 93 (v := 130) (by decide +kernel) rfl (by decide +kernel) ?_
  refine fx_gi 130 16 7 96 (by decide +kernel) ?_
  try simp only [fu_app, fcy_app, Nat.reduceEqDiff, and_true, and_false, false_and, true_and, if_true, if_false, ite_true, ite_false, reduceIte, Int.reduceToNat, fx_simp0]
  refine fx_pi 946 118 7 99 (by decide +kernel) (by unfold fR; omega) ?_
  refine fx_la 0 100 (v := 946) (by decide +kernel) rfl (by decide +kernel) ?_
  refine fx_la 1 101 (v := 130) (by decide +kernel) rfl (by decide +kernel) ?_
  refine fx_gi 130 16 8 104 (by decide +kernel) ?_
  try simp only [fu_app, fcy_app, Nat.reduceEqDiff, and_true, and_false, false_and, true_and, if_true, if_false, ite_true, ite_false, reduceIte, Int.reduceToNat, fx_simp0]
  refine fx_pi 946 118 8 107 (by decide +kernel) (by unfold fR; omega) ?_
  refine fx_la 0 108 (v := 946) (by decide +kernel) rfl (by decide +kernel) ?_
  refine fx_la 1 109 (v := 130) (by decide +kernel) rfl (by decide +kernel) ?_
  refine fx_gi 130 16 9 112 (by decide +kernel) ?_
  try simp only [fu_app, fcy_app, Nat.reduceEqDiff, and_true, and_false, false_and, true_and, if_true, if_false, ite_true, ite_false, reduceIte, Int.reduceToNat, fx_simp0]
  refine fx_pi 946 118 9 115 (by decide +kernel) (by unfold fR; omega) ?_
  refine fx_la 0 116 (v := 946) (by decide +kernel) rfl (by decide +kernel) ?_
  refine fx_la 1 117 (v := 130) (by decide +kernel) rfl (by decide +kernel) ?_
  refine fx_gi 130 16 10 120 (by decide +kernel) ?_
  try simp only [fu_app, fcy_app, Nat.reduceEqDiff, and_true, and_false, false_and, true_and, if_true, if_false, ite_true, ite_false, reduceIte, Int.reduceToNat, fx_simp0]
  refine fx_pi 946 118 10 123 (by decide +kernel) (by unfold fR; omega) ?_
  refine fx_vret (by decide +kernel) ?_
  exact kq
theorem sp_cpT_pt_7 (kq : Q 0 0 (cpT g 118 16)) : fx W r 0 63 0 [130, 946] [] g Q := by
  refine fx_rg (fun hg => ?_)
  have v5 := hg 118 5 (by decide) (by decide +kernel) (by decide +kernel)
  have v6 := hg 118 6 (by decide) (by decide +kernel) (by decide +kernel)
  have v7 := hg 118 7 (by decide) (by decide +kernel) (by decide +kernel)
  have v8 := hg 118 8 (by decide) (by decide +kernel) (by decide +kernel)
  have v9 := hg 118 9 (by decide) (by decide +kernel) (by decide +kernel)
  have v10 := hg 118 10 (by decide) (by decide +kernel) (by decide +kernel)
  unfold fR at v5 v6 v7 v8 v9 v10
  refine fx_la 1 1 (v := 946) (by decide +kernel) rfl (by decide +kernel) ?_
  refine fx_gp 946 118 0 954 4 (by decide +kernel) ?_
  refine fx_ci (0) 5 (by decide +kernel) ?_
  refine fx_la 0 6 (v := 130) (by decide +kernel) rfl (by decide +kernel) ?_
  refine fx_gp 130 16 0 138 9 (by decide +kernel) ?_
  refine fx_ci (0) 10 (by decide +kernel) ?_
  refine fx_ci (8) 12 (by decide +kernel) ?_
  refine fx_cpy 954 119 138 17 8 15 (by decide +kernel) rfl ?_
  refine fx_la 1 16 (v := 946) (by decide +kernel) rfl (by decide +kernel) ?_
  refine fx_gp 946 118 1 962 19 (by decide +kernel) ?_
  refine fx_ci (0) 20 (by decide +kernel) ?_
  refine fx_la 0 21 (v := 130) (by decide +kernel) rfl (by decide +kernel) ?_
  refine fx_gp 130 16 1 146 24 (by decide +kernel) ?_
  refine fx_ci (0) 25 (by decide +kernel) ?_
  refine fx_ci (8) 27 (by decide +kernel) ?_
  refine fx_cpy 962 120 146 18 8 30 (by decide +kernel) rfl ?_
  refine fx_la 1 31 (v := 946) (by decide +kernel) rfl (by decide +kernel) ?_
  refine fx_gp 946 118 2 970 34 (by decide +kernel) ?_
  refine fx_ci (0) 35 (by decide +kernel) ?_
  refine fx_la 0 36 (v := 130) (by decide +kernel) rfl (by decide +kernel) ?_
  refine fx_gp 130 16 2 154 39 (by decide +kernel) ?_
  refine fx_ci (0) 40 (by decide +kernel) ?_
  refine fx_ci (8) 42 (by decide +kernel) ?_
  refine fx_cpy 970 121 154 19 8 45 (by decide +kernel) rfl ?_
  refine fx_la 1 46 (v := 946) (by decide +kernel) rfl (by decide +kernel) ?_
  refine fx_gp 946 118 3 978 49 (by decide +kernel) ?_
  refine fx_ci (0) 50 (by decide +kernel) ?_
  refine fx_la 0 51 (v := 130) (by decide +kernel) rfl (by decide +kernel) ?_
  refine fx_gp 130 16 3 162 54 (by decide +kernel) ?_
  refine fx_ci (0) 55 (by decide +kernel) ?_
  refine fx_ci (8) 57 (by decide +kernel) ?_
  refine fx_cpy 978 122 162 20 8 60 (by decide +kernel) rfl ?_
  refine fx_la 1 61 (v := 946) (by decide +kernel) rfl (by decide +kernel) ?_
  refine fx_gp 946 118 4 986 64 (by decide +kernel) ?_
  refine fx_ci (0) 65 (by decide +kernel) ?_
  refine fx_la 0 66 (v := 130) (by decide +kernel) rfl (by decide +kernel) ?_
  refine fx_gp 130 16 4 170 69 (by decide +kernel) ?_
  refine fx_ci (0) 70 (by decide +kernel) ?_
  refine fx_ci (60) 72 (by decide +kernel) ?_
  refine fx_cpy 986 123 170 21 60 75 (by decide +kernel) rfl ?_
  refine fx_la 0 76 (v := 130) (by decide +kernel) rfl (by decide +kernel) ?_
  refine fx_la 1 77 (v := 946) (by decide +kernel) rfl (by decide +kernel) ?_
  refine fx_gi 946 118 5 80 (by decide +kernel) ?_
  try simp only [fu_app, fcy_app, Nat.reduceEqDiff, and_true, and_false, false_and, true_and, if_true, if_false, ite_true, ite_false, reduceIte, Int.reduceToNat, fx_simp0]
  refine fx_pi 130 16 5 83 (by decide +kernel) (by unfold fR; omega) ?_
  refine fx_la 0 84 (v := 130) (by decide +kernel) rfl (by decide +kernel) ?_
  refine fx_la 1 85 (v := 946) (by decide +kernel) rfl (by decide +kernel) ?_
  refine fx_gi 946 118 6 88 (by decide +kernel) ?_
  try simp only [fu_app, fcy_app, Nat.reduceEqDiff, and_true, and_false, false_and, true_and, if_true, if_false, ite_true, ite_false, reduceIte, Int.reduceToNat, fx_simp0]
  refine fx_pi 130 16 6 91 (by decide +kernel) (by unfold fR; omega) ?_
  refine fx_la 0 92 (v := 130) (by decide +kernel) rfl (by decide +kernel) ?_
  refine fx_la 1 93 (v := 946) (by decide +kernel) rfl (by decide +kernel) ?_
  refine fx_gi 946 118 7 96 (by decide +kernel) ?_
  try simp only [fu_app, fcy_app, Nat.reduceEqDiff, and_true, and_false, false_and, true_and, if_true, if_false, ite_true, ite_false, reduceIte, Int.reduceToNat, fx_simp0]
  refine fx_pi 130 16 7 99 (by decide +kernel) (by unfold fR; omega) ?_
  refine fx_la 0 100 (v := 130) (by decide +kernel) rfl (by decide +kernel) ?_
  refine fx_la 1 101 (v := 946) (by decide +kernel) rfl (by decide +kernel) ?_
  refine fx_gi 946 118 8 104 (by decide +kernel) ?_
  try simp only [fu_app, fcy_app, Nat.reduceEqDiff, and_true, and_false, false_and, true_and, if_true, if_false, ite_true, ite_false, reduceIte, Int.reduceToNat, fx_simp0]
  refine fx_pi 130 16 8 107 (by decide +kernel) (by unfold fR; omega) ?_
  refine fx_la 0 108 (v := 130) (by decide +kernel) rfl (by decide +kernel) ?_
  refine fx_la 1 109 (v := 946) (by decide +kernel) rfl (by decide +kernel) ?_
  refine fx_gi 946 118 9 112 (by decide +kernel) ?_
  try simp only [fu_app, fcy_app, Nat.reduceEqDiff, and_true, and_false, false_and, true_and, if_true, if_false, ite_true, ite_false, reduceIte, Int.reduceToNat, fx_simp0]
  refine fx_pi 130 16 9 115 (by decide +kernel) (by unfold fR; omega) ?_
  refine fx_la 0 116 (v := 130) (by decide +kernel) rfl (by decide +kernel) ?_
  refine fx_la 1 117 (v := 946) (by decide +kernel) rfl (by decide +kernel) ?_
  refine fx_gi 946 118 10 120 (by decide +kernel) ?_
  try simp only [fu_app, fcy_app, Nat.reduceEqDiff, and_true, and_false, false_and, true_and, if_true, if_false, ite_true, ite_false, reduceIte, Int.reduceToNat, fx_simp0]
  refine fx_pi 130 16 10 123 (by decide +kernel) (by unfold fR; omega) ?_
  refine fx_vret (by decide +kernel) ?_
  exact kq
theorem sp_crem_7 (hi : fop 10 (g 0 17 + 1) 12 = 7) (c0 : 0 ≤ g 0 16) (c1 : g 0 16 ≤ 12) (kq : Q 0 0 (cRem g 7)) : fx W r 1 152 0 [2] [] g Q := by
  have ec : cpT (fu g 0 17 7) 16 118 0 16 = g 0 16 := by rw [cpT_ne (by decide), fu_nj (by decide)]
  refine fx_la 0 1 (v := 2) (by decide +kernel) rfl (by decide +kernel) ?_
  refine fx_la 0 2 (v := 2) (by decide +kernel) rfl (by decide +kernel) ?_
  refine fx_gi 2 0 17 5 (by decide +kernel) ?_
  refine fx_ci (1) 6 (by decide +kernel) ?_
  refine fx_add 7 (by decide +kernel) rfl ?_
  refine fx_ci (12) 9 (by decide +kernel) ?_
  refine fx_bin 10 10 (by decide +kernel) rfl (fun _ => by decide) ?_
  refine fx_pi 2 0 17 13 (by decide +kernel) (by first | exact fop_R _ _ _ | (unfold fR; omega)) ?_
  rw [hi]
  refine fx_la 0 14 (v := 2) (by decide +kernel) rfl (by decide +kernel) ?_
  refine fx_gp 2 0 14 602 17 (by decide +kernel) ?_
  refine fx_la 0 18 (v := 2) (by decide +kernel) rfl (by decide +kernel) ?_
  refine fx_gi 2 0 17 21 (by decide +kernel) ?_
  try simp only [fu_app, fcy_app, Nat.reduceEqDiff, and_true, and_false, false_and, true_and, if_true, if_false, ite_true, ite_false, reduceIte, Int.reduceToNat, fx_simp0]
  refine fx_aal 602 75 7 946 22 (by decide +kernel) rfl ?_
  refine fx_la 0 23 (v := 2) (by decide +kernel) rfl (by decide +kernel) ?_
  refine fx_gp 2 0 3 130 26 (by decide +kernel) ?_
  refine fx_c2 63 21 29 0 [] (by decide +kernel) (by decide) (by decide) (by decide) rfl (by first | decide | omega) ?_
  refine sp_cpT_tp_7 (fK0 ?_)
  refine fx_la 0 30 (v := 2) (by decide +kernel) rfl (by decide +kernel) ?_
  refine fx_gi 2 0 16 33 (by decide +kernel) ?_
  try simp only [fu_app, fcy_app, Nat.reduceEqDiff, and_true, and_false, false_and, true_and, if_true, if_false, ite_true, ite_false, reduceIte, Int.reduceToNat, fx_simp0]
  rw [ec]
  refine fx_ci (12) 35 (by decide +kernel) ?_
  refine fx_ige 48 38 (by decide +kernel) (by unfold fR; omega) (by unfold fR; omega) (fun h35 => ?_) (fun h35 => ?_)
  · refine fx_vret (by decide +kernel) ?_
    unfold cRem at kq
    rw [if_neg (by omega)] at kq
    have s := fu_self (cpT (fu g 0 17 7) 16 118) 0 16
    rw [ec] at s
    rw [← s]
    exact kq
  · refine fx_la 0 39 (v := 2) (by decide +kernel) rfl (by decide +kernel) ?_
    refine fx_dup 40 (by decide +kernel) rfl (by decide) ?_
    refine fx_gi 2 0 16 43 (by decide +kernel) ?_
    try simp only [fu_app, fcy_app, Nat.reduceEqDiff, and_true, and_false, false_and, true_and, if_true, if_false, ite_true, ite_false, reduceIte, Int.reduceToNat, fx_simp0]
    rw [ec]
    refine fx_ci (1) 44 (by decide +kernel) ?_
    refine fx_add 45 (by decide +kernel) rfl ?_
    refine fx_pi 2 0 16 48 (by decide +kernel) (by unfold fR; omega) ?_
    refine fx_vret (by decide +kernel) ?_
    unfold cRem at kq
    rw [if_pos (by omega)] at kq
    exact kq
theorem sp_cund_7 (hi : g 0 17 = 7) (c0 : 1 ≤ g 0 16) (c1 : g 0 16 ≤ 12) (kq : Q 1 (fI 1) (cUnd g 7)) : fx W r 1 62 0 [2] [] g Q := by
  have ec : cpT g 118 16 0 16 = g 0 16 := cpT_ne (by decide)
  have en : cpT g 118 16 0 17 = 7 := (cpT_ne (by decide)).trans hi
  refine fx_la 0 1 (v := 2) (by decide +kernel) rfl (by decide +kernel) ?_
  refine fx_gi 2 0 16 4 (by decide +kernel) ?_
  refine fx_zne 9 7 (by decide +kernel) (by first | exact hg 0 16 (by decide) (by decide +kernel) (by decide +kernel) | (unfold fR; omega)) (fun h4 => ?_) (fun h4 => ?_)
  · refine fx_la 0 10 (v := 2) (by decide +kernel) rfl (by decide +kernel) ?_
    refine fx_gp 2 0 3 130 13 (by decide +kernel) ?_
    refine fx_la 0 14 (v := 2) (by decide +kernel) rfl (by decide +kernel) ?_
    refine fx_gp 2 0 14 602 17 (by decide +kernel) ?_
    refine fx_la 0 18 (v := 2) (by decide +kernel) rfl (by decide +kernel) ?_
    refine fx_gi 2 0 17 21 (by decide +kernel) ?_
    rw [hi]
    refine fx_aal 602 75 7 946 22 (by decide +kernel) rfl ?_
    refine fx_c2 63 21 25 0 [] (by decide +kernel) (by decide) (by decide) (by decide) rfl (by first | decide | omega) ?_
    refine sp_cpT_pt_7 (fK0 ?_)
    refine fx_la 0 26 (v := 2) (by decide +kernel) rfl (by decide +kernel) ?_
    refine fx_la 0 27 (v := 2) (by decide +kernel) rfl (by decide +kernel) ?_
    refine fx_gi 2 0 17 30 (by decide +kernel) ?_
    try simp only [fu_app, fcy_app, Nat.reduceEqDiff, and_true, and_false, false_and, true_and, if_true, if_false, ite_true, ite_false, reduceIte, Int.reduceToNat, fx_simp0]
    rw [en]
    refine fx_ci (12) 32 (by decide +kernel) ?_
    refine fx_add 33 (by decide +kernel) rfl ?_
    refine fx_ci (1) 34 (by decide +kernel) ?_
    refine fx_sub 35 (by decide +kernel) rfl ?_
    refine fx_ci (12) 37 (by decide +kernel) ?_
    refine fx_bin 10 38 (by decide +kernel) rfl (fun _ => by decide) ?_
    refine fx_pi 2 0 17 41 (by decide +kernel) (by first | exact fop_R _ _ _ | (unfold fR; omega)) ?_
    rw [show fop 10 ((7 : Int) + 12 - 1) 12 = ((6 : Nat) : Int) from fop_rem12 18 (by decide)]
    refine fx_la 0 42 (v := 2) (by decide +kernel) rfl (by decide +kernel) ?_
    refine fx_dup 43 (by decide +kernel) rfl (by decide) ?_
    refine fx_gi 2 0 16 46 (by decide +kernel) ?_
    try simp only [fu_app, fcy_app, Nat.reduceEqDiff, and_true, and_false, false_and, true_and, if_true, if_false, ite_true, ite_false, reduceIte, Int.reduceToNat, fx_simp0]
    rw [ec]
    refine fx_ci (1) 47 (by decide +kernel) ?_
    refine fx_sub 48 (by decide +kernel) rfl ?_
    refine fx_pi 2 0 16 51 (by decide +kernel) (by unfold fR; omega) ?_
    refine fx_ci (1) 52 (by decide +kernel) ?_
    refine fx_retb (by decide +kernel) (by first | exact Or.inl rfl | exact Or.inr rfl | omega) ?_
    exact kq
  · refine fx_ci (0) 8 (by decide +kernel) ?_
    refine fx_retb (by decide +kernel) (by first | exact Or.inl rfl | exact Or.inr rfl | omega) ?_
    exfalso; omega
theorem sp_cpT_tp_8 (kq : Q 0 0 (cpT g 16 124)) : fx W r 0 63 0 [994, 130] [] g Q := by
  refine fx_rg (fun hg => ?_)
  have v5 := hg 16 5 (by decide) (by decide +kernel) (by decide +kernel)
  have v6 := hg 16 6 (by decide) (by decide +kernel) (by decide +kernel)
  have v7 := hg 16 7 (by decide) (by decide +kernel) (by decide +kernel)
  have v8 := hg 16 8 (by decide) (by decide +kernel) (by decide +kernel)
  have v9 := hg 16 9 (by decide) (by decide +kernel) (by decide +kernel)
  have v10 := hg 16 10 (by decide) (by decide +kernel) (by decide +kernel)
  unfold fR at v5 v6 v7 v8 v9 v10
  refine fx_la 1 1 (v := 130) (by decide +kernel) rfl (by decide +kernel) ?_
  refine fx_gp 130 16 0 138 4 (by decide +kernel) ?_
  refine fx_ci (0) 5 (by decide +kernel) ?_
  refine fx_la 0 6 (v := 994) (by decide +kernel) rfl (by decide +kernel) ?_
  refine fx_gp 994 124 0 1002 9 (by decide +kernel) ?_
  refine fx_ci (0) 10 (by decide +kernel) ?_
  refine fx_ci (8) 12 (by decide +kernel) ?_
  refine fx_cpy 138 17 1002 125 8 15 (by decide +kernel) rfl ?_
  refine fx_la 1 16 (v := 130) (by decide +kernel) rfl (by decide +kernel) ?_
  refine fx_gp 130 16 1 146 19 (by decide +kernel) ?_
  refine fx_ci (0) 20 (by decide +kernel) ?_
  refine fx_la 0 21 (v := 994) (by decide +kernel) rfl (by decide +kernel) ?_
  refine fx_gp 994 124 1 1010 24 (by decide +kernel) ?_
  refine fx_ci (0) 25 (by decide +kernel) ?_
  refine fx_ci (8) 27 (by decide +kernel) ?_
  refine fx_cpy 146 18 1010 126 8 30 (by decide +kernel) rfl ?_
  refine fx_la 1 31 (v := 130) (by decide +kernel) rfl (by decide +kernel) ?_
  refine fx_gp 130 16 2 154 34 (by decide +kernel) ?_
  refine fx_ci (0) 35 (by decide +kernel) ?_
  refine fx_la 0 36 (v := 994) (by decide +kernel) rfl (by decide +kernel) ?_
  refine fx_gp 994 124 2 1018 39 (by decide +kernel) ?_
  refine fx_ci (0) 40 (by decide +kernel) ?_
  refine fx_ci (8) 42 (by decide +kernel) ?_
  refine fx_cpy 154 19 1018 127 8 45 (by decide +kernel) rfl ?_
  refine fx_la 1 46 (v := 130) (by decide +kernel) rfl (by decide +kernel) ?_
  refine fx_gp 130 16 3 162 49 (by decide +kernel) ?_
  refine fx_ci (0) 50 (by decide +kernel) ?_
  refine fx_la 0 51 (v := 994) (by decide +kernel) rfl (by decide +kernel) ?_
  refine fx_gp 994 124 3 1026 54 (by decide +kernel) ?_
  refine fx_ci (0) 55 (by decide +kernel) ?_
  refine fx_ci (8) 57 (by decide +kernel) ?_
  refine fx_cpy 162 20 1026 128 8 60 (by decide +kernel) rfl ?_
  refine fx_la 1 61 (v := 130) (by decide +kernel) rfl (by decide +kernel) ?_
  refine fx_gp 130 16 4 170 64 (by decide +kernel) ?_
  refine fx_ci (0) 65 (by decide +kernel) ?_
  refine fx_la 0 66 (v := 994) (by decide +kernel) rfl (by decide +kernel) ?_
  refine fx_gp 994 124 4 1034 69 (by decide +kernel) ?_
  refine fx_ci (0) 70 (by decide +kernel) ?_
  refine fx_ci (60) 72 (by decide +kernel) ?_
  refine fx_cpy 170 21 1034 129 60 75 (by decide +kernel) rfl ?_
  refine fx_la 0 76 (v := 994) (by decide +kernel) rfl (by decide +kernel) ?_
  refine fx_la 1 77 (v := 130) (by decide +kernel) rfl (by decide +kernel) ?_
  refine fx_gi 130 16 5 80 (by decide +kernel) ?_
  try simp only [fu_app, fcy_app, Nat.reduceEqDiff, and_true, and_false, false_and, true_and, if_true, if_false, ite_true, ite_false, reduceIte, Int.reduceToNat, fx_simp0]
  refine fx_pi 994 124 5 83 (by decide +kernel) (by unfold fR; omega) ?_
  refine fx_la 0 84 (v := 994) (by decide +kernel) rfl (by decide +kernel) ?_
  refine fx_la 1 85 (v := 130) (by decide +kernel) rfl (by decide +kernel) ?_
  refine fx_gi 130 16 6 88 (by decide +kernel) ?_
  try simp only [fu_app, fcy_app, Nat.reduceEqDiff, and_true, and_false, false_and, true_and, if_true, if_false, ite_true, ite_false, reduceIte, Int.reduceToNat, fx_simp0]
  refine fx_pi 994 124 6 91 (by decide +kernel) (by unfold fR; omega) ?_
  refine fx_la 0 92 (v := 994) (by decide +kernel) rfl (by decide +kernel) ?_
  refine fx_la 1 93 (v := 130) (by decide +kernel) rfl (by decide +kernel) ?_
  refine fx_gi 130 16 7 96 (by decide +kernel) ?_
  try simp only [fu_app, fcy_app, Nat.reduceEqDiff, and_true, and_false, false_and, true_and, if_true, if_false, ite_true, ite_false, reduceIte, Int.reduceToNat, fx_simp0]
  refine fx_pi 994 124 7 99 (by decide +kernel) (by unfold fR; omega) ?_
  refine fx_la 0 100 (v := 994) (by decide +kernel) rfl (by decide +kernel) ?_
  refine fx_la 1 101 (v := 130) (by decide +kernel) rfl (by decide +kernel) ?_
  refine fx_gi 130 16 8 104 (by decide +kernel) ?_
  try simp only [fu_app, fcy_app, Nat.reduceEqDiff, and_true, and_false, false_and, true_and, if_true, if_false, ite_true, ite_false, reduceIte, Int.reduceToNat, fx_simp0]
  refine fx_pi 994 124 8 107 (by decide +kernel) (by unfold fR; omega) ?_
  refine fx_la 0 108 (v := 994) (by decide +kernel) rfl (by decide +kernel) ?_
  refine fx_la 1 109 (v := 130) (by decide +kernel) rfl (by decide +kernel) ?_
  refine fx_gi 130 16 9 112 (by decide +kernel) ?_
  try simp only [fu_app, fcy_app, Nat.reduceEqDiff, and_true, and_false, false_and, true_and, if_true, if_false, ite_true, ite_false, reduceIte, Int.reduceToNat, fx_simp0]
  refine fx_pi 994 124 9 115 (by decide +kernel) (by unfold fR; omega) ?_
  refine fx_la 0 116 (v := 994) (by decide +kernel) rfl (by decide +kernel) ?_
  refine fx_la 1 117 (v := 130) (by decide +kernel) rfl (by decide +kernel) ?_
  refine fx_gi 130 16 10 120 (by decide +kernel) ?_
  try simp only [fu_app, fcy_app, Nat.reduceEqDiff, and_true, and_false, false_and, true_and, if_true, if_false, ite_true, ite_false, reduceIte, Int.reduceToNat, fx_simp0]
  refine fx_pi 994 124 10 123 (by decide +kernel) (by unfold fR; omega) ?_
  refine fx_vret (by decide +kernel) ?_
  exact kq
theorem sp_cpT_pt_8 (kq : Q 0 0 (cpT g 124 16)) : fx W r 0 63 0 [130, 994] [] g Q := by
  refine fx_rg (fun hg => ?_)
  have v5 := hg 124 5 (by decide) (by decide +kernel) (by decide +kernel)
  have v6 := hg 124 6 (by decide) (by decide +kernel) (by decide +kernel)
  have v7 := hg 124 7 (by decide) (by decide +kernel) (by decide +kernel)
  have v8 := hg 124 8 (by decide) (by decide +kernel) (by decide +kernel)
  have v9 := hg 124 9 (by decide) (by decide +kernel) (by decide +kernel)
  have v10 := hg 124 10 (by decide) (by decide +kernel) (by decide +kernel)
  unfold fR at v5 v6 v7 v8 v9 v10
  refine fx_la 1 1 (v := 994) (by decide +kernel) rfl (by decide +kernel) ?_
  refine fx_gp 994 124 0 1002 4 (by decide +kernel) ?_
  refine fx_ci (0) 5 (by decide +kernel) ?_
  refine fx_la 0 6 (v := 130) (by decide +kernel) rfl (by decide +kernel) ?_
  refine fx_gp 130 16 0 138 9 (by decide +kernel) ?_
  refine fx_ci (0) 10 (by decide +kernel) ?_
  refine fx_ci (8) 12 (by decide +kernel) ?_
  refine fx_cpy 1002 125 138 17 8 15 (by decide +kernel) rfl ?_
  refine fx_la 1 16 (v := 994) (by decide +kernel) rfl (by decide +kernel) ?_
  refine fx_gp 994 124 1 1010 19 (by decide +kernel) ?_
  refine fx_ci (0) 20 (by decide +kernel) ?_
  refine fx_la 0 21 (v := 130) (by decide +kernel) rfl (by decide +kernel) ?_
  refine fx_gp 130 16 1 146 24 (by decide +kernel) ?_
  refine fx_ci (0) 25 (by decide +kernel) ?_
  refine fx_ci (8) 27 (by decide +kernel) ?_
  refine fx_cpy 1010 126 146 18 8 30 (by decide +kernel) rfl ?_
  refine fx_la 1 31 (v := 994) (by decide +kernel) rfl (by decide +kernel) ?_
  refine fx_gp 994 124 2 1018 34 (by decide +kernel) ?_
  refine fx_ci (0) 35 (by decide +kernel) ?_
  refine fx_la 0 36 (v := 130) (by decide +kernel) rfl (by decide +kernel) ?_
  refine fx_gp 130 16 2 154 39 (by decide +kernel) ?_
  refine fx_ci (0) 40 (by decide +kernel) ?_
  refine fx_ci (8) 42 (by decide +kernel) ?_
  refine fx_cpy 1018 127 154 19 8 45 (by decide +kernel) rfl ?_
  refine fx_la 1 46 (v := 994) (by decide +kernel) rfl (by decide +kernel) ?_
  refine fx_gp 994 124 3 1026 49 (by decide +kernel) ?_
  refine fx_ci (0) 50 (by decide +kernel) ?_
  refine fx_la 0 51 (v := 130) (by decide +kernel) rfl (by decide +kernel) ?_
  refine fx_gp 130 16 3 162 54 (by decide +kernel) ?_
  refine fx_ci (0) 55 (by decide +kernel) ?_
  refine fx_ci (8) 57 (by decide +kernel) ?_
  refine fx_cpy 1026 128 162 20 8 60 (by decide +kernel) rfl ?_
  refine fx_la 1 61 (v := 994) (by decide +kernel) rfl (by decide +kernel) ?_
  refine fx_gp 994 124 4 1034 64 (by decide +kernel) ?_
  refine fx_ci (0) 65 (by decide +kernel) ?_
  refine fx_la 0 66 (v := 130) (by decide +kernel) rfl (by decide +kernel) ?_
  refine fx_gp 130 16 4 170 69 (by decide +kernel) ?_
  refine fx_ci (0) 70 (by decide +kernel) ?_
  refine fx_ci (60) 72 (by decide +kernel) ?_
  refine fx_cpy 1034 129 170 21 60 75 (by decide +kernel) rfl ?_
  refine fx_la 0 76 (v := 130) (by decide +kernel) rfl (by decide +kernel) ?_
  refine fx_la 1 77 (v := 994) (by decide +kernel) rfl (by decide +kernel) ?_
  refine fx_gi 994 124 5 80 (by decide +kernel) ?_
  try simp only [fu_app, fcy_app, Nat.reduceEqDiff, and_true, and_false, false_and, true_and, if_true, if_false, ite_true, ite_false, reduceIte, Int.reduceToNat, fx_simp0]
  refine fx_pi 130 16 5 83 (by decide +kernel) (by unfold fR; omega) ?_
  refine fx_la 0 84 (v := 130) (by decide +kernel) rfl (by decide +kernel) ?_
  refine fx_la 1 85 (v := 994) (by decide +kernel) rfl (by decide +kernel) ?_
  refine fx_gi 994 124 6 88 (by decide +kernel) ?_
  try simp only [fu_app, fcy_app, Nat.reduceEqDiff, and_true, and_false, false_and, true_and, if_true, if_false, ite_true, ite_false, reduceIte, Int.reduceToNat, fx_simp0]
  refine fx_pi 130 16 6 91 (by decide +kernel) (by unfold fR; omega) ?_
  refine fx_la 0 92 (v := 130) (by decide +kernel) rfl (by decide +kernel) ?_
  refine fx_la 1 93 (v := 994) (by decide +kernel) rfl (by decide +kernel) ?_
  refine fx_gi 994 124 7 96 (by decide +kernel) ?_
  try simp only [fu_app, fcy_app, Nat.reduceEqDiff, and_true, and_false, false_and, true_and, if_true, if_false, ite_true, ite_false, reduceIte, Int.reduceToNat, fx_simp0]
  refine fx_pi 130 16 7 99 (by decide +kernel) (by unfold fR; omega) ?_
  refine fx_la 0 100 (v := 130) (by decide +kernel) rfl (by decide +kernel) ?_
  refine fx_la 1 101 (v := 994) (by decide +kernel) rfl (by decide +kernel) ?_
  refine fx_gi 994 124 8 104 (by decide +kernel) ?_
  try simp only [fu_app, fcy_app, Nat.reduceEqDiff, and_true, and_false, false_and, true_and, if_true, if_false, ite_true, ite_false, reduceIte, Int.reduceToNat, fx_simp0]
  refine fx_pi 130 16 8 107 (by decide +kernel) (by unfold fR; omega) ?_
  refine fx_la 0 108 (v := 130) (by decide +kernel) rfl (by decide +kernel) ?_
  refine fx_la 1 109 (v := 994) (by decide +kernel) rfl (by decide +kernel) ?_
  refine fx_gi 994 124 9 112 (by decide +kernel) ?_
  try simp only [fu_app, fcy_app, Nat.reduceEqDiff, and_true, and_false, false_and, true_and, if_true, if_false, ite_true, ite_false, reduceIte, Int.reduceToNat, fx_simp0]
  refine fx_pi 130 16 9 115 (by decide +kernel) (by unfold fR; omega) ?_
  refine fx_la 0 116 (v := 130) (by decide +kernel) rfl (by decide +kernel) ?_
  refine fx_la 1 117 (v := 994) (by decide +kernel) rfl (by decide +kernel) ?_
  refine fx_gi 994 124 10 120 (by decide +kernel) ?_
  try simp only [fu_app, fcy_app, Nat.reduceEqDiff, and_true, and_false, false_and, true_and, if_true, if_false, ite_true, ite_false, reduceIte, Int.reduceToNat, fx_simp0]
  refine fx_pi 130 16 10 123 (by decide +kernel) (by unfold fR; omega) ?_
  refine fx_vret (by decide +kernel) ?_
  exact kq
theorem sp_crem_8 (hi : fop 10 (g 0 17 + 1) 12 = 8) (c0 : 0 ≤ g 0 16) (c1 : g 0 16 ≤ 12) (kq : Q 0 0 (cRem g 8)) : fx W r 1 152 0 [2] [] g Q := by
  have ec : cpT (fu g 0 17 8) 16 124 0 16 = g 0 16 := by rw [cpT_ne (by decide), fu_nj (by decide)]
  refine fx_la 0 1 (v := 2) (by decide +kernel) rfl (by decide +kernel) ?_
  refine fx_la 0 2 (v := 2) (by decide +kernel) rfl (by decide +kernel) ?_
  refine fx_gi 2 0 17 5 (by decide +kernel) ?_
  refine fx_ci (1) 6 (by decide +kernel) ?_
  refine fx_add 7 (by decide +kernel) rfl ?_
  refine fx_ci (12) 9 (by decide +kernel) ?_
  refine fx_bin 10 10 (by decide +kernel) rfl (fun _ => by decide) ?_
  refine fx_pi 2 0 17 13 (by decide +kernel) (by first | exact fop_R _ _ _ | (unfold fR; omega)) ?_
  rw [hi]
  refine fx_la 0 14 (v := 2) (by decide +kernel) rfl (by decide +kernel) ?_
  refine fx_gp 2 0 14 602 17 (by decide +kernel) ?_
  refine fx_la 0 18 (v := 2) (by decide +kernel) rfl (by decide +kernel) ?_
  refine fx_gi 2 0 17 21 (by decide +kernel) ?_
  try simp only [fu_app, fcy_app, Nat.reduceEqDiff, and_true, and_false, false_and, true_and, if_true, if_false, ite_true, ite_false, reduceIte, Int.reduceToNat, fx_simp0]
  refine fx_aal 602 75 8 994 22 (by decide +kernel) rfl ?_
  refine fx_la 0 23 (v := 2) (by decide +kernel) rfl (by decide +kernel) ?_
  refine fx_gp 2 0 3 130 26 (by decide +kernel) ?_
  refine fx_c2 63 21 29 0 [] (by decide +kernel) (by decide) (by decide) (by decide) rfl (by first | decide | omega) ?_
  refine sp_cpT_tp_8 (fK0 ?_)
  refine fx_la 0 30 (v := 2) (by decide +kernel) rfl (by decide +kernel) ?_
  refine fx_gi 2 0 16 33 (by decide +kernel) ?_
  try simp only [fu_app, fcy_app, Nat.reduceEqDiff, and_true, and_false, false_and, true_and, if_true, if_false, ite_true, ite_false, reduceIte, Int.reduceToNat, fx_simp0]
  rw [ec]
  refine fx_ci (12) 35 (by decide +kernel) ?_
  refine fx_ige 48 38 (by decide +kernel) (by unfold fR; omega) (by unfold fR; omega) (fun h35 => ?_) (fun h35 => ?_)
  · refine fx_vret (by decide +kernel) ?_
    unfold cRem at kq
    rw [if_neg (by omega)] at kq
    have s := fu_self (cpT (fu g 0 17 8) 16 124) 0 16
    rw [ec] at s
    rw [← s]
    exact kq
  · refine fx_la 0 39 (v := 2) (by decide +kernel) rfl (by decide +kernel) ?_
    refine fx_dup 40 (by decide +kernel) rfl (by decide) ?_
    refine fx_gi 2 0 16 43 (by decide +kernel) ?_
    try simp only [fu_app, fcy_app, Nat.reduceEqDiff, and_true, and_false, false_and, true_and, if_true, if_false, ite_true, ite_false, reduceIte, Int.reduceToNat, fx_simp0]
    rw [ec]
    refine fx_ci (1) 44 (by decide +kernel) ?_
    refine fx_add 45 (by decide +kernel) rfl ?_
    refine fx_pi 2 0 16 48 (by decide +kernel) (by unfold fR; omega) ?_
    refine fx_vret (by decide +kernel) ?_
    unfold cRem at kq
    rw [if_pos (by omega)] at kq
    exact kq
theorem sp_cund_8 (hi : g 0 17 = 8) (c0 : 1 ≤ g 0 16) (c1 : g 0 16 ≤ 12) (kq : Q 1 (fI 1) (cUnd g 8)) : fx W r 1 62 0 [2] [] g Q := by
  have ec : cpT g 124 16 0 16 = g 0 16 := cpT_ne (by decide)
  have en : cpT g 124 16 0 17 = 8 := (cpT_ne (by decide)).trans hi
  refine fx_la 0 1 (v := 2) (by decide +kernel) rfl (by decide +kernel) ?_
  refine fx_gi 2 0 16 4 (by decide +kernel) ?_
  refine fx_zne 9 7 (by decide +kernel) (by first | exact hg 0 16 (by decide) (by decide +kernel) (by decide +kernel) | (unfold fR; omega)) (fun h4 => ?_) (fun h4 => ?_)
  · refine fx_la 0 10 (v := 2) (by decide +kernel) rfl (by decide +kernel) ?_
    refine fx_gp 2 0 3 130 13 (by decide +kernel) ?_
    refine fx_la 0 14 (v := 2) (by decide +kernel) rfl (by decide +kernel) ?_
    refine fx_gp 2 0 14 602 17 (by decide +kernel) ?_
    refine fx_la 0 18 (v := 2) (by decide +kernel) rfl (by decide +kernel) ?_
    refine fx_gi 2 0 17 21 (by decide +kernel) ?_
    rw [hi]
    refine fx_aal 602 75 8 994 22 (by decide +kernel) rfl ?_
    refine fx_c2 63 21 25 0 [] (by decide +kernel) (by decide) (by decide) (by decide) rfl (by first | decide | omega) ?_
    refine sp_cpT_pt_8 (fK0 ?_)
    refine fx_la 0 26 (v := 2) (by decide +kernel) rfl (by decide +kernel) ?_
    refine fx_la 0 27 (v := 2) (by decide +kernel) rfl (by decide +kernel) ?_
    refine fx_gi 2 0 17 30 (by decide +kernel) ?_
    try simp only [fu_app, fcy_app, Nat.reduceEqDiff, and_true, and_false, false_and, true_and, if_true, if_false, ite_true, ite_false, reduceIte, Int.reduceToNat, fx_simp0]
    rw [en]
    refine fx_ci (12) 32 (by decide +kernel) ?_
    refine fx_add 33 (by decide +kernel) rfl ?_
    refine fx_ci (1) 34 (by decide +kernel) ?_
    refine fx_sub 35 (by decide +kernel) rfl ?_
    refine fx_ci (12) 37 (by decide +kernel) ?_
    refine fx_bin 10 38 (by decide +kernel) rfl (fun _ => by decide) ?_
    refine fx_pi 2 0 17 41 (by decide +kernel) (by first | exact fop_R _ _ _ | (unfold fR; omega)) ?_
    rw [show fop 10 ((8 : Int) + 12 - 1) 12 = ((7 : Nat) : Int) from fop_rem12 19 (by decide)]
    refine fx_la 0 42 (v := 2) (by decide +kernel) rfl (by decide +kernel) ?_
    refine fx_dup 43 (by decide +kernel) rfl (by decide) ?_
    refine fx_gi 2 0 16 46 (by decide +kernel) ?_
    try simp only [fu_app, fcy_app, Nat.reduceEqDiff, and_true, and_false, false_and, true_and, if_true, if_false, ite_true, ite_false, reduceIte, Int.reduceToNat, fx_simp0]
    rw [ec]
    refine fx_ci (1) 47 (by decide +kernel) ?_
    refine fx_sub 48 (by decide +kernel) rfl ?_
    refine fx_pi 2 0 16 51 (by decide +kernel) (by unfold fR; omega) ?_
    refine fx_ci (1) 52 (by decide +kernel) ?_
    refine fx_retb (by decide +kernel) (by first | exact Or.inl rfl | exact Or.inr rfl | omega) ?_
    exact kq
  · refine fx_ci (0) 8 (by decide +kernel) ?_
    refine fx_retb (by decide +kernel) (by first | exact Or.inl rfl | exact Or.inr rfl | omega) ?_
    exfalso; omega
theorem sp_cpT_tp_9 (kq : Q 0 0 (cpT g 16 130)) : fx W r 0 63 0 [1042, 130] [] g Q := by
  refine fx_rg (fun hg => ?_)
  have v5 := hg 16 5 (by decide) (by decide +kernel) (by decide +kernel)
  have v6 := hg 16 6 (by decide) (by decide +kernel) (by decide +kernel)
  have v7 := hg 16 7 (by decide) (by decide +kernel) (by decide +kernel)
  have v8 := hg 16 8 (by decide) (by decide +kernel) (by decide +kernel)
  have v9 := hg 16 9 (by decide) (by decide +kernel) (by decide +kernel)
  have v10 := hg 16 10 (by decide) (by decide +kernel) (by decide +kernel)
  unfold fR at v5 v6 v7 v8 v9 v10
  refine fx_la 1 1 (v := 130) (by decide +kernel) rfl (by decide +kernel) ?_
  refine fx_gp 130 16 0 138 4 (by decide +kernel) ?_
  refine fx_ci (0) 5 (by decide +kernel) ?_
  refine fx_la 0 6 (v := 1042) (by decide +kernel) rfl (by decide +kernel) ?_
  refine fx_gp 1042 130 0 1050 9 (by decide +kernel) ?_
  refine fx_ci (0) 10 (by decide +kernel) ?_
  refine fx_ci (8) 12 (by decide +kernel) ?_
  refine fx_cpy 138 17 1050 131 8 15 (by decide +kernel) rfl ?_
  refine fx_la 1 16 (v := 130) (by decide +kernel) rfl (by decide +kernel) ?_
  refine fx_gp 130 16 1 146 19 (by decide +kernel) ?_
  refine fx_ci (0) 20 (by decide +kernel) ?_
  refine fx_la 0 21 (v := 1042) (by decide +kernel) rfl (by decide +kernel) ?_
  refine fx_gp 1042 130 1 1058 24 (by decide +kernel) ?_
  refine fx_ci (0) 25 (by decide +kernel) ?_
  refine fx_ci (8) 27 (by decide +kernel) ?_
  refine fx_cpy 146 18 1058 132 8 30 (by decide +kernel) rfl ?_
  refine fx_la 1 31 (v := 130) (by decide +kernel) rfl (by decide +kernel) ?_
  refine fx_gp 130 16 2 154 34 (by decide +kernel) ?_
  refine fx_ci (0) 35 (by decide +kernel) ?_
  refine fx_la 0 36 (v := 1042) (by decide +kernel) rfl (by decide +kernel) ?_
  refine fx_gp 1042 130 2 1066 39 (by decide +kernel) ?_
  refine fx_ci (0) 40 (by decide +kernel) ?_
  refine fx_ci (8) 42 (by decide +kernel) ?_
  refine fx_cpy 154 19 1066 133 8 45 (by decide +kernel) rfl ?_
  refine fx_la 1 46 (v := 130) (by decide +kernel) rfl (by decide +kernel) ?_
  refine fx_gp 130 16 3 162 49 (by decide +kernel) ?_
  refine fx_ci (0) 50 (by decide +kernel) ?_
  refine fx_la 0 51 (v := 1042) (by decide +kernel) rfl (by decide +kernel) ?_
  refine fx_gp 1042 130 3 1074 54 (by decide +kernel) ?_
  refine fx_ci (0) 55 (by decide +kernel) ?_
  refine fx_ci (8) 57 (by decide +kernel) ?_
  refine fx_cpy 162 20 1074 134 8 60 (by decide +kernel) rfl ?_
  refine fx_la 1 61 (v := 130) (by decide +kernel) rfl (by decide +kernel) ?_
  refine fx_gp 130 16 4 170 64 (by decide +kernel) ?_
  refine fx_ci (0) 65 (by decide +kernel) ?_
  refine fx_la 0 66 (v := 1042) (by decide +kernel) rfl (by decide +kernel) ?_
  refine fx_gp 1042 130 4 1082 69 (by decide +kernel) ?_
  refine fx_ci (0) 70 (by decide +kernel) ?_
  refine fx_ci (60) 72 (by decide +kernel) ?_
  refine fx_cpy 170 21 1082 135 60 75 (by decide +kernel) rfl ?_
  refine fx_la 0 76 (v := 1042) (by decide +kernel) rfl (by decide +kernel) ?_
  refine fx_la 1 77 (v := 130) (by decide +kernel) rfl (by decide +kernel) ?_
  refine fx_gi 130 16 5 80 (by decide +kernel) ?_
  try simp only [fu_app, fcy_app, Nat.reduceEqDiff, and_true, and_false, false_and, true_and, if_true, if_false, ite_true, ite_false, reduceIte, Int.reduceToNat, fx_simp0]
  refine fx_pi 1042 130 5 83 (by decide +kernel) (by unfold fR; omega) ?_
  refine fx_la 0 84 (v := 1042) (by decide +kernel) rfl (by decide +kernel) ?_
  refine fx_la 1 85 (v := 130) (by decide +kernel) rfl (by decide +kernel) ?_
  refine fx_gi 130 16 6 88 (by decide +kernel) ?_
  try simp only [fu_app, fcy_app, Nat.reduceEqDiff, and_true, and_false, false_and, true_and, if_true, if_false, ite_true, ite_false, reduceIte, Int.reduceToNat, fx_simp0]
  refine fx_pi 1042 130 6 91 (by decide +kernel) (by unfold fR; omega) ?_
  refine fx_la 0 92 (v := 1042) (by decide +kernel) rfl (by decide +kernel) ?_
  refine fx_la 1 93 (v := 130) (by decide +kernel) rfl (by decide +kernel) ?_
  refine fx_gi 130 16 7 96 (by decide +kernel) ?_
  try simp only [fu_app, fcy_app, Nat.reduceEqDiff, and_true, and_false, false_and, true_and, if_true, if_false, ite_true, ite_false, reduceIte, Int.reduceToNat, fx_simp0]
  refine fx_pi 1042 130 7 99 (by decide +kernel) (by unfold fR; omega) ?_
  refine fx_la 0 100 (v := 1042) (by decide +kernel) rfl (by decide +kernel) ?_
  refine fx_la 1 101 (v := 130) (by decide +kernel) rfl (by decide +kernel) ?_
  refine fx_gi 130 16 8 104 (by decide +kernel) ?_
  try simp only [fu_app, fcy_app, Nat.reduceEqDiff, and_true, and_false, false_and, true_and, if_true, if_false, ite_true, ite_false, reduceIte, Int.reduceToNat, fx_simp0]
  refine fx_pi 1042 130 8 107 (by decide +kernel) (by unfold fR; omega) ?_
  refine fx_la 0 108 (v := 1042) (by decide +kernel) rfl (by decide +kernel) ?_
  refine fx_la 1 109 (v := 130) (by decide +kernel) rfl (by decide +kernel) ?_
  refine fx_gi 130 16 9 112 (by decide +kernel) ?_
  try simp only [fu_app, fcy_app, Nat.reduceEqDiff, and_true, and_false, false_and, true_and, if_true, if_false, ite_true, ite_false, reduceIte, Int.reduceToNat, fx_simp0]
  refine fx_pi 1042 130 9 115 (by decide +kernel) (by unfold fR; omega) ?_
  refine fx_la 0 116 (v := 1042) (by decide +kernel) rfl (by decide +kernel) ?_
  refine fx_la 1 117 (v := 130) (by decide +kernel) rfl (by decide +kernel) ?_
  refine fx_gi 130 16 10 120 (by decide +kernel) ?_
  try simp only [fu_app, fcy_app, Nat.reduceEqDiff, and_true, and_false, false_and, true_and, if_true, if_false, ite_true, ite_false, reduceIte, Int.reduceToNat, fx_simp0]
  refine fx_pi 1042 130 10 123 (by decide +kernel) (by unfold fR; omega) ?_
  refine fx_vret (by decide +kernel) ?_
  exact kq
theorem sp_cpT_pt_9 (kq : Q 0 0 (cpT g 130 16)) : fx W r 0 63 0 [130, 1042] [] g Q := by
  refine fx_rg (fun hg => ?_)
  have v5 := hg 130 5 (by decide) (by decide +kernel) (by decide +kernel)
  have v6 := hg 130 6 (by decide) (by decide +kernel) (by decide +kernel)
  have v7 := hg 130 7 (by decide) (by decide +kernel) (by decide +kernel)
  have v8 := hg 130 8 (by decide) (by decide +kernel) (by decide +kernel)
  have v9 := hg 130 9 (by decide) (by decide +kernel) (by decide +kernel)
  have v10 := hg 130 10 (by decide) (by decide +kernel) (by decide +kernel)
  unfold fR at v5 v6 v7 v8 v9 v10
  refine fx_la 1 1 (v := 1042) (by decide +kernel) rfl (by decide +kernel) ?_
  refine fx_gp 1042 130 0 1050 4 (by decide +kernel) ?_
  refine fx_ci (0) 5 (by decide +kernel) ?_
  refine fx_la 0 6 (v := 130) (by decide +kernel) rfl (by decide +kernel) ?_
  refine fx_gp 130 16 0 138 9 (by decide +kernel) ?_
  refine fx_ci (0) 10 (by decide +kernel) ?_
  refine fx_ci (8) 12 (by decide +kernel) ?_
  refine fx_cpy 1050 131 138 17 8 15 (by decide +kernel) rfl ?_
  refine fx_la 1 16 (v := 1042) (by decide +kernel) rfl (by decide +kernel) ?_
  refine fx_gp 1042 130 1 1058 19 (by decide +kernel) ?_
  refine fx_ci (0) 20 (by decide +kernel) ?_
  refine fx_la 0 21 (v := 130) (by decide +kernel) rfl (by decide +kernel) ?_
  refine fx_gp 130 16 1 146 24 (by decide +kernel) ?_
  refine fx_ci (0) 25 (by decide +kernel) ?_
  refine fx_ci (8) 27 (by decide +kernel) ?_
  refine fx_cpy 1058 132 146 18 8 30 (by decide +kernel) rfl ?_
  refine fx_la 1 31 (v := 1042) (by decide +kernel) rfl (by decide +kernel) ?_
  refine fx_gp 1042 130 2 1066 34 (by decide +kernel) ?_
  refine fx_ci (0) 35 (by decide +kernel) ?_
  refine fx_la 0 36 (v := 130) (by decide +kernel) rfl (by decide +kernel) ?_
  refine fx_gp 130 16 2 154 39 (by decide +kernel) ?_
  refine fx_ci (0) 40 (by decide +kernel) ?_
  refine fx_ci (8) 42 (by decide +kernel) ?_
  refine fx_cpy 1066 133 154 19 8 45 (by decide +kernel) rfl ?_
  refine fx_la 1 46 (v := 1042) (by decide +kernel) rfl (by decide +kernel) ?_
  refine fx_gp 1042 130 3 1074 49 (by decide +kernel) ?_
  refine fx_ci (0) 50 (by decide +kernel) ?_
  refine fx_la 0 51 (v := 130) (by decide +kernel) rfl (by decide +kernel) ?_
  refine fx_gp 130 16 3 162 54 (by decide +kernel) ?_
  refine fx_ci (0) 55 (by decide +kernel) ?_
  refine fx_ci (8) 57 (by decide +kernel) ?_
  refine fx_cpy 1074 134 162 20 8 60 (by decide +kernel) rfl ?_
  refine fx_la 1 61 (v := 1042) (by decide +kernel) rfl (by decide +kernel) ?_
  refine fx_gp 1042 130 4 1082 64 (by decide +kernel) ?_
  refine fx_ci (0) 65 (by decide +kernel) ?_
  refine fx_la 0 66 (v := 130) (by decide +kernel) rfl (by decide +kernel) ?_
  refine fx_gp 130 16 4 170 69 (by decide +kernel) ?_
  refine fx_ci (0) 70 (by decide +kernel) ?_
  refine fx_ci (60) 72 (by decide +kernel) ?_
  refine fx_cpy 1082 135 170 21 60 75 (by decide +kernel) rfl ?_
  refine fx_la 0 76 (v := 130) (by decide +kernel) rfl (by decide +kernel) ?_
  refine fx_la 1 77 (v := 1042) (by decide +kernel) rfl (by decide +kernel) ?_
  refine fx_gi 1042 130 5 80 (by decide +kernel) ?_
  try simp only [fu_app, fcy_app, Nat.reduceEqDiff, and_true, and_false, false_and, true_and, if_true, if_false, ite_true, ite_false, reduceIte, Int.reduceToNat, fx_simp0]
  refine fx_pi 130 16 5 83 (by decide +kernel) (by unfold fR; omega) ?_
  refine fx_la 0 84 (v := 130) (by decide +kernel) rfl (by decide +kernel) ?_
  refine fx_la 1 85 (v := 1042) (by decide +kernel) rfl (by decide +kernel) ?_
  refine fx_gi 1042 130 6 88 (by decide +kernel) ?_
  try simp only [fu_app, fcy_app, Nat.reduceEqDiff, and_true, and_false, false_and, true_and, if_true, if_false, ite_true, ite_false, reduceIte, Int.reduceToNat, fx_simp0]
  refine fx_pi 130 16 6 91 (by decide +kernel) (by unfold fR; omega) ?_
  refine fx_la 0 92 (v := 130) (by decide +kernel) rfl (by decide +kernel) ?_
  refine fx_la 1 93 (v := 1042) (by decide +kernel) rfl (by decide +kernel) ?_
  refine fx_gi 1042 130 7 96 (by decide +kernel) ?_
  try simp only [fu_app, fcy_app, Nat.reduceEqDiff, and_true, and_false, false_and, true_and, if_true, if_false, ite_true, ite_false, reduceIte, Int.reduceToNat, fx_simp0]
  refine fx_pi 130 16 7 99 (by decide +kernel) (by unfold fR; omega) ?_
  refine fx_la 0 100 (v := 130) (by decide +kernel) rfl (by decide +kernel) ?_
  refine fx_la 1 101 (v := 1042) (by decide +kernel) rfl (by decide +kernel) ?_
  refine fx_gi 1042 130 8 104 (by decide +kernel) ?_
  try simp only [fu_app, fcy_app, Nat.reduceEqDiff, and_true, and_false, false_and, true_and, if_true, if_false, ite_true, ite_false, reduceIte, Int.reduceToNat, fx_simp0]
  refine fx_pi 130 16 8 107 (by decide +kernel) (by unfold fR; omega) ?_
  refine fx_la 0 108 (v := 130) (by decide +kernel) rfl (by decide +kernel) ?_
  refine fx_la 1 109 (v := 1042) (by decide +kernel) rfl (by decide +kernel) ?_
  refine fx_gi 1042 130 9 112 (by decide +kernel) ?_
  try simp only [fu_app, fcy_app, Nat.reduceEqDiff, and_true, and_false, false_and, true_and, if_true, if_false, ite_true, ite_false, reduceIte, Int.reduceToNat, fx_simp0]
  refine fx_pi 130 16 9 115 (by decide +kernel) (by unfold fR; omega) ?_
  refine fx_la 0 116 (v := 130) (by decide +kernel) rfl (by decide +kernel) ?_
  refine fx_la 1 117 (v := 1042) (by decide +kernel) rfl (by decide +kernel) ?_
  refine fx_gi 1042 130 10 120 (by decide +kernel) ?_
  try simp only [fu_app, fcy_app, Nat.reduceEqDiff, and_true, and_false, false_and, true_and, if_true, if_false, ite_true, ite_false, reduceIte, Int.reduceToNat, fx_simp0]
  refine fx_pi 130 16 10 123 (by decide +kernel) (by unfold fR; omega) ?_
  refine fx_vret (by decide +kernel) ?_
  exact kq
theorem sp_crem_9 (hi : fop 10 (g 0 17 + 1) 12 = 9) (c0 : 0 ≤ g 0 16) (c1 : g 0 16 ≤ 12) (kq : Q 0 0 (cRem g 9)) : fx W r 1 152 0 [2] [] g Q := by
  have ec : cpT (fu g 0 17 9) 16 130 0 16 = g 0 16 := by rw [cpT_ne (by decide), fu_nj (by decide)]
  refine fx_la 0 1 (v := 2) (by decide +kernel) rfl (by decide +kernel) ?_
  refine fx_la 0 2 (v := 2) (by decide +kernel) rfl (by decide +kernel) ?_
  refine fx_gi 2 0 17 5 (by decide +kernel) ?_
  refine fx_ci (1) 6 (by decide +kernel) ?_
  refine fx_add 7 (by decide +kernel) rfl ?_
  refine fx_ci (12) 9 (by decide +kernel) ?_
  refine fx_bin 10 10 (by decide +kernel) rfl (fun _ => by decide) ?_
  refine fx_pi 2 0 17 13 (by decide +kernel) (by first | exact fop_R _ _ _ | (unfold fR; omega)) ?_
  rw [hi]
  refine fx_la 0 14 (v := 2) (by decide +kernel) rfl (by decide +kernel) ?_
  refine fx_gp 2 0 14 602 17 (by decide +kernel) ?_
  refine fx_la 0 18 (v := 2) (by decide +kernel) rfl (by decide +kernel) ?_
  refine fx_gi 2 0 17 21 (by decide +kernel) ?_
  try simp only [fu_app, fcy_app, Nat.reduceEqDiff, and_true, and_false, false_and, true_and, if_true, if_false, ite_true, ite_false, reduceIte, Int.reduceToNat, fx_simp0]
  refine fx_aal 602 75 9 1042 22 (by decide +kernel) rfl ?_
  refine fx_la 0 23 (v := 2) (by decide +kernel) rfl (by decide +kernel) ?_
  refine fx_gp 2 0 3 130 26 (by decide +kernel) ?_
  refine fx_c2 63 21 29 0 [] (by decide +kernel) (by decide) (by decide) (by decide) rfl (by first | decide | omega) ?_
  refine sp_cpT_tp_9 (fK0 ?_)
  refine fx_la 0 30 (v := 2) (by decide +kernel) rfl (by decide +kernel) ?_
  refine fx_gi 2 0 16 33 (by decide +kernel) ?_
  try simp only [fu_app, fcy_app, Nat.reduceEqDiff, and_true, and_false, false_and, true_and, if_true, if_false, ite_true, ite_false, reduceIte, Int.reduceToNat, fx_simp0]
  rw [ec]
  refine fx_ci (12) 35 (by decide +kernel) ?_
  refine fx_ige 48 38 (by decide +kernel) (by unfold fR; omega) (by unfold fR; omega) (fun h35 => ?_) (fun h35 => ?_)
  · refine fx_vret (by decide +kernel) ?_
    unfold cRem at kq
    rw [if_neg (by omega)] at kq
    have s := fu_self (cpT (fu g 0 17 9) 16 130) 0 16
    rw [ec] at s
    rw [← s]
    exact kq
  · refine fx_la 0 39 (v := 2) (by decide +kernel) rfl (by decide +kernel) ?_
    refine fx_dup 40 (by decide +kernel) rfl (by decide) ?_
    refine fx_gi 2 0 16 43 (by decide +kernel) ?_
    try simp only [fu_app, fcy_app, Nat.reduceEqDiff, and_true, and_false, false_and, true_and, if_true, if_false, ite_true, ite_false, reduceIte, Int.reduceToNat, fx_simp0]
    rw [ec]
    refine fx_ci (1) 44 (by decide +kernel) ?_
    refine fx_add 45 (by decide +kernel) rfl ?_
    refine fx_pi 2 0 16 48 (by decide +kernel) (by unfold fR; omega) ?_
    refine fx_vret (by decide +kernel) ?_
    unfold cRem at kq
    rw [if_pos (by omega)] at kq
    exact kq
theorem sp_cund_9 (hi : g 0 17 = 9) (c0 : 1 ≤ g 0 16) (c1 : g 0 16 ≤ 12) (kq : Q 1 (fI 1) (cUnd g 9)) : fx W r 1 62 0 [2] [] g Q := by
  have ec : cpT g 130 16 0 16 = g 0 16 := cpT_ne (by decide)
  have en : cpT g 130 16 0 17 = 9 := (cpT_ne (by decide)).trans hi
  refine fx_la 0 1 (v := 2) (by decide +kernel) rfl (by decide +kernel) ?_
  refine fx_gi 2 0 16 4 (by decide +kernel) ?_
  refine fx_zne 9 7 (by decide +kernel) (by first | exact hg 0 16 (by decide) (by decide +kernel) (by decide +kernel) | (unfold fR; omega)) (fun h4 => ?_) (fun h4 => ?_)
  · refine fx_la 0 10 (v := 2) (by decide +kernel) rfl (by decide +kernel) ?_
    refine fx_gp 2 0 3 130 13 (by decide +kernel) ?_
    refine fx_la 0 14 (v := 2) (by decide +kernel) rfl (by decide +kernel) ?_
    refine fx_gp 2 0 14 602 17 (by decide +kernel) ?_
    refine fx_la 0 18 (v := 2) (by decide +kernel) rfl (by decide +kernel) ?_
    refine fx_gi 2 0 17 21 (by decide +kernel) ?_
    rw [hi]
    refine fx_aal 602 75 9 1042 22 (by decide +kernel) rfl ?_
    refine fx_c2 63 21 25 0 [] (by decide +kernel) (by decide) (by decide) (by decide) rfl (by first | decide | omega) ?_
    refine sp_cpT_pt_9 (fK0 ?_)
    refine fx_la 0 26 (v := 2) (by decide +kernel) rfl (by decide +kernel) ?_
    refine fx_la 0 27 (v := 2) (by decide +kernel) rfl (by decide +kernel) ?_
    refine fx_gi 2 0 17 30 (by decide +kernel) ?_
    try simp only [fu_app, fcy_app, Nat.reduceEqDiff, and_true, and_false, false_and, true_and, if_true, if_false, ite_true, ite_false, reduceIte, Int.reduceToNat, fx_simp0]
    rw [en]
    refine fx_ci (12) 32 (by decide +kernel) ?_
    refine fx_add 33 (by decide +kernel) rfl ?_
    refine fx_ci (1) 34 (by decide +kernel) ?_
    refine fx_sub 35 (by decide +kernel) rfl ?_
    refine fx_ci (12) 37 (by decide +kernel) ?_
    refine fx_bin 10 38 (by decide +kernel) rfl (fun _ => by decide) ?_
    refine fx_pi 2 0 17 41 (by decide +kernel) (by first | exact fop_R _ _ _ | (unfold fR; omega)) ?_
    rw [show fop 10 ((9 : Int) + 12 - 1) 12 = ((8 : Nat) : Int) from fop_rem12 20 (by decide)]
    refine fx_la 0 42 (v := 2) (by decide +kernel) rfl (by decide +kernel) ?_
    refine fx_dup 43 (by decide +kernel) rfl (by decide) ?_
    refine fx_gi 2 0 16 46 (by decide +kernel) ?_
    try simp only [fu_app, fcy_app, Nat.reduceEqDiff, and_true, and_false, false_and, true_and, if_true, if_false, ite_true, ite_false, reduceIte, Int.reduceToNat, fx_simp0]
    rw [ec]
    refine fx_ci (1) 47 (by decide +kernel) ?_
    refine fx_sub 48 (by decide +kernel) rfl ?_
    refine fx_pi 2 0 16 51 (by decide +kernel) (by unfold fR; omega) ?_
    refine fx_ci (1) 52 (by decide +kernel) ?_
    refine fx_retb (by decide +kernel) (by first | exact Or.inl rfl | exact Or.inr rfl | omega) ?_
    exact kq
  · refine fx_ci (0) 8 (by decide +kernel) ?_
    refine fx_retb (by decide +kernel) (by first | exact Or.inl rfl | exact Or.inr rfl | omega) ?_
    exfalso; omega
theorem sp_cpT_tp_10 (kq : Q 0 0 (cpT g 16 136)) : fx W r 0 63 0 [1090, 130] [] g Q := by
  refine fx_rg (fun hg => ?_)
  have v5 := hg 16 5 (by decide) (by decide +kernel) (by decide +kernel)
  have v6 := hg 16 6 (by decide) (by decide +kernel) (by decide +kernel)
  have v7 := hg 16 7 (by decide) (by decide +kernel) (by decide +kernel)
  have v8 := hg 16 8 (by decide) (by decide +kernel) (by decide +kernel)
  have v9 := hg 16 9 (by decide) (by decide +kernel) (by decide +kernel)
  have v10 := hg 16 10 (by decide) (by decide +kernel) (by decide +kernel)
  unfold fR at v5 v6 v7 v8 v9 v10
  refine fx_la 1 1 (v := 130) (by decide +kernel) rfl (by decide +kernel) ?_
  refine fx_gp 130 16 0 138 4 (by decide +kernel) ?_
  refine fx_ci (0) 5 (by decide +kernel) ?_
  refine fx_la 0 6 (v := 1090) (by decide +kernel) rfl (by decide +kernel) ?_
  refine fx_gp 1090 136 0 1098 9 (by decide +kernel) ?_
  refine fx_ci (0) 10 (by decide +kernel) ?_
  refine fx_ci (8) 12 (by decide +kernel) ?_
  refine fx_cpy 138 17 1098 137 8 15 (by decide +kernel) rfl ?_
  refine fx_la 1 16 (v := 130) (by decide +kernel) rfl (by decide +kernel) ?_
  refine fx_gp 130 16 1 146 19 (by decide +kernel) ?_
  refine fx_ci (0) 20 (by decide +kernel) ?_
  refine fx_la 0 21 (v := 1090) (by decide +kernel) rfl (by decide +kernel) ?_
  refine fx_gp 1090 136 1 1106 24 (by decide +kernel) ?_
  refine fx_ci (0) 25 (by decide +kernel) ?_
  refine fx_ci (8) 27 (by decide +kernel) ?_
  refine fx_cpy 146 18 1106 138 8 30 (by decide +kernel) rfl ?_
  refine fx_la 1 31 (v := 130) (by decide +kernel) rfl (by decide +kernel) ?_
  refine fx_gp 130 16 2 154 34 (by decide +kernel) ?_
  refine fx_ci (0) 35 (by decide +kernel) ?_
  refine fx_la 0 36 (v := 1090) (by decide +kernel) rfl (by decide +kernel) ?_
  refine fx_gp 1090 136 2 1114 39 (by decide +kernel) ?_
  refine fx_ci (0) 40 (by decide +kernel) ?_
  refine fx_ci (8) 42 (by decide +kernel) ?_
  refine fx_cpy 154 19 1114 139 8 45 (by decide +kernel) rfl ?_
  refine fx_la 1 46 (v := 130) (by decide +kernel) rfl (by decide +kernel) ?_
  refine fx_gp 130 16 3 162 49 (by decide +kernel) ?_
  refine fx_ci (0) 50 (by decide +kernel) ?_
  refine fx_la 0 51 (v := 1090) (by decide +kernel) rfl (by decide +kernel) ?_
  refine fx_gp 1090 136 3 1122 54 (by decide +kernel) ?_
  refine fx_ci (0) 55 (by decide +kernel) ?_
  refine fx_ci (8) 57 (by decide +kernel) ?_
  refine fx_cpy 162 20 1122 140 8 60 (by decide +kernel) rfl ?_
  refine fx_la 1 61 (v := 130) (by decide +kernel) rfl (by decide +kernel) ?_
  refine fx_gp 130 16 4 170 64 (by decide +kernel) ?_
  refine fx_ci (0) 65 (by decide +kernel) ?_
  refine fx_la 0 66 (v := 1090) (by decide +kernel) rfl (by decide +kernel) ?_
  refine fx_gp 1090 136 4 1130 69 (by decide +kernel) ?_
  refine fx_ci (0) 70 (by decide +kernel) ?_
  refine fx_ci (60) 72 (by decide +kernel) ?_
  refine fx_cpy 170 21 1130 141 60 75 (by decide +kernel) rfl ?_
  refine fx_la 0 76 (v := 1090) (by decide +kernel) rfl (by decide +kernel) ?_
  refine fx_la 1 77 (v := 130) (by decide +kernel) rfl (by decide +kernel) ?_
  refine fx_gi 130 16 5 80 (by decide +kernel) ?_
  try simp only [fu_app, fcy_app, Nat.reduceEqDiff, and_true, and_false, false_and, true_and, if_true, if_false, ite_true, ite_false, reduceIte, Int.reduceToNat, fx_simp0]
  refine fx_pi 1090 136 5 83 (by decide +kernel) (by unfold fR; omega) ?_
  refine fx_la 0 84 (v := 1090) (by decide +kernel) rfl (by decide +kernel) ?_
  refine fx_la 1 85 (v := 130) (by decide +kernel) rfl (by decide +kernel) ?_
  refine fx_gi 130 16 6 88 (by decide +kernel) ?_
  try simp only [fu_app, fcy_app, Nat.reduceEqDiff, and_true, and_false, false_and, true_and, if_true, if_false, ite_true, ite_false, reduceIte, Int.reduceToNat, fx_simp0]
  refine fx_pi 1090 136 6 91 (by decide +kernel) (by unfold fR; omega) ?_
  refine fx_la 0 92 (v := 1090) (by decide +kernel) rfl (by decide +kernel) ?_
  refine fx_la 1 93 (v := 130) (by decide +kernel) rfl (by decide +kernel) ?_
  refine fx_gi 130 16 7 96 (by decide +kernel) ?_
  try simp only [fu_app, fcy_app, Nat.reduceEqDiff, and_true, and_false, false_and, true_and, if_true, if_false, ite_true, ite_false, reduceIte, Int.reduceToNat, fx_simp0]
  refine fx_pi 1090 136 7 99 (by decide +kernel) (by unfold fR; omega) ?_
  refine fx_la 0 100 (v := 1090) (by decide +kernel) rfl (by decide +kernel) ?_
  refine fx_la 1 101 (v := 130) (by decide +kernel) rfl (by decide +kernel) ?_
  refine fx_gi 130 16 8 104 (by decide +kernel) ?_
  try simp only [fu_app, fcy_app, Nat.reduceEqDiff, and_true, and_false, false_and, true_and, if_true, if_false, ite_true, ite_false, reduceIte, Int.reduceToNat, fx_simp0]
  refine fx_pi 1090 136 8 107 (by decide +kernel) (by unfold fR; omega) ?_
  refine fx_la 0 108 (v := 1090) (by decide +kernel) rfl (by decide +kernel) ?_
  refine fx_la 1 109 (v := 130) (by decide +kernel) rfl (by decide +kernel) ?_
  refine fx_gi 130 16 9 112 (by decide +kernel) ?_
  try simp only [fu_app, fcy_app, Nat.reduceEqDiff, and_true, and_false, false_and, true_and, if_true, if_false, ite_true, ite_false, reduceIte, Int.reduceToNat, fx_simp0]
  refine fx_pi 1090 136 9 115 (by decide +kernel) (by unfold fR; omega) ?_
  refine fx_la 0 116 (v := 1090) (by decide +kernel) rfl (by decide +kernel) ?_
  refine fx_la 1 117 (v := 130) (by decide +kernel) rfl (by decide +kernel) ?_
  refine fx_gi 130 16 10 120 (by decide +kernel) ?_
  try simp only [fu_app, fcy_app, Nat.reduceEqDiff, and_true, and_false, false_and, true_and, if_true, if_false, ite_true, ite_false, reduceIte, Int.reduceToNat, fx_simp0]
  refine fx_pi 1090 136 10 123 (by decide +kernel) (by unfold fR; omega) ?_
  refine fx_vret (by decide +kernel) ?_
  exact kq
theorem sp_cpT_pt_10 (kq : Q 0 0 (cpT g 136 16)) : fx W r 0 63 0 [130, 1090] [] g Q := by
  refine fx_rg (fun hg => ?_)
  have v5 := hg 136 5 (by decide) (by decide +kernel) (by decide +kernel)
  have v6 := hg 136 6 (by decide) (by decide +kernel) (by decide +kernel)
  have v7 := hg 136 7 (by decide) (by decide +kernel) (by decide +kernel)
  have v8 := hg 136 8 (by decide) (by decide +kernel) (by decide +kernel)
  have v9 := hg 136 9 (by decide) (by decide +kernel) (by decide +kernel)
  have v10 := hg 136 10 (by decide) (by decide +kernel) (by decide +kernel)
  unfold fR at v5 v6 v7 v8 v9 v10
  refine fx_la 1 1 (v := 1090) (by decide +kernel) rfl (by decide +kernel) ?_
  refine fx_gp 1090 136 0 1098 4 (by decide +kernel) ?_
  refine fx_ci (0) 5 (by decide +kernel) ?_
  refine fx_la 0 6 (v := 130) (by decide +kernel) rfl (by decide +kernel) ?_
  refine fx_gp 130 16 0 138 9 (by decide +kernel) ?_
  refine fx_ci (0) 10 (by decide +kernel) ?_
  refine fx_ci (8) 12 (by decide +kernel) ?_
  refine fx_cpy 1098 137 138 17 8 15 (by decide +kernel) rfl ?_
  refine fx_la 1 16 (v := 1090) (by decide +kernel) rfl (by decide +kernel) ?_
  refine fx_gp 1090 136 1 1106 19 (by decide +kernel) ?_
  refine fx_ci (0) 20 (by decide +kernel) ?_
  refine fx_la 0 21 (v := 130) (by decide +kernel) rfl (by decide +kernel) ?_
  refine fx_gp 130 16 1 146 24 (by decide +kernel) ?_
  refine fx_ci (0) 25 (by decide +kernel) ?_
  refine fx_ci (8) 27 (by decide +kernel) ?_
  refine fx_cpy 1106 138 146 18 8 30 (by decide +kernel) rfl ?_
  refine fx_la 1 31 (v := 1090) (by decide +kernel) rfl (by decide +kernel) ?_
  refine fx_gp 1090 136 2 1114 34 (by decide +kernel) ?_
  refine fx_ci (0) 35 (by decide +kernel) ?_
  refine fx_la 0 36 (v := 130) (by decide +kernel) rfl (by decide +kernel) ?_
  refine fx_gp 130 16 2 154 39 (by decide +kernel) ?_
  refine fx_ci (0) 40 (by decide +kernel) ?_
  refine fx_ci (8) 42 (by decide +kernel) ?_
  refine fx_cpy 1114 139 154 19 8 45 (by decide +kernel) rfl ?_
  refine fx_la 1 46 (v := 1090) (by decide +kernel) rfl (by decide +kernel) ?_
  refine fx_gp 1090 136 3 1122 49 (by decide +kernel) ?_
  refine fx_ci (0) 50 (by decide +kernel) ?_
  refine fx_la 0 51 (v := 130) (by decide +kernel) rfl (by decide +kernel) ?_
  refine fx_gp 130 16 3 162 54 (by decide +kernel) ?_
  refine fx_ci (0) 55 (by decide +kernel) ?_
  refine fx_ci (8) 57 (by decide +kernel) ?_
  refine fx_cpy 1122 140 162 20 8 60 (by decide +kernel) rfl ?_
  refine fx_la 1 61 (v := 1090) (by decide +kernel) rfl (by decide +kernel) ?_
  refine fx_gp 1090 136 4 1130 64 (by decide +kernel) ?_
  refine fx_ci (0) 65 (by decide +kernel) ?_
  refine fx_la 0 66 (v := 130) (by decide +kernel) rfl (by decide +kernel) ?_
  refine fx_gp 130 16 4 170 69 (by decide +kernel) ?_
  refine fx_ci (0) 70 (by decide +kernel) ?_
  refine fx_ci (60) 72 (by decide +kernel) ?_
  refine fx_cpy 1130 141 170 21 60 75 (by decide +kernel) rfl ?_
  refine fx_la 0 76 (v := 130) (by decide +kernel) rfl (by decide +kernel) ?_
  refine fx_la 1 77 (v := 1090) (by decide +kernel) rfl (by decide +kernel) ?_
  refine fx_gi 1090 136 5 80 (by decide +kernel) ?_
  try simp only [fu_app, fcy_app, Nat.reduceEqDiff, and_true, and_false, false_and, true_and, if_true, if_false, ite_true, ite_false, reduceIte, Int.reduceToNat, fx_simp0]
  refine fx_pi 130 16 5 83 (by decide +kernel) (by unfold fR; omega) ?_
  refine fx_la 0 84 (v := 130) (by decide +kernel) rfl (by decide +kernel) ?_
  refine fx_la 1 85 (v := 1090) (by decide +kernel) rfl (by decide +kernel) ?_
  refine fx_gi 1090 136 6 88 (by decide +kernel) ?_
  try simp only [fu_app, fcy_app, Nat.reduceEqDiff, and_true, and_false, false_and, true_and, if_true, if_false, ite_true, ite_false, reduceIte, Int.reduceToNat, fx_simp0]
  refine fx_pi 130 16 6 91 (by decide +kernel) (by unfold fR; omega) ?_
  refine fx_la 0 92 (v := 130) (by decide +kernel) rfl (by decide +kernel) ?_
  refine fx_la 1 93 (v := 1090) (by decide +kernel) rfl (by decide +kernel) ?_
  refine fx_gi 1090 136 7 96 (by decide +kernel) ?_
  try simp only [fu_app, fcy_app, Nat.reduceEqDiff, and_true, and_false, false_and, true_and, if_true, if_false, ite_true, ite_false, reduceIte, Int.reduceToNat, fx_simp0]
  refine fx_pi 130 16 7 99 (by decide +kernel) (by unfold fR; omega) ?_
  refine fx_la 0 100 (v := 130) (by decide +kernel) rfl (by decide +kernel) ?_
  refine fx_la 1 101 (v := 1090) (by decide +kernel) rfl (by decide +kernel) ?_
  refine fx_gi 1090 136 8 104 (by decide +kernel) ?_
  try simp only [fu_app, fcy_app, Nat.reduceEqDiff, and_true, and_false, false_and, true_and, if_true, if_false, ite_true, ite_false, reduceIte, Int.reduceToNat, fx_simp0]
  refine fx_pi 130 16 8 107 (by decide +kernel) (by unfold fR; omega) ?_
  refine fx_la 0 108 (v := 130) (by decide +kernel) rfl (by decide +kernel) ?_
  refine fx_la 1 109 (v := 1090) (by decide +kernel) rfl (by decide +kernel) ?_
  refine fx_gi 1090 136 9 112 (by decide +kernel) ?_
  try simp only [fu_app, fcy_app, Nat.reduceEqDiff, and_true, and_false, false_and, true_and, if_true, if_false, ite_true, ite_false, reduceIte, Int.reduceToNat, fx_simp0]
  refine fx_pi 130 16 9 115 (by decide +kernel) (by unfold fR; omega) ?_
  refine fx_la 0 116 (v := 130) (by decide +kernel) rfl (by decide +kernel) ?_
  refine fx_la 1 117 (v := 1090) (by decide +kernel) rfl (by decide +kernel) ?_
  refine fx_gi 1090 136 10 120 (by decide +kernel) ?_
  try simp only [fu_app, fcy_app, Nat.reduceEqDiff, and_true, and_false, false_and, true_and, if_true, if_false, ite_true, ite_false, reduceIte, Int.reduceToNat, fx_simp0]
  refine fx_pi 130 16 10 123 (by decide +kernel) (by unfold fR; omega) ?_
  refine fx_vret (by decide +kernel) ?_
  exact kq
theorem sp_crem_10 (hi : fop 10 (g 0 17 + 1) 12 = 10) (c0 : 0 ≤ g 0 16) (c1 : g 0 16 ≤ 12) (kq : Q 0 0 (cRem g 10)) : fx W r 1 152 0 [2] [] g Q := by
  have ec : cpT (fu g 0 17 10) 16 136 0 16 = g 0 16 := by rw [cpT_ne (by decide), fu_nj (by decide)]
  refine fx_la 0 1 (v := 2) (by decide +kernel) rfl (by decide +kernel) ?_
  refine fx_la 0 2 (v := 2) (by decide +kernel) rfl (by decide +kernel) ?_
  refine fx_gi 2 0 17 5 (by decide +kernel) ?_
  refine fx_ci (1) 6 (by decide +kernel) ?_
  refine fx_add 7 (by decide +kernel) rfl ?_
  refine fx_ci (12) 9 (by decide +kernel) ?_
  refine fx_bin 10 10 (by decide +kernel) rfl (fun _ => by decide) ?_
  refine fx_pi 2 0 17 13 (by decide +kernel) (by first | exact fop_R _ _ _ | (unfold fR; omega)) ?_
  rw [hi]
  refine fx_la 0 14 (v := 2) (by decide +kernel) rfl (by decide +kernel) ?_
  refine fx_gp 2 0 14 602 17 (by decide +kernel) ?_
  refine fx_la 0 18 (v := 2) (by decide +kernel) rfl (by decide +kernel) ?_
  refine fx_gi 2 0 17 21 (by decide +kernel) ?_
  try simp only [fu_app, fcy_app, Nat.reduceEqDiff, and_true, and_false, false_and, true_and, if_true, if_false, ite_true, ite_false, reduceIte, Int.reduceToNat, fx_simp0]
  refine fx_aal 602 75 10 1090 22 (by decide +kernel) rfl ?_
  refine fx_la 0 23 (v := 2) (by decide +kernel) rfl (by decide +kernel) ?_
  refine fx_gp 2 0 3 130 26 (by decide +kernel) ?_
  refine fx_c2 63 21 29 0 [] (by decide +kernel) (by decide) (by decide) (by decide) rfl (by first | decide | omega) ?_
  refine sp_cpT_tp_10 (fK0 ?_)
  refine fx_la 0 30 (v := 2) (by decide +kernel) rfl (by decide +kernel) ?_
  refine fx_gi 2 0 16 33 (by decide +kernel) ?_
  try simp only [fu_app, fcy_app, Nat.reduceEqDiff, and_true, and_false, false_and, true_and, if_true, if_false, ite_true, ite_false, reduceIte, Int.reduceToNat, fx_simp0]
  rw [ec]
  refine fx_ci (12) 35 (by decide +kernel) ?_
  refine fx_ige 48 38 (by decide +kernel) (by unfold fR; omega) (by unfold fR; omega) (fun h35 => ?_) (fun h35 => ?_)
  · refine fx_vret (by decide +kernel) ?_
    unfold cRem at kq
    rw [if_neg (by omega)] at kq
    have s := fu_self (cpT (fu g 0 17 10) 16 136) 0 16
    rw [ec] at s
    rw [← s]
    exact kq
  · refine fx_la 0 39 (v := 2) (by decide +kernel) rfl (by decide +kernel) ?_
    refine fx_dup 40 (by decide +kernel) rfl (by decide) ?_
    refine fx_gi 2 0 16 43 (by decide +kernel) ?_
    try simp only [fu_app, fcy_app, Nat.reduceEqDiff, and_true, and_false, false_and, true_and, if_true, if_false, ite_true, ite_false, reduceIte, Int.reduceToNat, fx_simp0]
    rw [ec]
    refine fx_ci (1) 44 (by decide +kernel) ?_
    refine fx_add 45 (by decide +kernel) rfl ?_
    refine fx_pi 2 0 16 48 (by decide +kernel) (by unfold fR; omega) ?_
    refine fx_vret (by decide +kernel) ?_
    unfold cRem at kq
    rw [if_pos (by omega)] at kq
    exact kq
theorem sp_cund_10 (hi : g 0 17 = 10) (c0 : 1 ≤ g 0 16) (c1 : g 0 16 ≤ 12) (kq : Q 1 (fI 1) (cUnd g 10)) : fx W r 1 62 0 [2] [] g Q := by
  have ec : cpT g 136 16 0 16 = g 0 16 := cpT_ne (by decide)
  have en : cpT g 136 16 0 17 = 10 := (cpT_ne (by decide)).trans hi
  refine fx_la 0 1 (v := 2) (by decide +kernel) rfl (by decide +kernel) ?_
  refine fx_gi 2 0 16 4 (by decide +kernel) ?_
  refine fx_zne 9 7 (by decide +kernel) (by first | exact hg 0 16 (by decide) (by decide +kernel) (by decide +kernel) | (unfold fR; omega)) (fun h4 => ?_) (fun h4 => ?_)
  · refine fx_la 0 10 (v := 2) (by decide +kernel) rfl (by decide +kernel) ?_
    refine fx_gp 2 0 3 130 13 (by decide +kernel) ?_
    refine fx_la 0 14 (v := 2) (by decide +kernel) rfl (by decide +kernel) ?_
    refine fx_gp 2 0 14 602 17 (by decide +kernel) ?_
    refine fx_la 0 18 (v := 2) (by decide +kernel) rfl (by decide +kernel) ?_
    refine fx_gi 2 0 17 21 (by decide +kernel) ?_
    rw [hi]
    refine fx_aal 602 75 10 1090 22 (by decide +kernel) rfl ?_
    refine fx_c2 63 21 25 0 [] (by decide +kernel) (by decide) (by decide) (by decide) rfl (by first | decide | omega) ?_
    refine sp_cpT_pt_10 (fK0 ?_)
    refine fx_la 0 26 (v := 2) (by decide +kernel) rfl (by decide +kernel) ?_
    refine fx_la 0 27 (v := 2) (by decide +kernel) rfl (by decide +kernel) ?_
    refine fx_gi 2 0 17 30 (by decide +kernel) ?_
    try simp only [fu_app, fcy_app, Nat.reduceEqDiff, and_true, and_false, false_and, true_and, if_true, if_false, ite_true, ite_false, reduceIte, Int.reduceToNat, fx_simp0]
    rw [en]
    refine fx_ci (12) 32 (by decide +kernel) ?_
    refine fx_add 33 (by decide +kernel) rfl ?_
    refine fx_ci (1) 34 (by decide +kernel) ?_
    refine fx_sub 35 (by decide +kernel) rfl ?_
    refine fx_ci (12) 37 (by decide +kernel) ?_
    refine fx_bin 10 38 (by decide +kernel) rfl (fun _ => by decide) ?_
    refine fx_pi 2 0 17 41 (by decide +kernel) (by first | exact fop_R _ _ _ | (unfold fR; omega)) ?_
    rw [show fop 10 ((10 : Int) + 12 - 1) 12 = ((9 : Nat) : Int) from fop_rem12 21 (by decide)]
    refine fx_la 0 42 (v := 2) (by decide +kernel) rfl (by decide +kernel) ?_
    refine fx_dup 43 (by decide +kernel) rfl (by decide) ?_
    refine fx_gi 2 0 16 46 (by decide +kernel) ?_
    try simp only [fu_app, fcy_app, Nat.reduceEqDiff, and_true, and_false, false_and, true_and, if_true, if_false, ite_true, ite_false, reduceIte, Int.reduceToNat, fx_simp0]
    rw [ec]
    refine fx_ci (1) 47 (by decide +kernel) ?_
    refine fx_sub 48 (by decide +kernel) rfl ?_
    refine fx_pi 2 0 16 51 (by decide +kernel) (by unfold fR; omega) ?_
    refine fx_ci (1) 52 (by decide +kernel) ?_
    refine fx_retb (by decide +kernel) (by first | exact Or.inl rfl | exact Or.inr rfl | omega) ?_
    exact kq
  · refine fx_ci (0) 8 (by decide +kernel) ?_
    refine fx_retb (by decide +kernel) (by first | exact Or.inl rfl | exact Or.inr rfl | omega) ?_
    exfalso; omega
theorem sp_cpT_tp_11 (kq : Q 0 0 (cpT g 16 142)) : fx W r 0 63 0 [1138, 130] [] g Q := by
  refine fx_rg (fun hg => ?_)
  have v5 := hg 16 5 (by decide) (by decide +kernel) (by decide +kernel)
  have v6 := hg 16 6 (by decide) (by decide +kernel) (by decide +kernel)
  have v7 := hg 16 7 (by decide) (by decide +kernel) (by decide +kernel)
  have v8 := hg 16 8 (by decide) (by decide +kernel) (by decide +kernel)
  have v9 := hg 16 9 (by decide) (by decide +kernel) (by decide +kernel)
  have v10 := hg 16 10 (by decide) (by decide +kernel) (by decide +kernel)
  unfold fR at v5 v6 v7 v8 v9 v10
  refine fx_la 1 1 (v := 130) (by decide +kernel) rfl (by decide +kernel) ?_
  refine fx_gp 130 16 0 138 4 (by decide +kernel) ?_
  refine fx_ci (0) 5 (by decide +kernel) ?_
  refine fx_la 0 6 (v := 1138) (by decide +kernel) rfl (by decide +kernel) ?_
  refine fx_gp 1138 142 0 1146 9 (by decide +kernel) ?_
  refine fx_ci (0) 10 (by decide +kernel) ?_
  refine fx_ci (8) 12 (by decide +kernel) ?_
  refine fx_cpy 138 17 1146 143 8 15 (by decide +kernel) rfl ?_
  refine fx_la 1 16 (v := 130) (by decide +kernel) rfl (by decide +kernel) ?_
  refine fx_gp 130 16 1 146 19 (by decide +kernel) ?_
  refine fx_ci (0) 20 (by decide +kernel) ?_
  refine fx_la 0 21 (v := 1138) (by decide +kernel) rfl (by decide +kernel) ?_
  refine fx_gp 1138 142 1 1154 24 (by decide +kernel) ?_
  refine fx_ci (0) 25 (by decide +kernel) ?_
  refine fx_ci (8) 27 (by decide +kernel) ?_
  refine fx_cpy 146 18 1154 144 8 30 (by decide +kernel) rfl ?_
  refine fx_la 1 31 (v := 130) (by decide +kernel) rfl (by decide +kernel) ?_
  refine fx_gp 130 16 2 154 34 (by decide +kernel) ?_
  refine fx_ci (0) 35 (by decide +kernel) ?_
  refine fx_la 0 36 (v := 1138) (by decide +kernel) rfl (by decide +kernel) ?_
  refine fx_gp 1138 142 2 1162 39 (by decide +kernel) ?_
  refine fx_ci (0) 40 (by decide +kernel) ?_
  refine fx_ci (8) 42 (by decide +kernel) ?_
  refine fx_cpy 154 19 1162 145 8 45 (by decide +kernel) rfl ?_
  refine fx_la 1 46 (v := 130) (by decide +kernel) rfl (by decide +kernel) ?_
  refine fx_gp 130 16 3 162 49 (by decide +kernel) ?_
  refine fx_ci (0) 50 (by decide +kernel) ?_
  refine fx_la 0 51 (v := 1138) (by decide +kernel) rfl (by decide +kernel) ?_
  refine fx_gp 1138 142 3 1170 54 (by decide +kernel) ?_
  refine fx_ci (0) 55 (by decide +kernel) ?_
  refine fx_ci (8) 57 (by decide +kernel) ?_
  refine fx_cpy 162 20 1170 146 8 60 (by decide +kernel) rfl ?_
  refine fx_la 1 61 (v := 130) (by decide +kernel) rfl (by decide +kernel) ?_
  refine fx_gp 130 16 4 170 64 (by decide +kernel) ?_
  refine fx_ci (0) 65 (by decide +kernel) ?_
  refine fx_la 0 66 (v := 1138) (by decide +kernel) rfl (by decide +kernel) ?_
  refine fx_gp 1138 142 4 1178 69 (by decide +kernel) ?_
  refine fx_ci (0) 70 (by decide +kernel) ?_
  refine fx_ci (60) 72 (by decide +kernel) ?_
  refine fx_cpy 170 21 1178 147 60 75 (by decide +kernel) rfl ?_
  refine fx_la 0 76 (v := 1138) (by decide +kernel) rfl (by decide +kernel) ?_
  refine fx_la 1 77 (v := 130) (by decide +kernel) rfl (by decide +kernel) ?_
  refine fx_gi 130 16 5 80 (by decide +kernel) ?_
  try simp only [fu_app, fcy_app, Nat.reduceEqDiff, and_true, and_false, false_and, true_and, if_true, if_false, ite_true, ite_false, reduceIte, Int.reduceToNat, fx_simp0]
  refine fx_pi 1138 142 5 83 (by decide +kernel) (by unfold fR; omega) ?_
  refine fx_la 0 84 (v := 1138) (by decide +kernel) rfl (by decide +kernel) ?_
  refine fx_la 1 85 (v := 130) (by decide +kernel) rfl (by decide +kernel) ?_
  refine fx_gi 130 16 6 88 (by decide +kernel) ?_
  try simp only [fu_app, fcy_app, Nat.reduceEqDiff, and_true, and_false, false_and, true_and, if_true, if_false, ite_true, ite_false, reduceIte, Int.reduceToNat, fx_simp0]
  refine fx_pi 1138 142 6 91 (by decide +kernel) (by unfold fR; omega) ?_
  refine fx_la 0 92 (v := 1138) (by decide +kernel) rfl (by decide +kernel) ?_
  refine fx_la 1 93 (v := 130) (by decide +kernel) rfl (by decide +kernel) ?_
  refine fx_gi 130 16 7 96 (by decide +kernel) ?_
  try simp only [fu_app, fcy_app, Nat.reduceEqDiff, and_true, and_false, false_and, true_and, if_true, if_false, ite_true, ite_false, reduceIte, Int.reduceToNat, fx_simp0]
  refine fx_pi 1138 142 7 99 (by decide +kernel) (by unfold fR; omega) ?_
  refine fx_la 0 100 (v := 1138) (by decide +kernel) rfl (by decide +kernel) ?_
  refine fx_la 1 101 (v := 130) (by decide +kernel) rfl (by decide +kernel) ?_
  refine fx_gi 130 16 8 104 (by decide +kernel) ?_
  try simp only [fu_app, fcy_app, Nat.reduceEqDiff, and_true, and_false, false_and, true_and, if_true, if_false, ite_true, ite_false, reduceIte, Int.reduceToNat, fx_simp0]
  refine fx_pi 1138 142 8 107 (by decide +kernel) (by unfold fR; omega) ?_
  refine fx_la 0 108 (v := 1138) (by decide +kernel) rfl (by decide +kernel) ?_
  refine fx_la 1 109 (v := 130) (by decide +kernel) rfl (by decide +kernel) ?_
  refine fx_gi 130 16 9 112 (by decide +kernel) ?_
  try simp only [fu_app, fcy_app, Nat.reduceEqDiff, and_true, and_false, false_and, true_and, if_true, if_false, ite_true, ite_false, reduceIte, Int.reduceToNat, fx_simp0]
  refine fx_pi 1138 142 9 115 (by decide +kernel) (by unfold fR; omega) ?_
  refine fx_la 0 116 (v := 1138) (by decide +kernel) rfl (by decide +kernel) ?_
  refine fx_la 1 117 (v := 130) (by decide +kernel) rfl (by decide +kernel) ?_
  refine fx_gi 130 16 10 120 (by decide +kernel) ?_
  try simp only [fu_app, fcy_app, Nat.reduceEqDiff, and_true, and_false, false_and, true_and, if_true, if_false, ite_true, ite_false, reduceIte, Int.reduceToNat, fx_simp0]
  refine fx_pi 1138 142 10 123 (by decide +kernel) (by unfold fR; omega) ?_
  refine fx_vret (by decide +kernel) ?_
  exact kq
theorem sp_cpT_pt_11 (kq : Q 0 0 (cpT g 142 16)) : fx W r 0 63 0 [130, 1138] [] g Q := by
  refine fx_rg (fun hg => ?_)
  have v5 := hg 142 5 (by decide) (by decide +kernel) (by decide +kernel)
  have v6 := hg 142 6 (by decide) (by decide +kernel) (by decide +kernel)
  have v7 := hg 142 7 (by decide) (by decide +kernel) (by decide +kernel)
  have v8 := hg 142 8 (by decide) (by decide +kernel) (by decide +kernel)
  have v9 := hg 142 9 (by decide) (by decide +kernel) (by decide +kernel)
  have v10 := hg 142 10 (by decide) (by decide +kernel) (by decide +kernel)
  unfold fR at v5 v6 v7 v8 v9 v10
  refine fx_la 1 1 (v := 1138) (by decide +kernel) rfl (by decide +kernel) ?_
  refine fx_gp 1138 142 0 1146 4 (by decide +kernel) ?_
  refine fx_ci (0) 5 (by decide +kernel) ?_
  refine fx_la 0 6 (v := 130) (by decide +kernel) rfl (by decide +kernel) ?_
  refine fx_gp 130 16 0 138 9 (by decide +kernel) ?_
  refine fx_ci (0) 10 (by decide +kernel) ?_
  refine fx_ci (8) 12 (by decide +kernel) ?_
  refine fx_cpy 1146 143 138 17 8 15 (by decide +kernel) rfl ?_
  refine fx_la 1 16 (v := 1138) (by decide +kernel) rfl (by decide +kernel) ?_
  refine fx_gp 1138 142 1 1154 19 (by decide +kernel) ?_
  refine fx_ci (0) 20 (by decide +kernel) ?_
  refine fx_la 0 21 (v := 130) (by decide +kernel) rfl (by decide +kernel) ?_
  refine fx_gp 130 16 1 146 24 (by decide +kernel) ?_
  refine fx_ci (0) 25 (by decide +kernel) ?_
  refine fx_ci (8) 27 (by decide +kernel) ?_
  refine fx_cpy 1154 144 146 18 8 30 (by decide +kernel) rfl ?_
  refine fx_la 1 31 (v := 1138) (by decide +kernel) rfl (by decide +kernel) ?_
  refine fx_gp 1138 142 2 1162 34 (by decide +kernel) ?_
  refine fx_ci (0) 35 (by decide +kernel) ?_
  refine fx_la 0 36 (v := 130) (by decide +kernel) rfl (by decide +kernel) ?_
  refine fx_gp 130 16 2 154 39 (by decide +kernel) ?_
  refine fx_ci (0) 40 (by decide +kernel) ?_
  refine fx_ci (8) 42 (by decide +kernel) ?_
  refine fx_cpy 1162 145 154 19 8 45 (by decide +kernel) rfl ?_
  refine fx_la 1 46 (v := 1138) (by decide +kernel) rfl (by decide +kernel) ?_
  refine fx_gp 1138 142 3 1170 49 (by decide +kernel) ?_
  refine fx_ci (0) 50 (by decide +kernel) ?_
  refine fx_la 0 51 (v := 130) (by decide +kernel) rfl (by decide +kernel) ?_
  refine fx_gp 130 16 3 162 54 (by decide +kernel) ?_
  refine fx_ci (0) 55 (by decide +kernel) ?_
  refine fx_ci (8) 57 (by decide +kernel) ?_
  refine fx_cpy 1170 146 162 20 8 60 (by decide +kernel) rfl ?_
  refine fx_la 1 61 (v := 1138) (by decide +kernel) rfl (by decide +kernel) ?_
  refine fx_gp 1138 142 4 1178 64 (by decide +kernel) ?_
  refine fx_ci (0) 65 (by decide +kernel) ?_
  refine fx_la 0 66 (v := 130) (by decide +kernel) rfl (by decide +kernel) ?_
  refine fx_gp 130 16 4 170 69 (by decide +kernel) ?_
  refine fx_ci (0) 70 (by decide +kernel) ?_
  refine fx_ci (60) 72 (by decide +kernel) ?_
  refine fx_cpy 1178 147 170 21 60 75 (by decide +kernel) rfl ?_
  refine fx_la 0 76 (v := 130) (by decide +kernel) rfl (by decide +kernel) ?_
  refine fx_la 1 77 (v := 1138) (by decide +kernel) rfl (by decide +kernel) ?_
  refine fx_gi 1138 142 5 80 (by decide +kernel) ?_
  try simp only [fu_app, fcy_app, Nat.reduceEqDiff, and_true, and_false, false_and, true_and, if_true, if_false, ite_true, ite_false, reduceIte, Int.reduceToNat, fx_simp0]
  refine fx_pi 130 16 5 83 (by decide +kernel) (by unfold fR; omega) ?_
  refine fx_la 0 84 (v := 130) (by decide +kernel) rfl (by decide +kernel) ?_
  refine fx_la 1 85 (v := 1138) (by decide +kernel) rfl (by decide +kernel) ?_
  refine fx_gi 1138 142 6 88 (by decide +kernel) ?_
  try simp only [fu_app, fcy_app, Nat.reduceEqDiff, and_true, and_false, false_and, true_and, if_true, if_false, ite_true, ite_false, reduceIte, Int.reduceToNat, fx_simp0]
  refine fx_pi 130 16 6 91 (by decide +kernel) (by unfold fR; omega) ?_
  refine fx_la 0 92 (v := 130) (by decide +kernel) rfl (by decide +kernel) ?_
  refine fx_la 1 93 (v := 1138) (by decide +kernel) rfl (by decide +kernel) ?_
  refine fx_gi 1138 142 7 96 (by decide +kernel) ?_
  try simp only [fu_app, fcy_app, Nat.reduceEqDiff, and_true, and_false, false_and, true_and, if_true, if_false, ite_true, ite_false, reduceIte, Int.reduceToNat, fx_simp0]
  refine fx_pi 130 16 7 99 (by decide +kernel) (by unfold fR; omega) ?_
  refine fx_la 0 100 (v := 130) (by decide +kernel) rfl (by decide +kernel) ?_
  refine fx_la 1 101 (v := 1138) (by decide +kernel) rfl (by decide +kernel) ?_
  refine fx_gi 1138 142 8 104 (by decide +kernel) ?_
  try simp only [fu_app, fcy_app, Nat.reduceEqDiff, and_true, and_false, false_and, true_and, if_true, if_false, ite_true, ite_false, reduceIte, Int.reduceToNat, fx_simp0]
  refine fx_pi 130 16 8 107 (by decide +kernel) (by unfold fR; omega) ?_
  refine fx_la 0 108 (v := 130) (by decide +kernel) rfl (by decide +kernel) ?_
  refine fx_la 1 109 (v := 1138) (by decide +kernel) rfl (by decide +kernel) ?_
  refine fx_gi 1138 142 9 112 (by decide +kernel) ?_
  try simp only [fu_app, fcy_app, Nat.reduceEqDiff, and_true, and_false, false_and, true_and, if_true, if_false, ite_true, ite_false, reduceIte, Int.reduceToNat, fx_simp0]
  refine fx_pi 130 16 9 115 (by decide +kernel) (by unfold fR; omega) ?_
  refine fx_la 0 116 (v := 130) (by decide +kernel) rfl (by decide +kernel) ?_
  refine fx_la 1 117 (v := 1138) (by decide +kernel) rfl (by decide +kernel) ?_
  refine fx_gi 1138 142 10 120 (by decide +kernel) ?_
  try simp only [fu_app, fcy_app, Nat.reduceEqDiff, and_true, and_false, false_and, true_and, if_true, if_false, ite_true, ite_false, reduceIte, Int.reduceToNat, fx_simp0]
  refine fx_pi 130 16 10 123 (by decide +kernel) (by unfold fR; omega) ?_
  refine fx_vret (by decide +kernel) ?_
  exact kq
theorem sp_crem_11 (hi : fop 10 (g 0 17 + 1) 12 = 11) (c0 : 0 ≤ g 0 16) (c1 : g 0 16 ≤ 12) (kq : Q 0 0 (cRem g 11)) : fx W r 1 152 0 [2] [] g Q := by
  have ec : cpT (fu g 0 17 11) 16 142 0 16 = g 0 16 := by rw [cpT_ne (by decide), fu_nj (by decide)]
  refine fx_la 0 1 (v := 2) (by decide +kernel) rfl (by decide +kernel) ?_
  refine fx_la 0 2 (v := 2) (by decide +kernel) rfl (by decide +kernel) ?_
  refine fx_gi 2 0 17 5 (by decide +kernel) ?_
  refine fx_ci (1) 6 (by decide +kernel) ?_
  refine fx_add 7 (by decide +kernel) rfl ?_
  refine fx_ci (12) 9 (by decide +kernel) ?_
  refine fx_bin 10 10 (by decide +kernel) rfl (fun _ => by decide) ?_
  refine fx_pi 2 0 17 13 (by decide +kernel) (by first | exact fop_R _ _ _ | (unfold fR; omega)) ?_
  rw [hi]
  refine fx_la 0 14 (v := 2) (by decide +kernel) rfl (by decide +kernel) ?_
  refine fx_gp 2 0 14 602 17 (by decide +kernel) ?_
  refine fx_la 0 18 (v := 2) (by decide +kernel) rfl (by decide +kernel) ?_
  refine fx_gi 2 0 17 21 (by decide +kernel) ?_
  try simp only [fu_app, fcy_app, Nat.reduceEqDiff, and_true, and_false, false_and, true_and, if_true, if_false, ite_true, ite_false, reduceIte, Int.reduceToNat, fx_simp0]
  refine fx_aal 602 75 11 1138 22 (by decide +kernel) rfl ?_
  refine fx_la 0 23 (v := 2) (by decide +kernel) rfl (by decide +kernel) ?_
  refine fx_gp 2 0 3 130 26 (by decide +kernel) ?_
  refine fx_c2 63 21 29 0 [] (by decide +kernel) (by decide) (by decide) (by decide) rfl (by first | decide | omega) ?_
  refine sp_cpT_tp_11 (fK0 ?_)
  refine fx_la 0 30 (v := 2) (by decide +kernel) rfl (by decide +kernel) ?_
  refine fx_gi 2 0 16 33 (by decide +kernel) ?_
  try simp only [fu_app, fcy_app, Nat.reduceEqDiff, and_true, and_false, false_and, true_and, if_true, if_false, ite_true, ite_false, reduceIte, Int.reduceToNat, fx_simp0]
  rw [ec]
  refine fx_ci (12) 35 (by decide +kernel) ?_
  refine fx_ige 48 38 (by decide +kernel) (by unfold fR; omega) (by unfold fR; omega) (fun h35 => ?_) (fun h35 => ?_)
  · refine fx_vret (by decide +kernel) ?_
    unfold cRem at kq
    rw [if_neg (by omega)] at kq
    have s := fu_self (cpT (fu g 0 17 11) 16 142) 0 16
    rw [ec] at s
    rw [← s]
    exact kq
  · refine fx_la 0 39 (v := 2) (by decide +kernel) rfl (by decide +kernel) ?_
    refine fx_dup 40 (by decide +kernel) rfl (by decide) ?_
    refine fx_gi 2 0 16 43 (by decide +kernel) ?_
    try simp only [fu_app, fcy_app, Nat.reduceEqDiff, and_true, and_false, false_and, true_and, if_true, if_false, ite_true, ite_false, reduceIte, Int.reduceToNat, fx_simp0]
    rw [ec]
    refine fx_ci (1) 44 (by decide +kernel) ?_
    refine fx_add 45 (by decide +kernel) rfl ?_
    refine fx_pi 2 0 16 48 (by decide +kernel) (by unfold fR; omega) ?_
    refine fx_vret (by decide +kernel) ?_
    unfold cRem at kq
    rw [if_pos (by omega)] at kq
    exact kq
theorem sp_cund_11 (hi : g 0 17 = 11) (c0 : 1 ≤ g 0 16) (c1 : g 0 16 ≤ 12) (kq : Q 1 (fI 1) (cUnd g 11)) : fx W r 1 62 0 [2] [] g Q := by
  have ec : cpT g 142 16 0 16 = g 0 16 := cpT_ne (by decide)
  have en : cpT g 142 16 0 17 = 11 := (cpT_ne (by decide)).trans hi
  refine fx_la 0 1 (v := 2) (by decide +kernel) rfl (by decide +kernel) ?_
  refine fx_gi 2 0 16 4 (by decide +kernel) ?_
  refine fx_zne 9 7 (by decide +kernel) (by first | exact hg 0 16 (by decide) (by decide +kernel) (by decide +kernel) | (unfold fR; omega)) (fun h4 => ?_) (fun h4 => ?_)
  · refine fx_la 0 10 (v := 2) (by decide +kernel) rfl (by decide +kernel) ?_
    refine fx_gp 2 0 3 130 13 (by decide +kernel) ?_
    refine fx_la 0 14 (v := 2) (by decide +kernel) rfl (by decide +kernel) ?_
    refine fx_gp 2 0 14 602 17 (by decide +kernel) ?_
    refine fx_la 0 18 (v := 2) (by decide +kernel) rfl (by decide +kernel) ?_
    refine fx_gi 2 0 17 21 (by decide +kernel) ?_
    rw [hi]
    refine fx_aal 602 75 11 1138 22 (by decide +kernel) rfl ?_
    refine fx_c2 63 21 25 0 [] (by decide +kernel) (by decide) (by decide) (by decide) rfl (by first | decide | omega) ?_
    refine sp_cpT_pt_11 (fK0 ?_)
    refine fx_la 0 26 (v := 2) (by decide +kernel) rfl (by decide +kernel) ?_
    refine fx_la 0 27 (v := 2) (by decide +kernel) rfl (by decide +kernel) ?_
    refine fx_gi 2 0 17 30 (by decide +kernel) ?_
    try simp only [fu_app, fcy_app, Nat.reduceEqDiff, and_true, and_false, false_and, true_and, if_true, if_false, ite_true, ite_false, reduceIte, Int.reduceToNat, fx_simp0]
    rw [en]
    refine fx_ci (12) 32 (by decide +kernel) ?_
    refine fx_add 33 (by decide +kernel) rfl ?_
    refine fx_ci (1) 34 (by decide +kernel) ?_
    refine fx_sub 35 (by decide +kernel) rfl ?_
    refine fx_ci (12) 37 (by decide +kernel) ?_
    refine fx_bin 10 38 (by decide +kernel) rfl (fun _ => by decide) ?_
    refine fx_pi 2 0 17 41 (by decide +kernel) (by first | exact fop_R _ _ _ | (unfold fR; omega)) ?_
    rw [show fop 10 ((11 : Int) + 12 - 1) 12 = ((10 : Nat) : Int) from fop_rem12 22 (by decide)]
    refine fx_la 0 42 (v := 2) (by decide +kernel) rfl (by decide +kernel) ?_
    refine fx_dup 43 (by decide +kernel) rfl (by decide) ?_
    refine fx_gi 2 0 16 46 (by decide +kernel) ?_
    try simp only [fu_app, fcy_app, Nat.reduceEqDiff, and_true, and_false, false_and, true_and, if_true, if_false, ite_true, ite_false, reduceIte, Int.reduceToNat, fx_simp0]
    rw [ec]
    refine fx_ci (1) 47 (by decide +kernel) ?_
    refine fx_sub 48 (by decide +kernel) rfl ?_
    refine fx_pi 2 0 16 51 (by decide +kernel) (by unfold fR; omega) ?_
    refine fx_ci (1) 52 (by decide +kernel) ?_
    refine fx_retb (by decide +kernel) (by first | exact Or.inl rfl | exact Or.inr rfl | omega) ?_
    exact kq
  · refine fx_ci (0) 8 (by decide +kernel) ?_
    refine fx_retb (by decide +kernel) (by first | exact Or.inl rfl | exact Or.inr rfl | omega) ?_
    exfalso; omega
theorem sp_crem (n0 : 0 ≤ g 0 17) (n1 : g 0 17 < 12) (c0 : 0 ≤ g 0 16) (c1 : g 0 16 ≤ 12) (kq : ∀ i : Nat, i < 12 → i = ((g 0 17).toNat + 1) % 12 → Q 0 0 (cRem g i)) : fx W r 1 152 0 [2] [] g Q := by
  have hf := fop_rem12 ((g 0 17).toNat + 1) (by omega)
  rw [show (((g 0 17).toNat + 1 : Nat) : Int) = g 0 17 + 1 by omega] at hf
  generalize hm : ((g 0 17).toNat + 1) % 12 = i at hf kq
  have hl : i < 12 := by omega
  have kq := kq i hl rfl
  rcases (show i = 0 ∨ i = 1 ∨ i = 2 ∨ i = 3 ∨ i = 4 ∨ i = 5 ∨ i = 6 ∨ i = 7 ∨ i = 8 ∨ i = 9 ∨ i = 10 ∨ i = 11 by omega) with rfl | rfl | rfl | rfl | rfl | rfl | rfl | rfl | rfl | rfl | rfl | rfl
  · exact sp_crem_0 hf c0 c1 kq
  · exact sp_crem_1 hf c0 c1 kq
  · exact sp_crem_2 hf c0 c1 kq
  · exact sp_crem_3 hf c0 c1 kq
  · exact sp_crem_4 hf c0 c1 kq
  · exact sp_crem_5 hf c0 c1 kq
  · exact sp_crem_6 hf c0 c1 kq
  · exact sp_crem_7 hf c0 c1 kq
  · exact sp_crem_8 hf c0 c1 kq
  · exact sp_crem_9 hf c0 c1 kq
  · exact sp_crem_10 hf c0 c1 kq
  · exact sp_crem_11 hf c0 c1 kq
theorem sp_cund (n0 : 0 ≤ g 0 17) (n1 : g 0 17 < 12) (c1 : g 0 16 ≤ 12) (k0 : g 0 16 = 0 → Q 1 (fI 0) g) (kq : 1 ≤ g 0 16 → ∀ i : Nat, i < 12 → g 0 17 = (i : Int) → Q 1 (fI 1) (cUnd g i)) (c0 : 0 ≤ g 0 16) : fx W r 1 62 0 [2] [] g Q := by
  by_cases e : g 0 16 = 0
  · refine fx_rg (fun hg => ?_)
    refine fx_la 0 1 (v := 2) (by decide +kernel) rfl (by decide +kernel) ?_
    refine fx_gi 2 0 16 4 (by decide +kernel) ?_
    refine fx_zne 9 7 (by decide +kernel) (by first | exact hg 0 16 (by decide) (by decide +kernel) (by decide +kernel) | (unfold fR; omega)) (fun h4 => ?_) (fun h4 => ?_)
    · exact absurd e h4
    · refine fx_ci (0) 8 (by decide +kernel) ?_
      refine fx_retb (by decide +kernel) (by first | exact Or.inl rfl | exact Or.inr rfl | omega) ?_
      exact k0 e
  have kq := kq (by omega) (g 0 17).toNat (by omega) (by omega)
  have hm : g 0 17 = ((g 0 17).toNat : Int) := by omega
  generalize (g 0 17).toNat = i at hm kq
  have hl : i < 12 := by omega
  rcases (show i = 0 ∨ i = 1 ∨ i = 2 ∨ i = 3 ∨ i = 4 ∨ i = 5 ∨ i = 6 ∨ i = 7 ∨ i = 8 ∨ i = 9 ∨ i = 10 ∨ i = 11 by omega) with rfl | rfl | rfl | rfl | rfl | rfl | rfl | rfl | rfl | rfl | rfl | rfl
  · exact sp_cund_0 hm (by omega) c1 kq
  · exact sp_cund_1 hm (by omega) c1 kq
  · exact sp_cund_2 hm (by omega) c1 kq
  · exact sp_cund_3 hm (by omega) c1 kq
  · exact sp_cund_4 hm (by omega) c1 kq
  · exact sp_cund_5 hm (by omega) c1 kq
  · exact sp_cund_6 hm (by omega) c1 kq
  · exact sp_cund_7 hm (by omega) c1 kq
  · exact sp_cund_8 hm (by omega) c1 kq
  · exact sp_cund_9 hm (by omega) c1 kq
  · exact sp_cund_10 hm (by omega) c1 kq
  · exact sp_cund_11 hm (by omega) c1 kq
end FHG
