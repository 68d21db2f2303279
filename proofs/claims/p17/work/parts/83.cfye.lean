/-! fx: the image -/
def cpL (g : Nat → Nat → Int) (a b : Nat) : Nat → Nat → Int := fu (fu (fcy (fcy (fcy (fcy (fcy g (a + 1) (b + 1)) (a + 2) (b + 2)) (a + 3) (b + 3)) (a + 4) (b + 4)) (a + 5) (b + 5)) b 7 (g a 7)) b 8 (g a 8)
theorem cpL_ne {g : Nat → Nat → Int} {a b c j : Nat} (h : c < b ∨ b + 5 < c) : cpL g a b c j = g c j := by
  unfold cpL
  rw [fu_nc (by omega), fu_nc (by omega), fcy_app, if_neg (by omega), fcy_app, if_neg (by omega), fcy_app, if_neg (by omega), fcy_app, if_neg (by omega), fcy_app, if_neg (by omega)]
section FYE
variable {W : ax_W} {r : Nat} {g : Nat → Nat → Int} {Q : Nat → Nat → (Nat → Nat → Int) → Prop}
theorem sp_cpL_law_image (kq : Q 0 0 (cpL g 8 61)) : fx W r 0 66 0 [490, 66] [] g Q := by
  refine fx_rg (fun hg => ?_)
  have v7 := hg 8 7 (by decide) (by decide +kernel) (by decide +kernel)
  have v8 := hg 8 8 (by decide) (by decide +kernel) (by decide +kernel)
  unfold fR at v7 v8
  refine fx_la 1 1 (v := 66) (by decide +kernel) rfl (by decide +kernel) ?_
  refine fx_gp 66 8 0 74 4 (by decide +kernel) ?_
  refine fx_ci (0) 5 (by decide +kernel) ?_
  refine fx_la 0 6 (v := 490) (by decide +kernel) rfl (by decide +kernel) ?_
  refine fx_gp 490 61 0 498 9 (by decide +kernel) ?_
  refine fx_ci (0) 10 (by decide +kernel) ?_
  refine fx_ci (12) 12 (by decide +kernel) ?_
  refine fx_cpy 74 9 498 62 12 15 (by decide +kernel) rfl ?_
  refine fx_la 1 16 (v := 66) (by decide +kernel) rfl (by decide +kernel) ?_
  refine fx_gp 66 8 1 82 19 (by decide +kernel) ?_
  refine fx_ci (0) 20 (by decide +kernel) ?_
  refine fx_la 0 21 (v := 490) (by decide +kernel) rfl (by decide +kernel) ?_
  refine fx_gp 490 61 1 506 24 (by decide +kernel) ?_
  refine fx_ci (0) 25 (by decide +kernel) ?_
  refine fx_ci (12) 27 (by decide +kernel) ?_
  refine fx_cpy 82 10 506 63 12 30 (by decide +kernel) rfl ?_
  refine fx_la 1 31 (v := 66) (by decide +kernel) rfl (by decide +kernel) ?_
  refine fx_gp 66 8 2 90 34 (by decide +kernel) ?_
  refine fx_ci (0) 35 (by decide +kernel) ?_
  refine fx_la 0 36 (v := 490) (by decide +kernel) rfl (by decide +kernel) ?_
  refine fx_gp 490 61 2 514 39 (by decide +kernel) ?_
  refine fx_ci (0) 40 (by decide +kernel) ?_
  refine fx_ci (12) 42 (by decide +kernel) ?_
  refine fx_cpy 90 11 514 64 12 45 (by decide +kernel) rfl ?_
  refine fx_la 1 46 (v := 66) (by decide +kernel) rfl (by decide +kernel) ?_
  refine fx_gp 66 8 3 98 49 (by decide +kernel) ?_
  refine fx_ci (0) 50 (by decide +kernel) ?_
  refine fx_la 0 51 (v := 490) (by decide +kernel) rfl (by decide +kernel) ?_
  refine fx_gp 490 61 3 522 54 (by decide +kernel) ?_
  refine fx_ci (0) 55 (by decide +kernel) ?_
  refine fx_ci (12) 57 (by decide +kernel) ?_
  refine fx_cpy 98 12 522 65 12 60 (by decide +kernel) rfl ?_
  refine fx_la 1 61 (v := 66) (by decide +kernel) rfl (by decide +kernel) ?_
  refine fx_gp 66 8 4 106 64 (by decide +kernel) ?_
  refine fx_ci (0) 65 (by decide +kernel) ?_
  refine fx_la 0 66 (v := 490) (by decide +kernel) rfl (by decide +kernel) ?_
  refine fx_gp 490 61 4 530 69 (by decide +kernel) ?_
  refine fx_ci (0) 70 (by decide +kernel) ?_
  refine fx_ci (400) 73 (by decide +kernel) ?_
  refine fx_cpy 106 13 530 66 400 76 (by decide +kernel) rfl ?_
  refine fx_la 0 77 (v := 490) (by decide +kernel) rfl (by decide +kernel) ?_
  refine fx_la 1 78 (v := 66) (by decide +kernel) rfl (by decide +kernel) ?_
  refine fx_gi 66 8 7 81 (by decide +kernel) ?_
  try simp only [fu_app, fcy_app, Nat.reduceEqDiff, and_true, and_false, false_and, true_and, if_true, if_false, ite_true, ite_false, reduceIte, Int.reduceToNat, fx_simp0]
  refine fx_pi 490 61 7 84 (by decide +kernel) (by unfold fR; omega) ?_
  refine fx_la 0 85 (v := 490) (by decide +kernel) rfl (by decide +kernel) ?_
  refine fx_la 1 86 (v := 66) (by decide +kernel) rfl (by decide +kernel) ?_
  refine fx_gi 66 8 8 89 (by decide +kernel) ?_
  try simp only [fu_app, fcy_app, Nat.reduceEqDiff, and_true, and_false, false_and, true_and, if_true, if_false, ite_true, ite_false, reduceIte, Int.reduceToNat, fx_simp0]
  refine fx_pi 490 61 8 92 (by decide +kernel) (by unfold fR; omega) ?_
  refine fx_vret (by decide +kernel) ?_
  exact kq
theorem sp_cpL_image_law (kq : Q 0 0 (cpL g 61 8)) : fx W r 0 66 0 [66, 490] [] g Q := by
  refine fx_rg (fun hg => ?_)
  have v7 := hg 61 7 (by decide) (by decide +kernel) (by decide +kernel)
  have v8 := hg 61 8 (by decide) (by decide +kernel) (by decide +kernel)
  unfold fR at v7 v8
  refine fx_la 1 1 (v := 490) (by decide +kernel) rfl (by decide +kernel) ?_
  refine fx_gp 490 61 0 498 4 (by decide +kernel) ?_
  refine fx_ci (0) 5 (by decide +kernel) ?_
  refine fx_la 0 6 (v := 66) (by decide +kernel) rfl (by decide +kernel) ?_
  refine fx_gp 66 8 0 74 9 (by decide +kernel) ?_
  refine fx_ci (0) 10 (by decide +kernel) ?_
  refine fx_ci (12) 12 (by decide +kernel) ?_
  refine fx_cpy 498 62 74 9 12 15 (by decide +kernel) rfl ?_
  refine fx_la 1 16 (v := 490) (by decide +kernel) rfl (by decide +kernel) ?_
  refine fx_gp 490 61 1 506 19 (by decide +kernel) ?_
  refine fx_ci (0) 20 (by decide +kernel) ?_
  refine fx_la 0 21 (v := 66) (by decide +kernel) rfl (by decide +kernel) ?_
  refine fx_gp 66 8 1 82 24 (by decide +kernel) ?_
  refine fx_ci (0) 25 (by decide +kernel) ?_
  refine fx_ci (12) 27 (by decide +kernel) ?_
  refine fx_cpy 506 63 82 10 12 30 (by decide +kernel) rfl ?_
  refine fx_la 1 31 (v := 490) (by decide +kernel) rfl (by decide +kernel) ?_
  refine fx_gp 490 61 2 514 34 (by decide +kernel) ?_
  refine fx_ci (0) 35 (by decide +kernel) ?_
  refine fx_la 0 36 (v := 66) (by decide +kernel) rfl (by decide +kernel) ?_
  refine fx_gp 66 8 2 90 39 (by decide +kernel) ?_
  refine fx_ci (0) 40 (by decide +kernel) ?_
  refine fx_ci (12) 42 (by decide +kernel) ?_
  refine fx_cpy 514 64 90 11 12 45 (by decide +kernel) rfl ?_
  refine fx_la 1 46 (v := 490) (by decide +kernel) rfl (by decide +kernel) ?_
  refine fx_gp 490 61 3 522 49 (by decide +kernel) ?_
  refine fx_ci (0) 50 (by decide +kernel) ?_
  refine fx_la 0 51 (v := 66) (by decide +kernel) rfl (by decide +kernel) ?_
  refine fx_gp 66 8 3 98 54 (by decide +kernel) ?_
  refine fx_ci (0) 55 (by decide +kernel) ?_
  refine fx_ci (12) 57 (by decide +kernel) ?_
  refine fx_cpy 522 65 98 12 12 60 (by decide +kernel) rfl ?_
  refine fx_la 1 61 (v := 490) (by decide +kernel) rfl (by decide +kernel) ?_
  refine fx_gp 490 61 4 530 64 (by decide +kernel) ?_
  refine fx_ci (0) 65 (by decide +kernel) ?_
  refine fx_la 0 66 (v := 66) (by decide +kernel) rfl (by decide +kernel) ?_
  refine fx_gp 66 8 4 106 69 (by decide +kernel) ?_
  refine fx_ci (0) 70 (by decide +kernel) ?_
  refine fx_ci (400) 73 (by decide +kernel) ?_
  refine fx_cpy 530 66 106 13 400 76 (by decide +kernel) rfl ?_
  refine fx_la 0 77 (v := 66) (by decide +kernel) rfl (by decide +kernel) ?_
  refine fx_la 1 78 (v := 490) (by decide +kernel) rfl (by decide +kernel) ?_
  refine fx_gi 490 61 7 81 (by decide +kernel) ?_
  try simp only [fu_app, fcy_app, Nat.reduceEqDiff, and_true, and_false, false_and, true_and, if_true, if_false, ite_true, ite_false, reduceIte, Int.reduceToNat, fx_simp0]
  refine fx_pi 66 8 7 84 (by decide +kernel) (by unfold fR; omega) ?_
  refine fx_la 0 85 (v := 66) (by decide +kernel) rfl (by decide +kernel) ?_
  refine fx_la 1 86 (v := 490) (by decide +kernel) rfl (by decide +kernel) ?_
  refine fx_gi 490 61 8 89 (by decide +kernel) ?_
  try simp only [fu_app, fcy_app, Nat.reduceEqDiff, and_true, and_false, false_and, true_and, if_true, if_false, ite_true, ite_false, reduceIte, Int.reduceToNat, fx_simp0]
  refine fx_pi 66 8 8 92 (by decide +kernel) (by unfold fR; omega) ?_
  refine fx_vret (by decide +kernel) ?_
  exact kq
theorem sp_cimage (kq : ∀ g', (∀ c j, ¬ (56 ≤ c ∧ c ≤ 69 + 5) → ¬ (c = 0 ∧ j = 15) → g' c j = g c j) → g' 0 15 = 1 → (∀ j, 4 ≤ j → j ≤ 9 → g' 56 j = g 3 j) → (∀ i j, 1 ≤ i → i ≤ 4 → g' (56 + i) j = g (3 + i) j) → Q 0 0 g') : fx W r 1 64 0 [2] [] g Q := by
  refine fx_la 0 1 (v := 2) (by decide +kernel) rfl (by decide +kernel) ?_
  refine fx_gp 2 0 11 450 4 (by decide +kernel) ?_
  refine fx_la 0 5 (v := 2) (by decide +kernel) rfl (by decide +kernel) ?_
  refine fx_gp 2 0 1 26 8 (by decide +kernel) ?_
  refine fx_c2 65 21 11 0 [] (by decide +kernel) (by decide) (by decide) (by decide) rfl (by first | decide | omega) ?_
  refine sp_cpH_house_image (fK0 ?_)
  refine fx_la 0 12 (v := 2) (by decide +kernel) rfl (by decide +kernel) ?_
  refine fx_gp 2 0 12 490 15 (by decide +kernel) ?_
  refine fx_la 0 16 (v := 2) (by decide +kernel) rfl (by decide +kernel) ?_
  refine fx_gp 2 0 2 66 19 (by decide +kernel) ?_
  refine fx_c2 66 21 22 0 [] (by decide +kernel) (by decide) (by decide) (by decide) rfl (by first | decide | omega) ?_
  refine sp_cpL_law_image (fK0 ?_)
  refine fx_la 0 23 (v := 2) (by decide +kernel) rfl (by decide +kernel) ?_
  refine fx_gp 2 0 13 554 26 (by decide +kernel) ?_
  refine fx_la 0 27 (v := 2) (by decide +kernel) rfl (by decide +kernel) ?_
  refine fx_gp 2 0 3 130 30 (by decide +kernel) ?_
  refine fx_c2 63 21 33 0 [] (by decide +kernel) (by decide) (by decide) (by decide) rfl (by first | decide | omega) ?_
  refine sp_cpT_table_image (fK0 ?_)
  refine fx_la 0 34 (v := 2) (by decide +kernel) rfl (by decide +kernel) ?_
  refine fx_ci (1) 35 (by decide +kernel) ?_
  refine fx_pb 2 0 15 38 (by decide +kernel) (by first | exact Or.inl rfl | exact Or.inr rfl | omega) ?_
  refine fx_vret (by decide +kernel) ?_
  refine kq _ (fun c j h1 h2 => ?_) ?_ (fun j h1 h2 => ?_) (fun i j h1 h2 => ?_)
  · rw [fu_ne (by omega), cpT_ne (by omega), cpL_ne (by omega), cpH_ne (by omega)]
  · rw [fu_eq]
  · rw [fu_nc (by decide), cpT_ne (by decide), cpL_ne (by decide), cpH_f h1 h2]
  · rw [fu_nc (by omega), cpT_ne (by omega), cpL_ne (by omega), cpH_a h1 h2 (by decide)]
theorem sp_cback (hk : g 0 15 = 0 ∨ g 0 15 = 1) (k0 : g 0 15 = 0 → Q 1 (fI 0) g) (k1 : g 0 15 = 1 → ∀ g', (∀ c j, ¬ (3 ≤ c ∧ c ≤ 16 + 5) → ¬ (c = 0 ∧ j = 16) → g' c j = g c j) → (∀ j, 4 ≤ j → j ≤ 9 → g' 3 j = g 56 j) → (∀ i j, 1 ≤ i → i ≤ 4 → g' (3 + i) j = g (56 + i) j) → Q 1 (fI 1) g') : fx W r 1 67 0 [2] [] g Q := by
  refine fx_la 0 1 (v := 2) (by decide +kernel) rfl (by decide +kernel) ?_
  refine fx_gi 2 0 15 4 (by decide +kernel) ?_
  refine fx_zne 9 7 (by decide +kernel) (by first | exact hg 0 15 (by decide) (by decide +kernel) (by decide +kernel) | (unfold fR; omega)) (fun h4 => ?_) (fun h4 => ?_)
  · refine fx_la 0 10 (v := 2) (by decide +kernel) rfl (by decide +kernel) ?_
    refine fx_gp 2 0 1 26 13 (by decide +kernel) ?_
    refine fx_la 0 14 (v := 2) (by decide +kernel) rfl (by decide +kernel) ?_
    refine fx_gp 2 0 11 450 17 (by decide +kernel) ?_
    refine fx_c2 65 21 20 0 [] (by decide +kernel) (by decide) (by decide) (by decide) rfl (by first | decide | omega) ?_
    refine sp_cpH_image_house (fK0 ?_)
    refine fx_la 0 21 (v := 2) (by decide +kernel) rfl (by decide +kernel) ?_
    refine fx_gp 2 0 2 66 24 (by decide +kernel) ?_
    refine fx_la 0 25 (v := 2) (by decide +kernel) rfl (by decide +kernel) ?_
    refine fx_gp 2 0 12 490 28 (by decide +kernel) ?_
    refine fx_c2 66 21 31 0 [] (by decide +kernel) (by decide) (by decide) (by decide) rfl (by first | decide | omega) ?_
    refine sp_cpL_image_law (fK0 ?_)
    refine fx_la 0 32 (v := 2) (by decide +kernel) rfl (by decide +kernel) ?_
    refine fx_gp 2 0 3 130 35 (by decide +kernel) ?_
    refine fx_la 0 36 (v := 2) (by decide +kernel) rfl (by decide +kernel) ?_
    refine fx_gp 2 0 13 554 39 (by decide +kernel) ?_
    refine fx_c2 63 21 42 0 [] (by decide +kernel) (by decide) (by decide) (by decide) rfl (by first | decide | omega) ?_
    refine sp_cpT_image_table (fK0 ?_)
    refine fx_la 0 43 (v := 2) (by decide +kernel) rfl (by decide +kernel) ?_
    refine fx_ci (0) 44 (by decide +kernel) ?_
    refine fx_pi 2 0 16 47 (by decide +kernel) (by unfold fR; omega) ?_
    refine fx_ci (1) 48 (by decide +kernel) ?_
    refine fx_retb (by decide +kernel) (by first | exact Or.inl rfl | exact Or.inr rfl | omega) ?_
    refine k1 (by omega) _ (fun c j h1 h2 => ?_) (fun j h1 h2 => ?_) (fun i j h1 h2 => ?_)
    · rw [fu_ne (by omega), cpT_ne (by omega), cpL_ne (by omega), cpH_ne (by omega)]
    · rw [fu_nc (by decide), cpT_ne (by decide), cpL_ne (by decide), cpH_f h1 h2]
    · rw [fu_nc (by omega), cpT_ne (by omega), cpL_ne (by omega), cpH_a h1 h2 (by decide)]
  · refine fx_ci (0) 8 (by decide +kernel) ?_
    refine fx_retb (by decide +kernel) (by first | exact Or.inl rfl | exact Or.inr rfl | omega) ?_
    exact k0 (by omega)
theorem sp_mimage_1 (kq : ∀ g', g' = fu (fcpn g 149 150 764) 148 3 1 → Q 0 0 g') : ∀ (n k : Nat), k + n = 764 → fx W r 0 409 7 [1186, fI (k : Int)] [] (fcpn g 149 150 k) Q
  | n, k, hn => by
    refine fx_rg (fun hg => ?_)
    refine fx_li 1 8 (by decide +kernel) rfl ?_
    refine fx_ci (764) 11 (by decide +kernel) ?_
    refine fx_ige 32 14 (by decide +kernel) (by unfold fR; omega) (by unfold fR; omega) (fun h11 => ?_) (fun h11 => ?_)
    · refine fx_la 0 33 (v := 1186) (by decide +kernel) rfl (by decide +kernel) ?_
      refine fx_ci (1) 34 (by decide +kernel) ?_
      refine fx_pb 1186 148 3 37 (by decide +kernel) (by first | exact Or.inl rfl | exact Or.inr rfl | omega) ?_
      refine fx_vret (by decide +kernel) ?_
      have e : k = 764 := by omega
      subst e
      exact kq _ rfl
    · refine fx_la 0 15 (v := 1186) (by decide +kernel) rfl (by decide +kernel) ?_
      refine fx_gp 1186 148 2 1202 18 (by decide +kernel) ?_
      refine fx_li 1 19 (by decide +kernel) rfl ?_
      refine fx_la 0 20 (v := 1186) (by decide +kernel) rfl (by decide +kernel) ?_
      refine fx_gp 1186 148 1 1194 23 (by decide +kernel) ?_
      refine fx_li 1 24 (by decide +kernel) rfl ?_
      refine fx_al 1194 149 764 25 (by decide +kernel) rfl (by omega) (by omega) rfl ?_
      have hv := hgA hg 764 (c := 149) (j := k) (by decide +kernel) (by omega)
      rw [show ((k : Int)).toNat = k from rfl]
      rw [fcpn_nc (by decide)] at hv ⊢
      unfold fR at hv
      refine fx_as 1202 150 764 26 (by decide +kernel) rfl (by omega) (by omega) rfl (by unfold fR; omega) ?_
      rw [show ((k : Int)).toNat = k from rfl, fcpn_s]
      refine fx_inc 1 29 (1) (by decide +kernel) rfl (Or.inr (f_n4p (v := 1186) rfl (by decide))) rfl ?_
      dsimp only [List.set]
      refine fx_go 7 (by decide +kernel) ?_
      match n, hn with
      | 0, hn => exfalso; omega
      | n + 1, hn => exact sp_mimage_1 kq n (k + 1) (by omega)
theorem sp_mimage (kq : ∀ g', (∀ c j, c ≠ 150 → ¬ (c = 148 ∧ (j = 0 ∨ j = 3)) → g' c j = g c j) → g' 148 3 = 1 → (∀ j, j < 764 → g' 150 j = g 149 j) → Q 0 0 g') : fx W r 0 409 0 [1186, 7] [] g Q := by
  refine fx_la 0 1 (v := 1186) (by decide +kernel) rfl (by decide +kernel) ?_
  refine fx_ci (0) 2 (by decide +kernel) ?_
  refine fx_pi 1186 148 0 5 (by decide +kernel) (by unfold fR; omega) ?_
  refine fx_ci (0) 6 (by decide +kernel) ?_
  refine fx_si 1 7 (by decide +kernel) (Or.inr (f_n4p (v := 1186) rfl (by decide))) rfl ?_
  dsimp only [List.set]
  have st := sp_mimage_1 (W := W) (r := r) (Q := Q) (g := fu g 148 0 0) ?_ 764 0 rfl
  · rw [fcpn_0] at st
    exact st
  · intro g' e
    subst e
    refine kq _ (fun c j h1 h2 => ?_) (fu_eq _ _ _ _) (fun j hj => ?_)
    · rw [fu_ne (by omega), fcpn_nc h1, fu_ne (by omega)]
    · rw [fu_nc (by decide)]
      have : fcpn (fu g 148 0 0) 149 150 764 150 j = fu g 148 0 0 149 j := if_pos ⟨rfl, hj⟩
      rw [this, fu_nc (by decide)]
theorem sp_mback_1 (kq : ∀ g', g' = fu (fcpn g 150 149 764) 148 6 0 → Q 1 (fI 1) g') : ∀ (n k : Nat), k + n = 764 → fx W r 0 410 16 [1186, fI (k : Int)] [] (fcpn g 150 149 k) Q
  | n, k, hn => by
    refine fx_rg (fun hg => ?_)
    refine fx_li 1 17 (by decide +kernel) rfl ?_
    refine fx_ci (764) 20 (by decide +kernel) ?_
    refine fx_ige 41 23 (by decide +kernel) (by unfold fR; omega) (by unfold fR; omega) (fun h20 => ?_) (fun h20 => ?_)
    · refine fx_la 0 42 (v := 1186) (by decide +kernel) rfl (by decide +kernel) ?_
      refine fx_ci (0) 43 (by decide +kernel) ?_
      refine fx_pi 1186 148 6 46 (by decide +kernel) (by unfold fR; omega) ?_
      refine fx_ci (1) 47 (by decide +kernel) ?_
      refine fx_retb (by decide +kernel) (by first | exact Or.inl rfl | exact Or.inr rfl | omega) ?_
      have e : k = 764 := by omega
      subst e
      exact kq _ rfl
    · refine fx_la 0 24 (v := 1186) (by decide +kernel) rfl (by decide +kernel) ?_
      refine fx_gp 1186 148 1 1194 27 (by decide +kernel) ?_
      refine fx_li 1 28 (by decide +kernel) rfl ?_
      refine fx_la 0 29 (v := 1186) (by decide +kernel) rfl (by decide +kernel) ?_
      refine fx_gp 1186 148 2 1202 32 (by decide +kernel) ?_
      refine fx_li 1 33 (by decide +kernel) rfl ?_
      refine fx_al 1202 150 764 34 (by decide +kernel) rfl (by omega) (by omega) rfl ?_
      have hv := hgA hg 764 (c := 150) (j := k) (by decide +kernel) (by omega)
      rw [show ((k : Int)).toNat = k from rfl]
      rw [fcpn_nc (by decide)] at hv ⊢
      unfold fR at hv
      refine fx_as 1194 149 764 35 (by decide +kernel) rfl (by omega) (by omega) rfl (by unfold fR; omega) ?_
      rw [show ((k : Int)).toNat = k from rfl, fcpn_s]
      refine fx_inc 1 38 (1) (by decide +kernel) rfl (Or.inr (f_n4p (v := 1186) rfl (by decide))) rfl ?_
      dsimp only [List.set]
      refine fx_go 16 (by decide +kernel) ?_
      match n, hn with
      | 0, hn => exfalso; omega
      | n + 1, hn => exact sp_mback_1 kq n (k + 1) (by omega)
theorem sp_mback (hk : g 148 3 = 0 ∨ g 148 3 = 1) (k0 : g 148 3 = 0 → Q 1 (fI 0) (fu g 148 0 0)) (k1 : g 148 3 = 1 → ∀ g', (∀ c j, c ≠ 149 → ¬ (c = 148 ∧ (j = 0 ∨ j = 6)) → g' c j = g c j) → g' 148 6 = 0 → (∀ j, j < 764 → g' 149 j = g 150 j) → Q 1 (fI 1) g') : fx W r 0 410 0 [1186, 7] [] g Q := by
  refine fx_la 0 1 (v := 1186) (by decide +kernel) rfl (by decide +kernel) ?_
  refine fx_ci (0) 2 (by decide +kernel) ?_
  refine fx_pi 1186 148 0 5 (by decide +kernel) (by unfold fR; omega) ?_
  refine fx_la 0 6 (v := 1186) (by decide +kernel) rfl (by decide +kernel) ?_
  refine fx_gi 1186 148 3 9 (by decide +kernel) ?_
  try simp only [fu_app, fcy_app, Nat.reduceEqDiff, and_true, and_false, false_and, true_and, if_true, if_false, ite_true, ite_false, reduceIte, Int.reduceToNat, fx_simp0]
  refine fx_zne 14 12 (by decide +kernel) (by unfold fR; omega) (fun h9 => ?_) (fun h9 => ?_)
  · refine fx_ci (0) 15 (by decide +kernel) ?_
    refine fx_si 1 16 (by decide +kernel) (Or.inr (f_n4p (v := 1186) rfl (by decide))) rfl ?_
    dsimp only [List.set]
    have st := sp_mback_1 (W := W) (r := r) (Q := Q) (g := fu g 148 0 0) ?_ 764 0 rfl
    · rw [fcpn_0] at st
      exact st
    · intro g' e
      subst e
      refine k1 (by omega) _ (fun c j h1 h2 => ?_) (fu_eq _ _ _ _) (fun j hj => ?_)
      · rw [fu_ne (by omega), fcpn_nc h1, fu_ne (by omega)]
      · rw [fu_nc (by decide)]
        have : fcpn (fu g 148 0 0) 150 149 764 149 j = fu g 148 0 0 150 j := if_pos ⟨rfl, hj⟩
        rw [this, fu_nc (by decide)]
  · refine fx_ci (0) 13 (by decide +kernel) ?_
    refine fx_retb (by decide +kernel) (by first | exact Or.inl rfl | exact Or.inr rfl | omega) ?_
    exact k0 (by omega)
end FYE
