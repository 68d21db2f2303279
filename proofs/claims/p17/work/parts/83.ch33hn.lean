/-! fx: one leaves, comes home, is held to live, votes, promises: the class -/
theorem cRem_ne {g : Nat → Nat → Int} {i c j : Nat} (hi : i < 12) (h1 : ¬ (c = 0 ∧ (j = 17 ∨ j = 16))) (h2 : c < 76 ∨ 147 < c) : cRem g i c j = g c j := by
  unfold cRem
  rw [fu_ne (by omega), cpT_ne (by omega), fu_ne (by omega)]
/-- what holds of the class's own in any case -/
def cBd (g : Nat → Nat → Int) : Prop := (0 ≤ g 3 4 ∧ g 3 4 ≤ 8) ∧ (0 ≤ g 0 17 ∧ g 0 17 < 12) ∧ (0 ≤ g 0 16 ∧ g 0 16 ≤ 12) ∧ (0 ≤ g 16 5 ∧ g 16 5 < 60) ∧ (0 ≤ g 16 6 ∧ g 16 6 ≤ 60) ∧ (0 ≤ g 16 9 ∧ g 16 9 ≤ 9999) ∧ (0 ≤ g 16 8 ∧ g 16 8 ≤ 9999) ∧ (∀ p : Nat, p < 8 → 0 ≤ g 4 p ∧ g 4 p ≤ 99) ∧ ∀ p : Nat, p < 8 → -1 ≤ g 17 p ∧ g 17 p ≤ 7
section FHN
variable {W : ax_W} {r : Nat} {g : Nat → Nat → Int} {Q : Nat → Nat → (Nat → Nat → Int) → Prop}
theorem sp_caddIron {v : Int} (h0 : 0 ≤ g 16 8) (h1 : g 16 8 ≤ 9999) (v0 : 0 ≤ v) (v1 : v ≤ 99) (kq : Q 0 0 (fu g 16 8 (if 9999 < g 16 8 + v then 9999 else g 16 8 + v))) : fx W r 1 157 0 [130, fI v] [] g Q := by
  have mn : ∀ (g : Nat → Nat → Int) (Q : Nat → Nat → (Nat → Nat → Int) → Prop) (z : Int), fR z → Q 1 (fI (if 9999 < z then 9999 else z)) g → fx (fWl W 0) r 0 158 0 [fI 9999, fI z] [] g Q := fun g Q z hz kq => by
    unfold fR at hz
    refine fx_li 0 1 (by decide +kernel) rfl ?_
    refine fx_li 1 2 (by decide +kernel) rfl ?_
    refine fx_igt 9 5 (by decide +kernel) (by unfold fR; omega) (by unfold fR; omega) (fun h2 => ?_) (fun h2 => ?_)
    · refine fx_li 1 10 (by decide +kernel) rfl ?_
      refine fx_ret (by decide +kernel) ?_
      rw [show (if 9999 < z then (9999 : Int) else z) = z by split <;> omega] at kq
      exact kq
    · refine fx_li 0 6 (by decide +kernel) rfl ?_
      refine fx_go 10 (by decide +kernel) ?_
      refine fx_ret (by decide +kernel) ?_
      rw [show (if 9999 < z then (9999 : Int) else z) = 9999 by split <;> omega] at kq
      exact kq
  refine fx_la 0 1 (v := 130) (by decide +kernel) rfl (by decide +kernel) ?_
  refine fx_ci (9999) 4 (by decide +kernel) ?_
  refine fx_la 0 5 (v := 130) (by decide +kernel) rfl (by decide +kernel) ?_
  refine fx_gi 130 16 8 8 (by decide +kernel) ?_
  refine fx_li 1 9 (by decide +kernel) rfl ?_
  refine fx_add 10 (by decide +kernel) rfl ?_
  refine fx_c2 158 22 13 0 [] (f_q22 (by decide +kernel)) (by decide) (fI_n4 _) (fI_n4 _) rfl (by first | decide | omega) ?_
  refine mn _ _ _ (by unfold fR; omega) (fK1 ?_)
  generalize hz : (if 9999 < g 16 8 + v then 9999 else g 16 8 + v) = z at kq ⊢
  have hz2 : 0 ≤ z ∧ z ≤ 9999 := by rw [← hz]; split <;> omega
  refine fx_pi 130 16 8 16 (by decide +kernel) (by unfold fR; omega) ?_
  refine fx_vret (by decide +kernel) ?_
  exact kq
theorem sp_cleave {a : Int} (hr : 1 ≤ r) (ha : fR a) (hb : cBd g) (k1 : ¬ (0 ≤ a ∧ a < g 3 4) → Q 4 0 g)
    (k2 : ∀ p : Nat, a = p → (p : Int) < g 3 4 → ¬ ((g 17 p = -1 ∧ fbt (g 16 7) p ≠ 1) ∧ g 4 p ≤ g 16 8) → Q 6 0 g)
    (k3 : ∀ p : Nat, a = p → (p : Int) < g 3 4 → g 17 p = -1 → fbt (g 16 7) p ≠ 1 → g 4 p ≤ g 16 8 → ∀ i : Nat, i < 12 → i = ((g 0 17).toNat + 1) % 12 → Q 1 (fI (g 16 8 - g 4 p)) (cNote 16 (fu (fu (cRem g i) 17 p 0) 16 8 (g 16 8 - g 4 p)) p 0 0)) : fx W r 2 150 0 [2, fI a, 7] [] g Q := by
  obtain ⟨b0, bn, bc, b5, b6, b9, b8, bw, bp⟩ := hb
  refine fx_rg (fun hg => ?_)
  refine fx_la 0 1 (v := 2) (by decide +kernel) rfl (by decide +kernel) ?_
  refine fx_li 1 2 (by decide +kernel) rfl ?_
  refine fx_c2 123 21 5 0 [] (by decide +kernel) (by decide) (by decide) (fI_n4 _) rfl (by first | decide | omega) ?_
  refine sp_cneedPerson hr ha b0.1 b0.2 (fun t => fK0 ?_) (fun t => fK2 (k := 2) ?_)
  · obtain ⟨p, rfl⟩ := Int.eq_ofNat_of_zero_le t.1
    have hp : p < 8 := by omega
    have bwp := bw p hp
    have bpp := bp p hp
    have h01 := fbt_01 (g 16 7) p
    refine fx_la 0 6 (v := 2) (by decide +kernel) rfl (by decide +kernel) ?_
    refine fx_gp 2 0 1 26 9 (by decide +kernel) ?_
    refine fx_gp 26 3 0 34 12 (by decide +kernel) ?_
    refine fx_li 1 13 (by decide +kernel) rfl ?_
    refine fx_al 34 4 8 14 (by decide +kernel) rfl (by omega) (by omega) rfl ?_
    try simp only [fu_app, fcy_app, Nat.reduceEqDiff, and_true, and_false, false_and, true_and, if_true, if_false, ite_true, ite_false, reduceIte, Int.reduceToNat, fx_simp0]
    rw [show ((p : Int)).toNat = p from rfl]
    refine fx_si 2 15 (by decide +kernel) (Or.inr (fI_n4 _)) rfl ?_
    dsimp only [List.set]
    refine fx_la 0 16 (v := 2) (by decide +kernel) rfl (by decide +kernel) ?_
    refine fx_gp 2 0 3 130 19 (by decide +kernel) ?_
    refine fx_gp 130 16 0 138 22 (by decide +kernel) ?_
    refine fx_li 1 23 (by decide +kernel) rfl ?_
    refine fx_al 138 17 8 24 (by decide +kernel) rfl (by omega) (by omega) rfl ?_
    try simp only [fu_app, fcy_app, Nat.reduceEqDiff, and_true, and_false, false_and, true_and, if_true, if_false, ite_true, ite_false, reduceIte, Int.reduceToNat, fx_simp0]
    rw [show ((p : Int)).toNat = p from rfl]
    refine fx_ci (-1) 25 (by decide +kernel) ?_
    refine fx_ine 50 28 (by decide +kernel) (by unfold fR; omega) (by unfold fR; omega) (fun h25 => ?_) (fun h25 => ?_)
    · refine fx_throw 4 (by decide +kernel) rfl (by omega) ?_
      exact k2 p rfl (by omega) (fun q => h25 q.1.1)
    · refine fx_la 0 29 (v := 2) (by decide +kernel) rfl (by decide +kernel) ?_
      refine fx_gp 2 0 3 130 32 (by decide +kernel) ?_
      refine fx_li 1 33 (by decide +kernel) rfl ?_
      refine fx_c2 44 21 36 1 [] (by decide +kernel) (by decide) (by decide) (fI_n4 _) rfl (by first | decide | omega) ?_
      refine sp_cisDead_table (fK1 ?_)
      refine fx_zne 50 39 (by decide +kernel) (by unfold fR; omega) (fun h36 => ?_) (fun h36 => ?_)
      · refine fx_throw 4 (by decide +kernel) rfl (by omega) ?_
        exact k2 p rfl (by omega) (fun q => q.1.2 (by have := fbt_01 (g 16 7) p; omega))
      · refine fx_la 0 40 (v := 2) (by decide +kernel) rfl (by decide +kernel) ?_
        refine fx_gp 2 0 3 130 43 (by decide +kernel) ?_
        refine fx_gi 130 16 8 46 (by decide +kernel) ?_
        try simp only [fu_app, fcy_app, Nat.reduceEqDiff, and_true, and_false, false_and, true_and, if_true, if_false, ite_true, ite_false, reduceIte, Int.reduceToNat, fx_simp0]
        refine fx_li 2 47 (by decide +kernel) rfl ?_
        refine fx_ige 60 50 (by decide +kernel) (by unfold fR; omega) (by unfold fR; omega) (fun h47 => ?_) (fun h47 => ?_)
        · refine fx_la 0 61 (v := 2) (by decide +kernel) rfl (by decide +kernel) ?_
          refine fx_c1 152 21 64 1 [] (by decide +kernel) (by decide) rfl (by first | decide | omega) ?_
          refine sp_crem bn.1 bn.2 bc.1 bc.2 (fun i hi hi2 => fK0 ?_)
          have k3 := k3 p rfl (by omega) h25 (by omega) (by omega) i hi hi2
          have eG : ∀ c j, 3 ≤ c → c < 76 → cRem g i c j = g c j := fun c j h1 h2 => cRem_ne hi (fun t => by omega) (Or.inl h2)
          generalize cRem g i = G at k3 eG ⊢
          refine fx_la 0 65 (v := 2) (by decide +kernel) rfl (by decide +kernel) ?_
          refine fx_gp 2 0 3 130 68 (by decide +kernel) ?_
          refine fx_gp 130 16 0 138 71 (by decide +kernel) ?_
          refine fx_li 1 72 (by decide +kernel) rfl ?_
          refine fx_ci (0) 73 (by decide +kernel) ?_
          refine fx_as 138 17 8 74 (by decide +kernel) rfl (by omega) (by omega) rfl (by unfold fR; omega) ?_
          refine fx_la 0 75 (v := 2) (by decide +kernel) rfl (by decide +kernel) ?_
          refine fx_gp 2 0 3 130 78 (by decide +kernel) ?_
          refine fx_dup 79 (by decide +kernel) rfl (by decide) ?_
          refine fx_gi 130 16 8 82 (by decide +kernel) ?_
          try simp only [fu_app, fcy_app, Nat.reduceEqDiff, and_true, and_false, false_and, true_and, if_true, if_false, ite_true, ite_false, reduceIte, Int.reduceToNat, fx_simp0]
          rw [eG _ _ (by decide) (by decide)]
          refine fx_li 2 83 (by decide +kernel) rfl ?_
          refine fx_sub 84 (by decide +kernel) rfl ?_
          refine fx_pi 130 16 8 87 (by decide +kernel) (by unfold fR; omega) ?_
          refine fx_la 0 88 (v := 2) (by decide +kernel) rfl (by decide +kernel) ?_
          refine fx_gp 2 0 3 130 91 (by decide +kernel) ?_
          refine fx_li 1 92 (by decide +kernel) rfl ?_
          refine fx_ci (0) 93 (by decide +kernel) ?_
          refine fx_ci (0) 94 (by decide +kernel) ?_
          refine fx_c4 153 21 97 0 [] (by decide +kernel) (by decide) (by decide) (fI_n4 _) (fI_n4 _) (fI_n4 _) rfl (by first | decide | omega) ?_
          refine sp_cnote_table (by rw [fu_nj (by decide), fu_nc (by decide), eG _ _ (by decide) (by decide)]; exact b5.1) (by rw [fu_nj (by decide), fu_nc (by decide), eG _ _ (by decide) (by decide)]; exact b5.2) (by rw [fu_nj (by decide), fu_nc (by decide), eG _ _ (by decide) (by decide)]; exact b6.1) (by rw [fu_nj (by decide), fu_nc (by decide), eG _ _ (by decide) (by decide)]; exact b6.2) (by rw [fu_nj (by decide), fu_nc (by decide), eG _ _ (by decide) (by decide)]; exact b9.1) (by rw [fu_nj (by decide), fu_nc (by decide), eG _ _ (by decide) (by decide)]; exact b9.2) (by omega) (by omega) (by decide) (by decide) (by decide) (by decide) (fK0 ?_)
          refine fx_la 0 98 (v := 2) (by decide +kernel) rfl (by decide +kernel) ?_
          refine fx_gp 2 0 3 130 101 (by decide +kernel) ?_
          refine fx_gi 130 16 8 104 (by decide +kernel) ?_
          try simp only [fu_app, fcy_app, Nat.reduceEqDiff, and_true, and_false, false_and, true_and, if_true, if_false, ite_true, ite_false, reduceIte, Int.reduceToNat, fx_simp0]
          rw [cNote_ne (by decide) (by decide), fu_eq]
          refine fx_ret (by decide +kernel) ?_
          exact k3
        · refine fx_throw 4 (by decide +kernel) rfl (by omega) ?_
          exact k2 p rfl (by omega) (fun q => by omega)
  · exact k1 t
end FHN
