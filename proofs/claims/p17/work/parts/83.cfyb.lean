/-! fx: the class's house(), whole -/
/-- nothing but the text's own, the draft, what is tried out, the tape's length, the wrong byte -/
def frc (g g' : Nat → Nat → Int) : Prop := ∀ c j, ¬ (22 ≤ c ∧ c ≤ 33) → ¬ (c = 1 ∧ j = 1) → ¬ (c = 0 ∧ j = 18) → g' c j = g c j
/-- and the house, the table, how much is remembered -/
def frd (g g' : Nat → Nat → Int) : Prop := ∀ c j, ¬ (3 ≤ c ∧ c ≤ 3 + 4) → ¬ (16 ≤ c ∧ c ≤ 33) → ¬ (c = 1 ∧ j = 1) → ¬ (c = 0 ∧ (j = 18 ∨ j = 16)) → g' c j = g c j
section FYB
variable {W : ax_W} {r : Nat} {g : Nat → Nat → Int} {Q : Nat → Nat → (Nat → Nat → Int) → Prop} {T : Int → Int} {E : Int}
theorem sp_chouse (hr : 1 ≤ r) (hT : ∀ k : Int, 0 ≤ k → k < 400 → g 2 k.toNat = T k ∧ 0 ≤ T k ∧ T k ≤ 255) (hE : g 1 1 = E) (hE0 : 0 ≤ E) (hE1 : E ≤ 400) (hp0 : 0 ≤ g 3 4) (hp1 : g 3 4 ≤ 8) (hd0 : 0 ≤ g 3 5) (hd1 : g 3 5 ≤ 6) (ht0 : 0 ≤ g 3 6) (ht1 : g 3 6 ≤ 12)
    (k1 : ∀ q, pText T E (g 3 4) (g 3 5) = Sum.inl q → ∀ g', frc g g' → g' 1 1 = 0 → g' 0 18 = q → Q 2 0 g')
    (k2 : ∀ us, pText T E (g 3 4) (g 3 5) = Sum.inr us → g 3 6 = 12 → ∀ g', frc g g' → g' 1 1 = 0 → g' 0 18 = -1 → Q 3 0 g')
    (k3 : ∀ us, pText T E (g 3 4) (g 3 5) = Sum.inr us → g 3 6 ≠ 12 → ∀ A, (∀ gm, RHx 3 g gm → 0 ≤ gm 149 3 → gm 149 3 ≤ 8 → 0 ≤ gm 149 4 → gm 149 4 ≤ 6 → RHx 29 A (apLs T us gm)) → ∀ g', frd g g' → g' 1 1 = 0 → g' 0 18 = -1 → g' 0 16 = 0 → g' 3 6 = g 3 6 + 1 → (∀ j, 4 ≤ j → j ≤ 9 → j ≠ 6 → g' 3 j = A 29 j) → (∀ i j, 1 ≤ i → i ≤ 4 → g' (3 + i) j = A (29 + i) j) → Q 1 (fI (g 3 6 + 1)) g') : fx W r 10 70 0 [2, 7] [] g Q := by
  have st := fUse_st (T := T) (E := E) hT hE hE0 hE1
  have ne : ∀ c j, (c < 22 ∨ 33 < c) → ¬ (c = 1 ∧ j = 1) → cpT (cpH (fUse T E g) 3 29) 16 22 c j = g c j := fun c j h1 h2 => by
    rw [cpT_ne (by omega), cpH_ne (by omega), fUse_ne (by omega) h2]
  have n28 : ∀ j, cpT (cpH (fUse T E g) 3 29) 16 22 28 j = fUse T E g 28 j := fun j => by
    rw [cpT_ne (by decide), cpH_ne (by decide)]
  have dr : ∀ j, 4 ≤ j → j ≤ 9 → cpT (cpH (fUse T E g) 3 29) 16 22 29 j = g 3 j := fun j h1 h2 => by
    rw [cpT_ne (by decide), cpH_f h1 h2, fUse_ne (by decide) (fun t => absurd t.1 (by decide))]
  have da : ∀ i j, 1 ≤ i → i ≤ 4 → cpT (cpH (fUse T E g) 3 29) 16 22 (29 + i) j = g (3 + i) j := fun i j h1 h2 => by
    rw [cpT_ne (by omega), cpH_a h1 h2 (by decide), fUse_ne (by omega) (by omega)]
  have le : cpT (cpH (fUse T E g) 3 29) 16 22 1 1 = 0 := by
    rw [cpT_ne (by decide), cpH_ne (by decide), fUse_l]
  have wr : cpT (cpH (fUse T E g) 3 29) 16 22 28 1 = -1 := by
    rw [n28, fUse_w]
  have st : cSt T E (cpT (cpH (fUse T E g) 3 29) 16 22) (pSk T E 0) := by
    obtain ⟨s1, s2, s3, s4⟩ := st
    exact ⟨CT_eq s1 (n28 _) (fun j => by rw [cpT_ne (by decide), cpH_ne (by decide)]), by rw [n28]; exact s2, by rw [n28]; exact s3, s4⟩
  refine fx_la 0 1 (v := 2) (by decide +kernel) rfl (by decide +kernel) ?_
  refine fx_gp 2 0 5 226 4 (by decide +kernel) ?_
  refine fx_la 0 5 (v := 2) (by decide +kernel) rfl (by decide +kernel) ?_
  refine fx_gp 2 0 1 26 8 (by decide +kernel) ?_
  refine fx_la 0 9 (v := 2) (by decide +kernel) rfl (by decide +kernel) ?_
  refine fx_gp 2 0 3 130 12 (by decide +kernel) ?_
  refine fx_c3 71 21 15 2 [] (by decide +kernel) (by decide) (by decide) (by decide) (by decide) rfl (by first | decide | omega) ?_
  refine sp_startFrom hT hE hE0 hE1 (fK0 ?_)
  generalize cpT (cpH (fUse T E g) 3 29) 16 22 = G at *
  refine fx_la 0 16 (v := 2) (by decide +kernel) rfl (by decide +kernel) ?_
  refine fx_gp 2 0 5 226 19 (by decide +kernel) ?_
  refine fx_ci (14) 21 (by decide +kernel) ?_
  refine fx_c2 75 21 24 9 [7] (by decide +kernel) (by decide) (by decide) (fI_n4 _) rfl (by first | decide | omega) ?_
  refine sp_readLines st wr (by rw [dr 4 (by decide) (by decide)]; exact hp0) (by rw [dr 4 (by decide) (by decide)]; exact hp1) (by rw [dr 5 (by decide) (by decide)]; exact hd0) (by rw [dr 5 (by decide) (by decide)]; exact hd1) (fun us e f' => fK1 ?_) (fun q e g' e1 e2 => fK1 ?_)
  · rw [dr 4 (by decide) (by decide), dr 5 (by decide) (by decide)] at e
    have eG : pText T E (G 29 4) (G 29 5) = Sum.inr us := by rw [dr 4 (by decide) (by decide), dr 5 (by decide) (by decide)]; exact e
    obtain ⟨x1, x2, x3⟩ := pText_cls hE0 eG (by rw [dr 4 (by decide) (by decide)]; exact hp0) (by rw [dr 4 (by decide) (by decide)]; exact hp1) (by rw [dr 5 (by decide) (by decide)]; exact hd0) (by rw [dr 5 (by decide) (by decide)]; exact hd1)
    have xr : ∀ gm, RHx 3 g gm → 0 ≤ gm 149 3 → gm 149 3 ≤ 8 → 0 ≤ gm 149 4 → gm 149 4 ≤ 6 → RHx 29 (apCs T us G) (apLs T us gm) := fun gm h a1 a2 a3 a4 => by
      obtain ⟨h1, h2, h3, h4, h5⟩ := h
      refine pText_rel hE0 (by rw [← h1, ← h2]; exact e) a1 a2 a3 a4 ⟨by rw [dr 4 (by decide) (by decide)]; exact h1, by rw [dr 5 (by decide) (by decide)]; exact h2, by rw [dr 6 (by decide) (by decide)]; exact h3, fun j hj => ?_, fun j hj => ?_⟩
      · rw [dr 5 (by decide) (by decide)] at hj
        rw [da 3 j (by decide) (by decide)]
        exact h4 j hj
      · rw [da 4 j (by decide) (by decide)]
        exact h5 j hj
    have cw : cAt T E (apCs T us G) f' 28 1 = -1 := by unfold cAt; rw [fu_nj (by decide), fu_nj (by decide), x2]; exact wr
    have cn : ∀ c j, c ≠ 28 → cAt T E (apCs T us G) f' c j = apCs T us G c j := fun c j h => by unfold cAt; rw [fu_nc h, fu_nc h]
    have cx : ∀ c j, (c < 22 ∨ 33 < c) → ¬ (c = 1 ∧ j = 1) → cAt T E (apCs T us G) f' c j = g c j := fun c j h1 h2 => by rw [cn c j (by omega), x1 c j (by omega)]; exact ne c j h1 h2
    have cl : cAt T E (apCs T us G) f' 1 1 = 0 := by rw [cn _ _ (by decide), x1 _ _ (by decide)]; exact le
    have c6 : cAt T E (apCs T us G) f' 29 6 = g 3 6 := by rw [cn _ _ (by decide), x3]; exact dr 6 (by decide) (by decide)
    generalize cAt T E (apCs T us G) f' = A at *
    refine fx_si 1 25 (by decide +kernel) (Or.inr (f_n4p (v := 2) rfl (by decide))) rfl ?_
    dsimp only [List.set]
    refine fx_la 0 26 (v := 2) (by decide +kernel) rfl (by decide +kernel) ?_
    refine fx_la 0 27 (v := 2) (by decide +kernel) rfl (by decide +kernel) ?_
    refine fx_gp 2 0 5 226 30 (by decide +kernel) ?_
    refine fx_gi 226 28 1 33 (by decide +kernel) ?_
    try simp only [fu_app, fcy_app, Nat.reduceEqDiff, and_true, and_false, false_and, true_and, if_true, if_false, ite_true, ite_false, reduceIte, Int.reduceToNat, fx_simp0]
    rw [cw]
    refine fx_pi 2 0 18 36 (by decide +kernel) (by unfold fR; omega) ?_
    refine fx_li 1 37 (by decide +kernel) rfl ?_
    refine fx_zne 50 40 (by decide +kernel) (by unfold fR; omega) (fun _ => ?_) (fun hc => absurd hc (by decide))
    refine fx_la 0 51 (v := 2) (by decide +kernel) rfl (by decide +kernel) ?_
    refine fx_gp 2 0 1 26 54 (by decide +kernel) ?_
    skip
    refine fx_gi 26 3 6 57 (by decide +kernel) ?_
    try simp only [fu_app, fcy_app, Nat.reduceEqDiff, and_true, and_false, false_and, true_and, if_true, if_false, ite_true, ite_false, reduceIte, Int.reduceToNat, fx_simp0]
    rw [cx _ _ (by decide) (by decide)]
    refine fx_ci (12) 59 (by decide +kernel) ?_
    refine fx_ilt 72 62 (by decide +kernel) (by unfold fR; omega) (by unfold fR; omega) (fun h59 => ?_) (fun h59 => ?_)
    · refine fx_la 0 73 (v := 2) (by decide +kernel) rfl (by decide +kernel) ?_
      refine fx_gp 2 0 1 26 76 (by decide +kernel) ?_
      refine fx_la 0 77 (v := 2) (by decide +kernel) rfl (by decide +kernel) ?_
      refine fx_gp 2 0 5 226 80 (by decide +kernel) ?_
      refine fx_gp 226 28 5 234 83 (by decide +kernel) ?_
      refine fx_c2 65 21 86 0 [] (by decide +kernel) (by decide) (by decide) (by decide) rfl (by first | decide | omega) ?_
      refine sp_cpH_draft_house (fK0 ?_)
      refine fx_la 0 87 (v := 2) (by decide +kernel) rfl (by decide +kernel) ?_
      refine fx_gp 2 0 1 26 90 (by decide +kernel) ?_
      refine fx_dup 91 (by decide +kernel) rfl (by decide) ?_
      refine fx_gi 26 3 6 94 (by decide +kernel) ?_
      try simp only [fu_app, fcy_app, Nat.reduceEqDiff, and_true, and_false, false_and, true_and, if_true, if_false, ite_true, ite_false, reduceIte, Int.reduceToNat, fx_simp0]
      rw [cpH_f (by decide) (by decide), fu_nc (by decide), c6]
      refine fx_ci (1) 95 (by decide +kernel) ?_
      refine fx_add 96 (by decide +kernel) rfl ?_
      refine fx_pi 26 3 6 99 (by decide +kernel) (by unfold fR; omega) ?_
      refine fx_la 0 100 (v := 2) (by decide +kernel) rfl (by decide +kernel) ?_
      refine fx_gp 2 0 3 130 103 (by decide +kernel) ?_
      refine fx_la 0 104 (v := 2) (by decide +kernel) rfl (by decide +kernel) ?_
      refine fx_gp 2 0 4 178 107 (by decide +kernel) ?_
      refine fx_c2 63 21 110 0 [] (by decide +kernel) (by decide) (by decide) (by decide) rfl (by first | decide | omega) ?_
      refine sp_cpT_scratch_table (fK0 ?_)
      refine fx_la 0 111 (v := 2) (by decide +kernel) rfl (by decide +kernel) ?_
      refine fx_ci (0) 112 (by decide +kernel) ?_
      refine fx_pi 2 0 16 115 (by decide +kernel) (by unfold fR; omega) ?_
      refine fx_la 0 116 (v := 2) (by decide +kernel) rfl (by decide +kernel) ?_
      refine fx_gp 2 0 1 26 119 (by decide +kernel) ?_
      refine fx_gi 26 3 6 122 (by decide +kernel) ?_
      try simp only [fu_app, fcy_app, Nat.reduceEqDiff, and_true, and_false, false_and, true_and, if_true, if_false, ite_true, ite_false, reduceIte, Int.reduceToNat, fx_simp0]
      refine fx_ret (by decide +kernel) ?_
      have kk := k3 us e (by omega) (apCs T us G) xr
      generalize apCs T us G = B at *
      refine kk _ (fun c j h1 h2 h3 h4 => ?_) ?_ ?_ ?_ ?_ (fun j h1 h2 h3 => ?_) (fun i j h1 h2 => ?_)
      · rw [fu_ne (by omega), cpT_ne (by omega), fu_nc (by omega), cpH_ne (by omega), fu_ne (by omega)]
        exact cx c j (by omega) h3
      · rw [fu_nc (by decide), cpT_ne (by decide), fu_nc (by decide), cpH_ne (by decide), fu_nc (by decide)]; exact cl
      · rw [fu_nj (by decide), cpT_ne (by decide), fu_nc (by decide), cpH_ne (by decide), fu_eq]
      · rw [fu_eq]
      · rw [fu_nc (by decide), cpT_ne (by decide), fu_eq]
      · rw [fu_nc (by decide), cpT_ne (by decide), fu_nj h3, cpH_f h1 h2, fu_nc (by decide)]
        exact cn _ _ (by decide)
      · rw [fu_nc (by omega), cpT_ne (by omega), fu_nc (by omega), cpH_a h1 h2 (by decide), fu_nc (by omega)]
        exact cn _ _ (by omega)
    · refine fx_throw 1 (by decide +kernel) rfl (by omega) ?_
      refine k2 us e (by omega) _ (fun c j h1 h2 h3 => ?_) ?_ ?_
      · rw [fu_ne (fun t => h3 t)]
        exact cx c j (by omega) h2
      · rw [fu_nc (by decide)]; exact cl
      · rw [fu_eq]
  · rw [dr 4 (by decide) (by decide), dr 5 (by decide) (by decide)] at e
    have qb := pText_bad hE0 e hp1 hd1
    refine fx_si 1 25 (by decide +kernel) (Or.inr (f_n4p (v := 2) rfl (by decide))) rfl ?_
    dsimp only [List.set]
    refine fx_la 0 26 (v := 2) (by decide +kernel) rfl (by decide +kernel) ?_
    refine fx_la 0 27 (v := 2) (by decide +kernel) rfl (by decide +kernel) ?_
    refine fx_gp 2 0 5 226 30 (by decide +kernel) ?_
    refine fx_gi 226 28 1 33 (by decide +kernel) ?_
    try simp only [fu_app, fcy_app, Nat.reduceEqDiff, and_true, and_false, false_and, true_and, if_true, if_false, ite_true, ite_false, reduceIte, Int.reduceToNat, fx_simp0]
    refine fx_pi 2 0 18 36 (by decide +kernel) (by unfold fR; omega) ?_
    refine fx_li 1 37 (by decide +kernel) rfl ?_
    refine fx_zne 50 40 (by decide +kernel) (by unfold fR; omega) (fun hc => absurd hc (by decide)) (fun _ => ?_)
    refine fx_throw 0 (by decide +kernel) rfl (by omega) ?_
    refine k1 q e _ (fun c j h1 h2 h3 => ?_) ?_ ?_
    · rw [fu_ne (fun t => h3 t), e1 c j h1]
      exact ne c j (by omega) h2
    · rw [fu_nc (by decide), e1 _ _ (by decide)]; exact le
    · rw [fu_eq]; exact e2
end FYB
