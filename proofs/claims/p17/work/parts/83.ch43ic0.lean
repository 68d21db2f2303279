/-! fx: the reference reads the law: what lies behind the text stays -/
section IC0
variable {W : ax_W} {r : Nat} {g : Nat → Nat → Int} {Q : Nat → Nat → (Nat → Nat → Int) → Prop} {T : Int → Int} {E : Int}
theorem sp_mlawB_1 {n : Int} {N : Nat} (hE : g 148 10 = (N : Int)) (hN : N ≤ 400) (kq : ∀ g', (∀ c j, ¬ (c = 149 ∧ 364 ≤ j ∧ j < 364 + N) → g' c j = g c j) → (∀ j, j < N → g' 149 (364 + j) = g 153 j) → fx W r 35 295 85 [1186, fI n, fI (N : Int)] [] g' Q) : ∀ (l k : Nat) (g' : Nat → Nat → Int), k + l = N → (∀ c j, ¬ (c = 149 ∧ 364 ≤ j ∧ j < 364 + N) → g' c j = g c j) → (∀ j, j < k → g' 149 (364 + j) = g 153 j) → fx W r 35 295 55 [1186, fI n, fI (k : Int)] [] g' Q
  | l, k, g', hk, hx, hi => by
    refine fx_rg (fun hg => ?_)
    have eE : g' 148 10 = (N : Int) := by rw [hx _ _ (by omega)]; exact hE
    have rt := hgA hg 400 (c := 153) (j := k)
    refine fx_li 2 56 (by decide +kernel) rfl ?_
    refine fx_la 0 57 (v := 1186) (by decide +kernel) rfl (by decide +kernel) ?_
    refine fx_gi 1186 148 10 60 (by decide +kernel) ?_
    refine fx_ige 85 63 (by decide +kernel) (by unfold fR; omega) (by first | exact hg 148 10 (by decide) (by decide +kernel) (by decide +kernel) | (unfold fR; omega)) (fun h60 => ?_) (fun h60 => ?_)
    · have e : k = N := by omega
      subst e
      exact kq g' hx hi
    · refine fx_la 0 64 (v := 1186) (by decide +kernel) rfl (by decide +kernel) ?_
      refine fx_gp 1186 148 1 1194 67 (by decide +kernel) ?_
      refine fx_ci (364) 70 (by decide +kernel) ?_
      refine fx_li 2 71 (by decide +kernel) rfl ?_
      refine fx_add 72 (by decide +kernel) rfl ?_
      refine fx_la 0 73 (v := 1186) (by decide +kernel) rfl (by decide +kernel) ?_
      refine fx_gp 1186 148 7 1226 76 (by decide +kernel) ?_
      refine fx_li 2 77 (by decide +kernel) rfl ?_
      refine fx_al 1226 153 400 78 (by decide +kernel) rfl (by omega) (by omega) rfl ?_
      have rt2 := rt (by decide +kernel) (by omega)
      rw [show ((k : Int)).toNat = k from rfl]
      unfold fR at rt2
      refine fx_as 1194 149 764 79 (by decide +kernel) rfl (by omega) (by omega) rfl (by unfold fR; omega) ?_
      refine fx_inc 2 82 (1) (by decide +kernel) rfl (Or.inr (fI_n4 _)) rfl ?_
      dsimp only [List.set]
      refine fx_go 55 (by decide +kernel) ?_
      match l, hk with
      | 0, hk => exfalso; omega
      | l + 1, hk =>
        rw [show (364 + (k : Int)).toNat = 364 + k by omega]
        refine sp_mlawB_1 hE hN kq l (k + 1) _ (by omega) (fun c j a => by rw [fu_ne (by omega)]; exact hx c j a) (fun j hj => ?_)
        by_cases e : j = k
        · subst e
          rw [fu_eq]
          exact hx _ _ (fun t => absurd t.1 (by decide))
        · rw [fu_nj (by omega)]
          exact hi j (by omega)
theorem sp_mlawB (hT : ∀ k : Int, 0 ≤ k → k < 400 → g 153 k.toNat = T k ∧ 0 ≤ T k ∧ T k ≤ 255) (hE : g 148 8 = E) (hE0 : 0 ≤ E) (hE1 : E ≤ 400) (hP : g 148 15 = 0 ∨ g 148 15 = 1) (hT3 : g 148 16 = 0 ∨ g 148 16 = 1)
    (k1 : ∀ q, pLawR T E = Sum.inl q → ∀ g', rZ g g' → g' 148 8 = 0 → g' 148 0 = 1 → g' 148 12 = q → Q 1 (fI 0) g')
    (k2 : ∀ segs, pLawR T E = Sum.inr segs → ∀ g', rZR g g' → g' 148 8 = 0 → g' 148 0 = 0 → g' 148 12 = -1 → g' 148 6 = 0 → g' 149 1 = (segs.length : Int) → g' 149 2 = E → (∀ j : Nat, (j : Int) < E → g' 149 (364 + j) = T j) → (∀ j : Nat, E ≤ (j : Int) → g' 149 (364 + j) = g 149 (364 + j)) → segs.length ≤ 12 → Q 1 (fI (segs.length : Int)) g') : fx W r 35 295 0 [1186, 7, 7] [] g Q := by
  have bx : ∀ c j, ¬ (c = 148 ∧ (8 ≤ j ∧ j ≤ 13)) → fBeg g c j = g c j := fun c j a => by
    unfold fBeg
    rw [fu_ne (by omega), fu_ne (by omega), fu_ne (by omega), fu_ne (by omega), fu_ne (by omega), fu_ne (by omega)]
  have bt : fBeg g 148 8 = 0 := by unfold fBeg; simp only [fu_app]; rfl
  have be : fBeg g 148 10 = E := by unfold fBeg; simp only [fu_app]; exact hE
  have hS : rwS T E (fBeg g) (fBeg g) (pSk T E 0) 0 := by
    have bb : fBeg g 148 9 = -1 := by unfold fBeg; simp only [fu_app]; rfl
    have ba : fBeg g 148 11 = 0 := by unfold fBeg; simp only [fu_app]; rfl
    have bf : fBeg g 148 12 = -1 := by unfold fBeg; simp only [fu_app]; rfl
    have bd : fBeg g 148 13 = 0 := by unfold fBeg; simp only [fu_app]; rfl
    refine ⟨⟨be, hE0, hE1, Or.inl bb, fun k k0 k1 => ?_⟩, by omega, by omega, by rw [ba], bf, bd, rX.rf⟩
    have e : flt (fBeg g) k = g 153 k.toNat := by
      unfold flt
      rw [if_pos bb, bx _ _ (fun t => absurd t.1 (by decide))]
    rw [e]
    exact hT k k0 k1
  refine fx_la 0 1 (v := 1186) (by decide +kernel) rfl (by decide +kernel) ?_
  refine fx_c1 269 21 4 0 [] (by decide +kernel) (by decide) rfl (by first | decide | omega) ?_
  refine sp_begins (fK0 ?_)
  refine fx_la 0 5 (v := 1186) (by decide +kernel) rfl (by decide +kernel) ?_
  refine fx_ci (1) 6 (by decide +kernel) ?_
  refine fx_c2 270 21 9 34 [7, 7] (by decide +kernel) (by decide) (by decide) (fI_n4 _) rfl (by first | decide | omega) ?_
  refine sp_mreadL (by rw [bx _ _ (by decide)]; exact hP) (by rw [bx _ _ (by decide)]; exact hT3) hS (fun segs p g1 x1 f1 => fK1 ?_) (fun q p v g1 x1 f1 q0 => fK1 ?_)
  have y1 := (fSg_Y (F := fF (fBeg g)) segs (fBeg g)).x x1
  have sl : segs.length ≤ 12 := pLawR_n p
  · refine fx_si 1 10 (by decide +kernel) (Or.inr (f_n4p (v := 1186) rfl (by decide))) rfl ?_
    dsimp only [List.set]
    refine fx_la 0 11 (v := 1186) (by decide +kernel) rfl (by decide +kernel) ?_
    refine fx_la 0 12 (v := 1186) (by decide +kernel) rfl (by decide +kernel) ?_
    refine fx_gi 1186 148 12 15 (by decide +kernel) ?_
    try simp only [fu_app, fcy_app, Nat.reduceEqDiff, and_true, and_false, false_and, true_and, if_true, if_false, ite_true, ite_false, reduceIte, Int.reduceToNat, fx_simp0]
    refine fx_rg (fun hg => ?_)
    have rf := hg 148 12 (by decide) (by decide +kernel) (by decide +kernel)
    unfold fR at rf
    refine fx_cn (-1) 16 (by decide +kernel) (fun v15 c15 => ?_)
    refine fx_ieq 23 19 (by decide +kernel) (by unfold fR; omega) (by unfold fR; omega) (fun h16 => ?_) (fun h16 => ?_)
    · refine fx_ci (0) 24 (by decide +kernel) ?_
      refine fx_pi 1186 148 0 27 (by decide +kernel) (by unfold fR; omega) ?_
      refine fx_la 0 28 (v := 1186) (by decide +kernel) rfl (by decide +kernel) ?_
      refine fx_gi 1186 148 0 31 (by decide +kernel) ?_
      try simp only [fu_app, fcy_app, Nat.reduceEqDiff, and_true, and_false, false_and, true_and, if_true, if_false, ite_true, ite_false, reduceIte, Int.reduceToNat, fx_simp0]
      refine fx_zle 36 34 (by decide +kernel) (by unfold fR; omega) (fun h31 => ?_) (fun h31 => ?_)
      · refine fx_la 0 37 (v := 1186) (by decide +kernel) rfl (by decide +kernel) ?_
        refine fx_gp 1186 148 1 1194 40 (by decide +kernel) ?_
        refine fx_ci (1) 41 (by decide +kernel) ?_
        refine fx_li 1 42 (by decide +kernel) rfl ?_
        refine fx_as 1194 149 764 43 (by decide +kernel) rfl (by omega) (by omega) rfl (by unfold fR; omega) ?_
        refine fx_la 0 44 (v := 1186) (by decide +kernel) rfl (by decide +kernel) ?_
        refine fx_gp 1186 148 1 1194 47 (by decide +kernel) ?_
        refine fx_ci (2) 48 (by decide +kernel) ?_
        refine fx_la 0 49 (v := 1186) (by decide +kernel) rfl (by decide +kernel) ?_
        refine fx_gi 1186 148 10 52 (by decide +kernel) ?_
        try simp only [fu_app, fcy_app, Nat.reduceEqDiff, and_true, and_false, false_and, true_and, if_true, if_false, ite_true, ite_false, reduceIte, Int.reduceToNat, fx_simp0]
        have hend : g1 148 10 = E := by rw [y1 _ _ (by decide)]; exact be
        rw [hend]
        refine fx_as 1194 149 764 53 (by decide +kernel) rfl (by omega) (by omega) rfl (by unfold fR; omega) ?_
        refine fx_ci (0) 54 (by decide +kernel) ?_
        refine fx_si 2 55 (by decide +kernel) (Or.inr (fI_n4 _)) rfl ?_
        dsimp only [List.set]
        have eN : E = ((E.toNat : Nat) : Int) := by omega
        refine sp_mlawB_1 (N := E.toNat) (by rw [fu_nc (by decide), fu_nc (by decide), fu_nj (by decide), hend]; exact eN) (by omega) (fun g2 z1 z2 => ?_) E.toNat 0 _ (by omega) (fun _ _ _ => rfl) (fun j hj => absurd hj (Nat.not_lt_zero _))
        have gz : ∀ c j, ¬ (c = 149 ∧ (j = 1 ∨ j = 2 ∨ 364 ≤ j)) → ¬ (c = 148 ∧ (j = 0 ∨ (8 ≤ j ∧ j ≤ 13) ∨ j = 17 ∨ j = 18 ∨ j = 19)) → g2 c j = g c j := fun c j a b => by
          rw [z1 c j (by omega), fu_ne (by omega), fu_ne (by omega), fu_ne (by omega), y1 c j (by omega), bx c j (by omega)]
        refine fx_la 0 86 (v := 1186) (by decide +kernel) rfl (by decide +kernel) ?_
        refine fx_ci (0) 87 (by decide +kernel) ?_
        refine fx_pi 1186 148 6 90 (by decide +kernel) (by unfold fR; omega) ?_
        refine fx_li 1 91 (by decide +kernel) rfl ?_
        refine fx_ret (by decide +kernel) ?_
        refine k2 segs p _ (fun c j a b => ?_) ?_ ?_ ?_ (fu_eq _ _ _ _) ?_ ?_ (fun j hj => ?_) (fun j hj => ?_) sl
        · rw [fu_ne (fun t => a ⟨t.1, Or.inr (Or.inl t.2)⟩)]
          by_cases th : c = 148 ∧ j = 0
          · exact absurd ⟨th.1, Or.inl th.2⟩ a
          · exact gz c j b (fun t => a ⟨t.1, by omega⟩)
        · rw [fu_nj (by decide), z1 _ _ (by omega), fu_nc (by decide), fu_nc (by decide), fu_nj (by decide), y1 _ _ (by decide)]; exact bt
        · rw [fu_nj (by decide), z1 _ _ (by omega), fu_nc (by decide), fu_nc (by decide), fu_eq]
        · rw [fu_nj (by decide), z1 _ _ (by omega), fu_nc (by decide), fu_nc (by decide), fu_nj (by decide)]; exact f1
        · rw [fu_nc (by decide), z1 _ _ (by omega), fu_nj (by decide), fu_eq]
        · rw [fu_nc (by decide), z1 _ _ (by omega)]; exact fu_eq _ _ _ _
        · rw [fu_nc (by decide), z2 j (by omega), fu_nc (by decide), fu_nc (by decide), fu_nc (by decide), y1 _ _ (fun t => absurd t.1 (by decide)), bx _ _ (fun t => absurd t.1 (by decide))]
          exact (hT j (by omega) (by omega)).1
        · rw [fu_nc (by decide), z1 _ _ (by omega), fu_nj (by omega), fu_nj (by omega), fu_nc (by decide), y1 _ _ (fun t => absurd t.1 (by decide)), bx _ _ (fun t => absurd t.1 (by decide))]
      · refine fx_ci (0) 35 (by decide +kernel) ?_
        refine fx_ret (by decide +kernel) ?_
        exfalso; omega
    · exfalso; omega
  · refine fx_si 1 10 (by decide +kernel) (Or.inr (f_n4p (v := 1186) rfl (by decide))) rfl ?_
    dsimp only [List.set]
    refine fx_la 0 11 (v := 1186) (by decide +kernel) rfl (by decide +kernel) ?_
    refine fx_la 0 12 (v := 1186) (by decide +kernel) rfl (by decide +kernel) ?_
    refine fx_gi 1186 148 12 15 (by decide +kernel) ?_
    try simp only [fu_app, fcy_app, Nat.reduceEqDiff, and_true, and_false, false_and, true_and, if_true, if_false, ite_true, ite_false, reduceIte, Int.reduceToNat, fx_simp0]
    refine fx_rg (fun hg => ?_)
    have rf := hg 148 12 (by decide) (by decide +kernel) (by decide +kernel)
    unfold fR at rf
    refine fx_cn (-1) 16 (by decide +kernel) (fun v15 c15 => ?_)
    refine fx_ieq 23 19 (by decide +kernel) (by unfold fR; omega) (by unfold fR; omega) (fun h16 => ?_) (fun h16 => ?_)
    · exfalso; omega
    · refine fx_ci (1) 20 (by decide +kernel) ?_
      refine fx_go 24 (by decide +kernel) ?_
      refine fx_pi 1186 148 0 27 (by decide +kernel) (by unfold fR; omega) ?_
      refine fx_la 0 28 (v := 1186) (by decide +kernel) rfl (by decide +kernel) ?_
      refine fx_gi 1186 148 0 31 (by decide +kernel) ?_
      try simp only [fu_app, fcy_app, Nat.reduceEqDiff, and_true, and_false, false_and, true_and, if_true, if_false, ite_true, ite_false, reduceIte, Int.reduceToNat, fx_simp0]
      refine fx_zle 36 34 (by decide +kernel) (by unfold fR; omega) (fun h31 => ?_) (fun h31 => ?_)
      · exfalso; omega
      · refine fx_ci (0) 35 (by decide +kernel) ?_
        refine fx_ret (by decide +kernel) ?_
        refine k1 q p _ (fun c j a => ?_) ?_ (fu_eq _ _ _ _) ?_
        · rw [fu_ne (by omega), x1 c j (by omega), bx c j (by omega)]
        · rw [fu_nj (by decide), x1 _ _ (by decide)]; exact bt
        · rw [fu_nj (by decide)]; exact f1
end IC0
