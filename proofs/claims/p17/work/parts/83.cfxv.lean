/-! fx: a line in the class, and all of them -/
/-- the numbers told, in the class's order -/
noncomputable def pSets (T : Int → Int) (E f : Int) : Int ⊕ (Int × List Int) :=
  cif (pWd T E [113, 117, 111, 116, 97] f) (pSet T E 5 0 160 (pSk T E (pWe T E f)))
  (cif (pWd T E [119, 97, 108, 107] f) (pSet T E 6 0 100 (pSk T E (pWe T E f)))
  (cif (pWd T E [108, 105, 109, 105, 116] f) (pSet T E 7 1 99 (pSk T E (pWe T E f)))
  (cif (pWd T E [105, 114, 111, 110] f) (pSet T E 8 0 999 (pSk T E (pWe T E f)))
  (cif (pWd T E [110, 105, 103, 104, 116] f) (pSet T E 9 0 999 (pSk T E (pWe T E f))) (Sum.inl f)))))
section FXV
variable {W : ax_W} {r : Nat} {g : Nat → Nat → Int} {Q : Nat → Nat → (Nat → Nat → Int) → Prop} {T : Int → Int} {E : Int} {f : Int}
theorem sp_rs_x (hw : g 28 1 = -1) (kq : Q 1 (fI 1) g) : fx W r 6 101 142 [226] [] g Q := by
  refine fx_rg (fun hg => ?_)
  refine fx_la 0 143 (v := 226) (by decide +kernel) rfl (by decide +kernel) ?_
  refine fx_gi 226 28 1 146 (by decide +kernel) ?_
  refine fx_ci (-1) 147 (by decide +kernel) ?_
  refine fx_ine 154 150 (by decide +kernel) (by first | exact hg 28 1 (by decide) (by decide +kernel) (by decide +kernel) | (unfold fR; omega)) (by unfold fR; omega) (fun h147 => ?_) (fun h147 => ?_)
  · refine fx_ci (0) 155 (by decide +kernel) ?_
    refine fx_retb (by decide +kernel) (by first | exact Or.inl rfl | exact Or.inr rfl | omega) ?_
    exact absurd hw h147
  · refine fx_ci (1) 151 (by decide +kernel) ?_
    refine fx_go 155 (by decide +kernel) ?_
    refine fx_retb (by decide +kernel) (by first | exact Or.inl rfl | exact Or.inr rfl | omega) ?_
    exact kq
theorem sp_rs_y (hw : g 28 1 ≠ -1) (kq : Q 1 (fI 0) g) : fx W r 6 101 142 [226] [] g Q := by
  refine fx_rg (fun hg => ?_)
  refine fx_la 0 143 (v := 226) (by decide +kernel) rfl (by decide +kernel) ?_
  refine fx_gi 226 28 1 146 (by decide +kernel) ?_
  refine fx_ci (-1) 147 (by decide +kernel) ?_
  refine fx_ine 154 150 (by decide +kernel) (by first | exact hg 28 1 (by decide) (by decide +kernel) (by decide +kernel) | (unfold fR; omega)) (by unfold fR; omega) (fun h147 => ?_) (fun h147 => ?_)
  · refine fx_ci (0) 155 (by decide +kernel) ?_
    refine fx_retb (by decide +kernel) (by first | exact Or.inl rfl | exact Or.inr rfl | omega) ?_
    exact kq
  · refine fx_ci (1) 151 (by decide +kernel) ?_
    refine fx_go 155 (by decide +kernel) ?_
    refine fx_retb (by decide +kernel) (by first | exact Or.inl rfl | exact Or.inr rfl | omega) ?_
    exact absurd h147 hw
theorem sp_readSetting (h : cSt T E g f) (hw : g 28 1 = -1)
    (kq : ∀ f' u, pSets T E f = Sum.inr (f', u) → Q 1 (fI 1) (apC T u (cAt T E g f')))
    (kf : ∀ q, pSets T E f = Sum.inl q → ∀ g', eqc g g' → g' 28 1 = q → Q 1 (fI 0) g') : fx W r 6 101 0 [226] [] g Q := by
  have a3 := h.1.2.2.1
  have f0 := h.2.2.2.1
  have f1 := h.2.2.2.2.1
  have okw := pOk_we h.2.2.2
  have b0 := okw.1
  have hW : ∀ f', cAt T E g f' 28 1 = -1 := fun f' => by unfold cAt; rw [fu_nj (by decide), fu_nj (by decide)]; exact hw
  unfold pSets at kq kf
  refine fx_la 0 1 (v := 226) (by decide +kernel) rfl (by decide +kernel) ?_
  refine fx_lds 85 3 (by decide +kernel) ?_
  refine fx_c2 78 21 6 5 [] (by decide +kernel) (by decide) (by decide) (by decide) rfl (by first | decide | omega) ?_
  refine sp_takesWord [113, 117, 111, 116, 97] (by decide +kernel) (by decide +kernel) h (fun b3 => fK1 ?_) (fun b3 => fK1 ?_)
  · refine fx_zeq 27 9 (by decide +kernel) (by unfold fR; omega) (fun hc => absurd hc (by decide)) (fun _ => ?_)
    refine fx_la 0 10 (v := 226) (by decide +kernel) rfl (by decide +kernel) ?_
    refine fx_gp 226 28 5 234 13 (by decide +kernel) ?_
    refine fx_la 0 14 (v := 226) (by decide +kernel) rfl (by decide +kernel) ?_
    refine fx_ci (0) 15 (by decide +kernel) ?_
    refine fx_ci (160) 18 (by decide +kernel) ?_
    refine fx_c3 93 21 21 1 [7, 7, 7] (by decide +kernel) (by decide) (by decide) (fI_n4 _) (fI_n4 _) rfl (by first | decide | omega) ?_
    refine sp_takeNumber (cSt_at h.1 okw) (by unfold fR; omega) (by unfold fR; omega) (fun p => fK1 ?_) (fun p v hv => fK1 ?_)
    · rw [cAt_at]
      have pn : _ ≤ pNu T E (pSk T E (pWe T E f)) ∧ pNu T E (pSk T E (pWe T E f)) ≤ _ := p.2.2
      refine fx_pi 234 29 7 24 (by decide +kernel) (by unfold fR; omega) ?_
      refine fx_go 142 (by decide +kernel) ?_
      refine sp_rs_x (by rw [fu_nc (by decide)]; exact hW _) ?_
      have t := kq _ [3, 5, pNu T E (pSk T E (pWe T E f))] (by rw [cif_t b3]; unfold pSet; rw [cif_t p])
      rw [apC_3] at t
      exact t
    · refine fx_pi 234 29 7 24 (by decide +kernel) (by unfold fR; omega) ?_
      refine fx_go 142 (by decide +kernel) ?_
      refine sp_rs_y (by rw [fu_nc (by decide), fu_eq]; omega) (kf _ (by rw [cif_t b3]; unfold pSet; rw [cif_f p]) _ (eqc_tr (eqc_tr (eqc_at _ _ _ _) (eqc_fu _ _ _ _ (by decide))) (eqc_fu _ _ _ _ (by decide))) ?_)
      rw [fu_nc (by decide), fu_eq]
  · refine fx_zeq 27 9 (by decide +kernel) (by unfold fR; omega) (fun _ => ?_) (fun hc => absurd hc (by decide))
    refine fx_la 0 28 (v := 226) (by decide +kernel) rfl (by decide +kernel) ?_
    refine fx_lds 93 30 (by decide +kernel) ?_
    refine fx_c2 78 21 33 5 [] (by decide +kernel) (by decide) (by decide) (by decide) rfl (by first | decide | omega) ?_
    refine sp_takesWord [119, 97, 108, 107] (by decide +kernel) (by decide +kernel) h (fun b30 => fK1 ?_) (fun b30 => fK1 ?_)
    · refine fx_zeq 53 36 (by decide +kernel) (by unfold fR; omega) (fun hc => absurd hc (by decide)) (fun _ => ?_)
      refine fx_la 0 37 (v := 226) (by decide +kernel) rfl (by decide +kernel) ?_
      refine fx_gp 226 28 5 234 40 (by decide +kernel) ?_
      refine fx_la 0 41 (v := 226) (by decide +kernel) rfl (by decide +kernel) ?_
      refine fx_ci (0) 42 (by decide +kernel) ?_
      refine fx_ci (100) 44 (by decide +kernel) ?_
      refine fx_c3 93 21 47 1 [7, 7, 7] (by decide +kernel) (by decide) (by decide) (fI_n4 _) (fI_n4 _) rfl (by first | decide | omega) ?_
      refine sp_takeNumber (cSt_at h.1 okw) (by unfold fR; omega) (by unfold fR; omega) (fun p => fK1 ?_) (fun p v hv => fK1 ?_)
      · rw [cAt_at]
        have pn : _ ≤ pNu T E (pSk T E (pWe T E f)) ∧ pNu T E (pSk T E (pWe T E f)) ≤ _ := p.2.2
        refine fx_pi 234 29 8 50 (by decide +kernel) (by unfold fR; omega) ?_
        refine fx_go 142 (by decide +kernel) ?_
        refine sp_rs_x (by rw [fu_nc (by decide)]; exact hW _) ?_
        have t := kq _ [3, 6, pNu T E (pSk T E (pWe T E f))] (by rw [cif_f b3, cif_t b30]; unfold pSet; rw [cif_t p])
        rw [apC_3] at t
        exact t
      · refine fx_pi 234 29 8 50 (by decide +kernel) (by unfold fR; omega) ?_
        refine fx_go 142 (by decide +kernel) ?_
        refine sp_rs_y (by rw [fu_nc (by decide), fu_eq]; omega) (kf _ (by rw [cif_f b3, cif_t b30]; unfold pSet; rw [cif_f p]) _ (eqc_tr (eqc_tr (eqc_at _ _ _ _) (eqc_fu _ _ _ _ (by decide))) (eqc_fu _ _ _ _ (by decide))) ?_)
        rw [fu_nc (by decide), fu_eq]
    · refine fx_zeq 53 36 (by decide +kernel) (by unfold fR; omega) (fun _ => ?_) (fun hc => absurd hc (by decide))
      refine fx_la 0 54 (v := 226) (by decide +kernel) rfl (by decide +kernel) ?_
      refine fx_lds 101 56 (by decide +kernel) ?_
      refine fx_c2 78 21 59 5 [] (by decide +kernel) (by decide) (by decide) (by decide) rfl (by first | decide | omega) ?_
      refine sp_takesWord [108, 105, 109, 105, 116] (by decide +kernel) (by decide +kernel) h (fun b56 => fK1 ?_) (fun b56 => fK1 ?_)
      · refine fx_zeq 79 62 (by decide +kernel) (by unfold fR; omega) (fun hc => absurd hc (by decide)) (fun _ => ?_)
        refine fx_la 0 63 (v := 226) (by decide +kernel) rfl (by decide +kernel) ?_
        refine fx_gp 226 28 5 234 66 (by decide +kernel) ?_
        refine fx_la 0 67 (v := 226) (by decide +kernel) rfl (by decide +kernel) ?_
        refine fx_ci (1) 68 (by decide +kernel) ?_
        refine fx_ci (99) 70 (by decide +kernel) ?_
        refine fx_c3 93 21 73 1 [7, 7, 7] (by decide +kernel) (by decide) (by decide) (fI_n4 _) (fI_n4 _) rfl (by first | decide | omega) ?_
        refine sp_takeNumber (cSt_at h.1 okw) (by unfold fR; omega) (by unfold fR; omega) (fun p => fK1 ?_) (fun p v hv => fK1 ?_)
        · rw [cAt_at]
          have pn : _ ≤ pNu T E (pSk T E (pWe T E f)) ∧ pNu T E (pSk T E (pWe T E f)) ≤ _ := p.2.2
          refine fx_pi 234 29 9 76 (by decide +kernel) (by unfold fR; omega) ?_
          refine fx_go 142 (by decide +kernel) ?_
          refine sp_rs_x (by rw [fu_nc (by decide)]; exact hW _) ?_
          have t := kq _ [3, 7, pNu T E (pSk T E (pWe T E f))] (by rw [cif_f b3, cif_f b30, cif_t b56]; unfold pSet; rw [cif_t p])
          rw [apC_3] at t
          exact t
        · refine fx_pi 234 29 9 76 (by decide +kernel) (by unfold fR; omega) ?_
          refine fx_go 142 (by decide +kernel) ?_
          refine sp_rs_y (by rw [fu_nc (by decide), fu_eq]; omega) (kf _ (by rw [cif_f b3, cif_f b30, cif_t b56]; unfold pSet; rw [cif_f p]) _ (eqc_tr (eqc_tr (eqc_at _ _ _ _) (eqc_fu _ _ _ _ (by decide))) (eqc_fu _ _ _ _ (by decide))) ?_)
          rw [fu_nc (by decide), fu_eq]
      · refine fx_zeq 79 62 (by decide +kernel) (by unfold fR; omega) (fun _ => ?_) (fun hc => absurd hc (by decide))
        refine fx_la 0 80 (v := 226) (by decide +kernel) rfl (by decide +kernel) ?_
        refine fx_lds 109 82 (by decide +kernel) ?_
        refine fx_c2 78 21 85 5 [] (by decide +kernel) (by decide) (by decide) (by decide) rfl (by first | decide | omega) ?_
        refine sp_takesWord [105, 114, 111, 110] (by decide +kernel) (by decide +kernel) h (fun b82 => fK1 ?_) (fun b82 => fK1 ?_)
        · refine fx_zeq 106 88 (by decide +kernel) (by unfold fR; omega) (fun hc => absurd hc (by decide)) (fun _ => ?_)
          refine fx_la 0 89 (v := 226) (by decide +kernel) rfl (by decide +kernel) ?_
          refine fx_gp 226 28 6 178 92 (by decide +kernel) ?_
          refine fx_la 0 93 (v := 226) (by decide +kernel) rfl (by decide +kernel) ?_
          refine fx_ci (0) 94 (by decide +kernel) ?_
          refine fx_ci (999) 97 (by decide +kernel) ?_
          refine fx_c3 93 21 100 1 [7, 7, 7] (by decide +kernel) (by decide) (by decide) (fI_n4 _) (fI_n4 _) rfl (by first | decide | omega) ?_
          refine sp_takeNumber (cSt_at h.1 okw) (by unfold fR; omega) (by unfold fR; omega) (fun p => fK1 ?_) (fun p v hv => fK1 ?_)
          · rw [cAt_at]
            have pn : _ ≤ pNu T E (pSk T E (pWe T E f)) ∧ pNu T E (pSk T E (pWe T E f)) ≤ _ := p.2.2
            refine fx_pi 178 22 8 103 (by decide +kernel) (by unfold fR; omega) ?_
            refine fx_go 142 (by decide +kernel) ?_
            refine sp_rs_x (by rw [fu_nc (by decide)]; exact hW _) ?_
            have t := kq _ [3, 8, pNu T E (pSk T E (pWe T E f))] (by rw [cif_f b3, cif_f b30, cif_f b56, cif_t b82]; unfold pSet; rw [cif_t p])
            rw [apC_3] at t
            exact t
          · refine fx_pi 178 22 8 103 (by decide +kernel) (by unfold fR; omega) ?_
            refine fx_go 142 (by decide +kernel) ?_
            refine sp_rs_y (by rw [fu_nc (by decide), fu_eq]; omega) (kf _ (by rw [cif_f b3, cif_f b30, cif_f b56, cif_t b82]; unfold pSet; rw [cif_f p]) _ (eqc_tr (eqc_tr (eqc_at _ _ _ _) (eqc_fu _ _ _ _ (by decide))) (eqc_fu _ _ _ _ (by decide))) ?_)
            rw [fu_nc (by decide), fu_eq]
        · refine fx_zeq 106 88 (by decide +kernel) (by unfold fR; omega) (fun _ => ?_) (fun hc => absurd hc (by decide))
          refine fx_la 0 107 (v := 226) (by decide +kernel) rfl (by decide +kernel) ?_
          refine fx_lds 117 109 (by decide +kernel) ?_
          refine fx_c2 78 21 112 5 [] (by decide +kernel) (by decide) (by decide) (by decide) rfl (by first | decide | omega) ?_
          refine sp_takesWord [110, 105, 103, 104, 116] (by decide +kernel) (by decide +kernel) h (fun b109 => fK1 ?_) (fun b109 => fK1 ?_)
          · refine fx_zeq 133 115 (by decide +kernel) (by unfold fR; omega) (fun hc => absurd hc (by decide)) (fun _ => ?_)
            refine fx_la 0 116 (v := 226) (by decide +kernel) rfl (by decide +kernel) ?_
            refine fx_gp 226 28 6 178 119 (by decide +kernel) ?_
            refine fx_la 0 120 (v := 226) (by decide +kernel) rfl (by decide +kernel) ?_
            refine fx_ci (0) 121 (by decide +kernel) ?_
            refine fx_ci (999) 124 (by decide +kernel) ?_
            refine fx_c3 93 21 127 1 [7, 7, 7] (by decide +kernel) (by decide) (by decide) (fI_n4 _) (fI_n4 _) rfl (by first | decide | omega) ?_
            refine sp_takeNumber (cSt_at h.1 okw) (by unfold fR; omega) (by unfold fR; omega) (fun p => fK1 ?_) (fun p v hv => fK1 ?_)
            · rw [cAt_at]
              have pn : _ ≤ pNu T E (pSk T E (pWe T E f)) ∧ pNu T E (pSk T E (pWe T E f)) ≤ _ := p.2.2
              refine fx_pi 178 22 9 130 (by decide +kernel) (by unfold fR; omega) ?_
              refine fx_go 142 (by decide +kernel) ?_
              refine sp_rs_x (by rw [fu_nc (by decide)]; exact hW _) ?_
              have t := kq _ [3, 9, pNu T E (pSk T E (pWe T E f))] (by rw [cif_f b3, cif_f b30, cif_f b56, cif_f b82, cif_t b109]; unfold pSet; rw [cif_t p])
              rw [apC_3] at t
              exact t
            · refine fx_pi 178 22 9 130 (by decide +kernel) (by unfold fR; omega) ?_
              refine fx_go 142 (by decide +kernel) ?_
              refine sp_rs_y (by rw [fu_nc (by decide), fu_eq]; omega) (kf _ (by rw [cif_f b3, cif_f b30, cif_f b56, cif_f b82, cif_t b109]; unfold pSet; rw [cif_f p]) _ (eqc_tr (eqc_tr (eqc_at _ _ _ _) (eqc_fu _ _ _ _ (by decide))) (eqc_fu _ _ _ _ (by decide))) ?_)
              rw [fu_nc (by decide), fu_eq]
          · refine fx_zeq 133 115 (by decide +kernel) (by unfold fR; omega) (fun _ => ?_) (fun hc => absurd hc (by decide))
            refine fx_la 0 134 (v := 226) (by decide +kernel) rfl (by decide +kernel) ?_
            refine fx_la 0 135 (v := 226) (by decide +kernel) rfl (by decide +kernel) ?_
            refine fx_gi 226 28 2 138 (by decide +kernel) ?_
            try simp only [fu_app, fcy_app, Nat.reduceEqDiff, and_true, and_false, false_and, true_and, if_true, if_false, ite_true, ite_false, reduceIte, Int.reduceToNat, fx_simp0]
            rw [h.2.1]
            refine fx_c2 92 21 141 0 [] (by decide +kernel) (by decide) (by decide) (fI_n4 _) rfl (by first | decide | omega) ?_
            refine sp_wrongAt (by unfold fR; omega) (fK1 ?_)
            refine fx_retb (by decide +kernel) (by first | exact Or.inl rfl | exact Or.inr rfl | omega) ?_
            exact kf f (by rw [cif_f b3, cif_f b30, cif_f b56, cif_f b82, cif_f b109]) _ (eqc_fu _ _ _ _ (by decide)) (fu_eq _ _ _ _)
theorem pLine_promise {pp dd : Int} (b : pWd T E [112, 114, 111, 109, 105, 115, 101] f) : pLine T E pp dd f = bS (pTwo T E (pp - 1) (pSk T E (pWe T E f))) (fun a => Sum.inr (a.1, [4, a.2.1, a.2.2])) := by
  have n : ∀ ws, ([112, 114, 111, 109, 105, 115, 101] : List Nat) ≠ ws → ¬ pWd T E ws f := fun ws t q => t (pWd_uniq b q)
  unfold pLine
  rw [cif_f (n _ (by decide)), cif_f (n _ (by decide)), cif_f (n _ (by decide)), cif_f (n _ (by decide)), cif_f (n _ (by decide)), cif_f (n _ (by decide)), cif_f (n _ (by decide)), cif_f (n _ (by decide)), cif_t b]
theorem pLine_sets {pp dd : Int} (b1 : ¬ pWd T E [112, 101, 114, 115, 111, 110] f) (b2 : ¬ pWd T E [100, 105, 115, 104] f) (b3 : ¬ pWd T E [114, 111, 97, 100] f) (b4 : ¬ pWd T E [112, 114, 111, 109, 105, 115, 101] f) : pLine T E pp dd f = pSets T E f := by
  unfold pLine pSets
  rw [cif_f b1, cif_f b2, cif_f b3, cif_f b4]
theorem sp_readLine (h : cSt T E g f) (hw : g 28 1 = -1) (hp0 : 0 ≤ g 29 4) (hp1 : g 29 4 ≤ 8) (hd0 : 0 ≤ g 29 5) (hd1 : g 29 5 ≤ 6)
    (kq : ∀ f' u, pLine T E (g 29 4) (g 29 5) f = Sum.inr (f', u) → Q 1 (fI 1) (apC T u (cAt T E g f')))
    (kf : ∀ q, pLine T E (g 29 4) (g 29 5) f = Sum.inl q → ∀ g', eqc g g' → g' 28 1 = q → Q 1 (fI 0) g') : fx W r 8 77 0 [226, 7] [] g Q := by
  have a3 := h.1.2.2.1
  have f0 := h.2.2.2.1
  have f1 := h.2.2.2.2.1
  have okw := pOk_we h.2.2.2
  refine fx_rg (fun hg => ?_)
  have hW : ∀ f', cAt T E g f' 28 1 = -1 := fun f' => by unfold cAt; rw [fu_nj (by decide), fu_nj (by decide)]; exact hw
  have hP : ∀ f', cAt T E g f' 29 4 = g 29 4 := fun f' => by unfold cAt; rw [fu_nc (by decide), fu_nc (by decide)]
  have hD : ∀ f', cAt T E g f' 29 5 = g 29 5 := fun f' => by unfold cAt; rw [fu_nc (by decide), fu_nc (by decide)]
  refine fx_la 0 1 (v := 226) (by decide +kernel) rfl (by decide +kernel) ?_
  refine fx_gi 226 28 2 4 (by decide +kernel) ?_
  rw [h.2.1]
  refine fx_si 1 5 (by decide +kernel) (Or.inr (f_n4p (v := 226) rfl (by decide))) rfl ?_
  dsimp only [List.set]
  refine fx_la 0 6 (v := 226) (by decide +kernel) rfl (by decide +kernel) ?_
  refine fx_lds 21 8 (by decide +kernel) ?_
  refine fx_c2 78 21 11 5 [] (by decide +kernel) (by decide) (by decide) (by decide) rfl (by first | decide | omega) ?_
  refine sp_takesWord [112, 101, 114, 115, 111, 110] (by decide +kernel) (by decide +kernel) h (fun b8 => fK1 ?_) (fun b8 => fK1 ?_)
  · refine fx_zeq 39 14 (by decide +kernel) (by unfold fR; omega) (fun hc => absurd hc (by decide)) (fun _ => ?_)
    refine fx_la 0 15 (v := 226) (by decide +kernel) rfl (by decide +kernel) ?_
    refine fx_gp 226 28 5 234 18 (by decide +kernel) ?_
    refine fx_gi 234 29 4 21 (by decide +kernel) ?_
    try simp only [fu_app, fcy_app, Nat.reduceEqDiff, and_true, and_false, false_and, true_and, if_true, if_false, ite_true, ite_false, reduceIte, Int.reduceToNat, fx_simp0]
    rw [hP]
    refine fx_ci (8) 23 (by decide +kernel) ?_
    refine fx_ige 33 26 (by decide +kernel) (by unfold fR; omega) (by unfold fR; omega) (fun h23 => ?_) (fun h23 => ?_)
    · refine fx_la 0 34 (v := 226) (by decide +kernel) rfl (by decide +kernel) ?_
      refine fx_li 1 35 (by decide +kernel) rfl ?_
      refine fx_c2 92 21 38 0 [] (by decide +kernel) (by decide) (by decide) (fI_n4 _) rfl (by first | decide | omega) ?_
      refine sp_wrongAt (by unfold fR; omega) (fK1 ?_)
      refine fx_retb (by decide +kernel) (by first | exact Or.inl rfl | exact Or.inr rfl | omega) ?_
      exact kf f (by unfold pLine; rw [cif_t b8, if_pos (by omega)]) _ (eqc_tr (eqc_at _ _ _ _) (eqc_fu _ _ _ _ (by decide))) (fu_eq _ _ _ _)
    · refine fx_la 0 27 (v := 226) (by decide +kernel) rfl (by decide +kernel) ?_
      refine fx_c1 91 21 30 7 [7, 7, 7, 7, 7] (by decide +kernel) (by decide) rfl (by first | decide | omega) ?_
      refine sp_readPerson (cSt_at h.1 okw) (hW _) (by rw [hP]; omega) (by rw [hP]; omega) (fun f' w pl v l e => fK1 ?_) (fun q e g' e1 e2 => fK1 ?_)
      · refine fx_go 38 (by decide +kernel) ?_
        refine fx_retb (by decide +kernel) (by first | exact Or.inl rfl | exact Or.inr rfl | omega) ?_
        have t := kq f' [0, w, pl, v, l] (by unfold pLine; rw [cif_t b8, if_neg (by omega)]; exact e)
        rw [apC_0] at t
        rw [cAt_at]
        exact t
      · refine fx_go 38 (by decide +kernel) ?_
        refine fx_retb (by decide +kernel) (by first | exact Or.inl rfl | exact Or.inr rfl | omega) ?_
        exact kf q (by unfold pLine; rw [cif_t b8, if_neg (by omega)]; exact e) g' (eqc_tr (eqc_at _ _ _ _) e1) e2
  · refine fx_zeq 39 14 (by decide +kernel) (by unfold fR; omega) (fun _ => ?_) (fun hc => absurd hc (by decide))
    refine fx_la 0 40 (v := 226) (by decide +kernel) rfl (by decide +kernel) ?_
    refine fx_lds 61 42 (by decide +kernel) ?_
    refine fx_c2 78 21 45 5 [] (by decide +kernel) (by decide) (by decide) (by decide) rfl (by first | decide | omega) ?_
    refine sp_takesWord [100, 105, 115, 104] (by decide +kernel) (by decide +kernel) h (fun b42 => fK1 ?_) (fun b42 => fK1 ?_)
    · refine fx_zeq 73 48 (by decide +kernel) (by unfold fR; omega) (fun hc => absurd hc (by decide)) (fun _ => ?_)
      refine fx_la 0 49 (v := 226) (by decide +kernel) rfl (by decide +kernel) ?_
      refine fx_gp 226 28 5 234 52 (by decide +kernel) ?_
      refine fx_gi 234 29 5 55 (by decide +kernel) ?_
      try simp only [fu_app, fcy_app, Nat.reduceEqDiff, and_true, and_false, false_and, true_and, if_true, if_false, ite_true, ite_false, reduceIte, Int.reduceToNat, fx_simp0]
      rw [hD]
      refine fx_ci (6) 57 (by decide +kernel) ?_
      refine fx_ige 67 60 (by decide +kernel) (by unfold fR; omega) (by unfold fR; omega) (fun h57 => ?_) (fun h57 => ?_)
      · refine fx_la 0 68 (v := 226) (by decide +kernel) rfl (by decide +kernel) ?_
        refine fx_li 1 69 (by decide +kernel) rfl ?_
        refine fx_c2 92 21 72 0 [] (by decide +kernel) (by decide) (by decide) (fI_n4 _) rfl (by first | decide | omega) ?_
        refine sp_wrongAt (by unfold fR; omega) (fK1 ?_)
        refine fx_retb (by decide +kernel) (by first | exact Or.inl rfl | exact Or.inr rfl | omega) ?_
        exact kf f (by unfold pLine; rw [cif_f b8, cif_t b42, if_pos (by omega)]) _ (eqc_tr (eqc_at _ _ _ _) (eqc_fu _ _ _ _ (by decide))) (fu_eq _ _ _ _)
      · refine fx_la 0 61 (v := 226) (by decide +kernel) rfl (by decide +kernel) ?_
        refine fx_c1 97 21 64 1 [7] (by decide +kernel) (by decide) rfl (by first | decide | omega) ?_
        refine sp_readDish (cSt_at h.1 okw) (by rw [hD]; omega) (by rw [hD]; omega) (fun f' e => fK1 ?_) (fun q e g' e1 e2 => fK1 ?_)
        · refine fx_go 72 (by decide +kernel) ?_
          refine fx_retb (by decide +kernel) (by first | exact Or.inl rfl | exact Or.inr rfl | omega) ?_
          have t := kq f' [1, pSk T E (pWe T E f)] (by unfold pLine; rw [cif_f b8, cif_t b42, if_neg (by omega)]; exact e)
          rw [apC_1] at t
          rw [cAt_at]
          exact t
        · refine fx_go 72 (by decide +kernel) ?_
          refine fx_retb (by decide +kernel) (by first | exact Or.inl rfl | exact Or.inr rfl | omega) ?_
          exact kf q (by unfold pLine; rw [cif_f b8, cif_t b42, if_neg (by omega)]; exact e) g' (eqc_tr (eqc_at _ _ _ _) e1) e2
    · refine fx_zeq 73 48 (by decide +kernel) (by unfold fR; omega) (fun _ => ?_) (fun hc => absurd hc (by decide))
      refine fx_la 0 74 (v := 226) (by decide +kernel) rfl (by decide +kernel) ?_
      refine fx_lds 69 76 (by decide +kernel) ?_
      refine fx_c2 78 21 79 5 [] (by decide +kernel) (by decide) (by decide) (by decide) rfl (by first | decide | omega) ?_
      refine sp_takesWord [114, 111, 97, 100] (by decide +kernel) (by decide +kernel) h (fun b76 => fK1 ?_) (fun b76 => fK1 ?_)
      · refine fx_zeq 87 82 (by decide +kernel) (by unfold fR; omega) (fun hc => absurd hc (by decide)) (fun _ => ?_)
        refine fx_la 0 83 (v := 226) (by decide +kernel) rfl (by decide +kernel) ?_
        refine fx_c1 98 21 86 3 [7, 7] (by decide +kernel) (by decide) rfl (by first | decide | omega) ?_
        refine sp_readRoad (cSt_at h.1 okw) (fun f' x y e => fK1 ?_) (fun q e g' e1 e2 => fK1 ?_)
        · refine fx_retb (by decide +kernel) (by first | exact Or.inl rfl | exact Or.inr rfl | omega) ?_
          have t := kq f' [2, x, y] (by unfold pLine; rw [cif_f b8, cif_f b42, cif_t b76, e]; rfl)
          rw [apC_2] at t
          rw [cAt_at]
          exact t
        · refine fx_retb (by decide +kernel) (by first | exact Or.inl rfl | exact Or.inr rfl | omega) ?_
          exact kf q (by unfold pLine; rw [cif_f b8, cif_f b42, cif_t b76, e]; rfl) g' (eqc_tr (eqc_at _ _ _ _) e1) e2
      · refine fx_zeq 87 82 (by decide +kernel) (by unfold fR; omega) (fun _ => ?_) (fun hc => absurd hc (by decide))
        refine fx_la 0 88 (v := 226) (by decide +kernel) rfl (by decide +kernel) ?_
        refine fx_lds 77 90 (by decide +kernel) ?_
        refine fx_c2 78 21 93 5 [] (by decide +kernel) (by decide) (by decide) (by decide) rfl (by first | decide | omega) ?_
        refine sp_takesWord [112, 114, 111, 109, 105, 115, 101] (by decide +kernel) (by decide +kernel) h (fun b90 => fK1 ?_) (fun b90 => fK1 ?_)
        · refine fx_zeq 101 96 (by decide +kernel) (by unfold fR; omega) (fun hc => absurd hc (by decide)) (fun _ => ?_)
          refine fx_la 0 97 (v := 226) (by decide +kernel) rfl (by decide +kernel) ?_
          refine fx_c1 100 21 100 3 [7, 7] (by decide +kernel) (by decide) rfl (by first | decide | omega) ?_
          refine sp_readPromise (cSt_at h.1 okw) (by rw [hP]; exact hp0) (by rw [hP]; exact hp1) (fun f' x y e => fK1 ?_) (fun q e g' e1 e2 => fK1 ?_)
          · refine fx_retb (by decide +kernel) (by first | exact Or.inl rfl | exact Or.inr rfl | omega) ?_
            rw [hP] at e
            have t := kq f' [4, x, y] (by rw [pLine_promise b90, e]; rfl)
            rw [apC_4] at t
            rw [cAt_at]
            exact t
          · refine fx_retb (by decide +kernel) (by first | exact Or.inl rfl | exact Or.inr rfl | omega) ?_
            rw [hP] at e
            exact kf q (by rw [pLine_promise b90, e]; rfl) g' (eqc_tr (eqc_at _ _ _ _) e1) e2
        · refine fx_zeq 101 96 (by decide +kernel) (by unfold fR; omega) (fun _ => ?_) (fun hc => absurd hc (by decide))
          refine fx_la 0 102 (v := 226) (by decide +kernel) rfl (by decide +kernel) ?_
          refine fx_c1 101 21 105 6 [] (by decide +kernel) (by decide) rfl (by first | decide | omega) ?_
          refine sp_readSetting h hw (fun f' u e => fK1 ?_) (fun q e g' e1 e2 => fK1 ?_)
          · refine fx_retb (by decide +kernel) (by first | exact Or.inl rfl | exact Or.inr rfl | omega) ?_
            exact kq f' u (by rw [pLine_sets b8 b42 b76 b90]; exact e)
          · refine fx_retb (by decide +kernel) (by first | exact Or.inl rfl | exact Or.inr rfl | omega) ?_
            exact kf q (by rw [pLine_sets b8 b42 b76 b90]; exact e) g' e1 e2
end FXV
