/-! fx: the reference's house(), whole -/
section FXZ
variable {W : ax_W} {r : Nat} {g : Nat → Nat → Int} {Q : Nat → Nat → (Nat → Nat → Int) → Prop} {T : Int → Int} {E : Int}
theorem fu_cg {g g' : Nat → Nat → Int} {c k : Nat} {z : Int} (h : ∀ j, g c j = g' c j) : ∀ j, fu g c k z c j = fu g' c k z c j := fun j => by
  unfold fu
  split
  · rfl
  · exact h j
theorem dshR_cg {g g' : Nat → Nat → Int} {f d : Int} (h : ∀ j, g 149 j = g' 149 j) : ∀ (k : Nat) (j : Nat), dshR T f d k g 149 j = dshR T f d k g' 149 j
  | 0, j => h j
  | k + 1, j => fu_cg (dshR_cg h k) j
theorem apL_cg {g g' : Nat → Nat → Int} {u : List Int} (h : ∀ j, g 149 j = g' 149 j) : ∀ j, apL T u g 149 j = apL T u g' 149 j := by
  unfold apL
  split
  · unfold apP
    rw [h 3]
    exact fu_cg (fu_cg (fu_cg (fu_cg (fu_cg (fu_cg (fu_cg (fu_cg h)))))))
  · split
    · unfold apD
      rw [h 4]
      exact fu_cg (dshR_cg h 8)
    · split
      · unfold apR
        rw [h]
        have h2 := fu_cg (k := (116 + u.getD 1 0).toNat) (z := fop 4 (g' 149 (116 + u.getD 1 0).toNat) (fop 6 1 (u.getD 2 0))) h
        rw [h2]
        exact fu_cg h2
      · split
        · exact fu_cg h
        · exact fu_cg h
theorem apLs_cg : ∀ {us : List (List Int)} {g g' : Nat → Nat → Int}, (∀ j, g 149 j = g' 149 j) → ∀ j, apLs T us g 149 j = apLs T us g' 149 j
  | [], g, g', h => h
  | u :: us, g, g', h => apLs_cg (us := us) (g := apL T u g) (g' := apL T u g') (apL_cg h)
theorem apL_txt {u : List Int} (hu : uOk E (g 149 3) (g 149 4) u) (hp0 : 0 ≤ g 149 3) (hd0 : 0 ≤ g 149 4) : apL T u g 149 0 = g 149 0 := by
  rcases hu with ⟨w, pl, v, l, rfl, hu⟩ | ⟨b, rfl, hu⟩ | ⟨x, y, rfl, hu⟩ | ⟨x, y, rfl, hu⟩ | ⟨x, y, rfl, hu⟩
  · rw [apL_0]; unfold apP
    rw [fu_nj (by decide), fu_nj (by omega), fu_nj (by omega), fu_nj (by omega), fu_nj (by omega), fu_nj (by omega), fu_nj (by omega), fu_nj (by omega)]
  · rw [apL_1]; unfold apD
    rw [fu_nj (by decide), dshR_ne hd0 (Or.inr (by decide))]
  · rw [apL_2]; unfold apR
    rw [fu_nj (by omega), fu_nj (by omega)]
  · rw [apL_3, fu_nj (by omega)]
  · rw [apL_4]; unfold apV
    rw [fu_nj (by omega)]
theorem apLs_ok : ∀ {n : Nat} {f : Int} {us : List (List Int)} {gm : Nat → Nat → Int}, pAll T E n (gm 149 3) (gm 149 4) f = Sum.inr us → pOk T E f → 0 ≤ gm 149 3 → gm 149 3 ≤ 8 → 0 ≤ gm 149 4 → gm 149 4 ≤ 6 → apLs T us gm 149 0 = gm 149 0 ∧ (∀ c j, ¬ (c = 149 ∧ j < 364) → apLs T us gm c j = gm c j)
  | 0, f, us, gm, h, _, _, _, _, _ => by cases h
  | n + 1, f, us, gm, h, hf, hp0, hp1, hd0, hd1 => by
    obtain ⟨⟨f', u⟩, e, h⟩ := bS_inr (show bS (pLine T E (gm 149 3) (gm 149 4) f) _ = Sum.inr us from h)
    obtain ⟨fo', hu⟩ := pLine_ok e hf hp1 hd1
    have ht := apL_txt (T := T) hu hp0 hd0
    obtain ⟨m1, m2, m3, m4, m5, m6, m7⟩ := apL_ok (T := T) hu hp0 hp1 hd0 hd1
    have h : (if f' = E then Sum.inr [u] else if T f' = 59 then bS (pAll T E n (gm 149 3 + k0 u) (gm 149 4 + k1 u) (pSk T E (f' + 1))) (fun us => Sum.inr (u :: us)) else Sum.inl f' : Int ⊕ List (List Int)) = Sum.inr us := h
    by_cases x1 : f' = E
    · rw [if_pos x1] at h
      cases h
      exact ⟨ht, m3⟩
    · rw [if_neg x1] at h
      by_cases x2 : T f' = 59
      · rw [if_pos x2] at h
        obtain ⟨us', e2, h⟩ := bS_inr h
        cases h
        rw [← m1, ← m2] at e2
        have p0 := fo'.1
        have p1 := fo'.2.1
        obtain ⟨r1, r2⟩ := apLs_ok e2 (pOk_sk (by omega) (by omega)) (by omega) (by omega) (by omega) (by omega)
        exact ⟨r1.trans ht, fun c j t => (r2 c j t).trans (m3 c j t)⟩
      · rw [if_neg x2] at h
        cases h
theorem pText_ok {us : List (List Int)} (hE : 0 ≤ E) (h : pText T E (g 149 3) (g 149 4) = Sum.inr us) (hp0 : 0 ≤ g 149 3) (hp1 : g 149 3 ≤ 8) (hd0 : 0 ≤ g 149 4) (hd1 : g 149 4 ≤ 6) : apLs T us g 149 0 = g 149 0 ∧ (∀ c j, ¬ (c = 149 ∧ j < 364) → apLs T us g c j = g c j) := by
  unfold pText at h
  by_cases c : pSk T E 0 = E
  · rw [if_pos c] at h; cases h; exact ⟨rfl, fun _ _ _ => rfl⟩
  · rw [if_neg c] at h
    exact apLs_ok h (pOk_sk (Int.le_refl 0) hE) hp0 hp1 hd0 hd1
theorem sp_mhouse (hT : ∀ k : Int, 0 ≤ k → k < 400 → g 153 k.toNat = T k ∧ 0 ≤ T k ∧ T k ≤ 255) (hE : g 148 8 = E) (hE0 : 0 ≤ E) (hE1 : E ≤ 400) (hp0 : 0 ≤ g 149 3) (hp1 : g 149 3 ≤ 8) (hd0 : 0 ≤ g 149 4) (hd1 : g 149 4 ≤ 6) (ht0 : 0 ≤ g 149 0) (ht1 : g 149 0 ≤ 12)
    (k1 : ∀ q, pText T E (g 149 3) (g 149 4) = Sum.inl q → ∀ g', frm g g' → g' 148 0 = 1 → g' 148 12 = q → g' 148 8 = 0 → g' 148 6 = g 148 6 → (∀ j, g' 149 j = g 149 j) → Q 1 (fI 0) g')
    (k2 : ∀ us, pText T E (g 149 3) (g 149 4) = Sum.inr us → g 149 0 = 12 → ∀ g', frm g g' → g' 148 0 = 2 → g' 148 12 = -1 → g' 148 8 = 0 → g' 148 6 = g 148 6 → (∀ j, g' 149 j = g 149 j) → Q 1 (fI 0) g')
    (k3 : ∀ us, pText T E (g 149 3) (g 149 4) = Sum.inr us → g 149 0 ≠ 12 → ∀ g', frm g g' → g' 148 0 = 0 → g' 148 12 = -1 → g' 148 8 = 0 → g' 148 6 = 0 → (∀ j, g' 149 j = fu (apLs T us g) 149 0 (g 149 0 + 1) 149 j) → Q 1 (fI (g 149 0 + 1)) g') : fx W r 9 267 0 [1186, 7] [] g Q := by
  have gm : ∀ j, fBeg (fcpn g 149 151 364) 149 j = g 149 j := fun j => by
    unfold fBeg
    rw [fu_nc (by decide), fu_nc (by decide), fu_nc (by decide), fu_nc (by decide), fu_nc (by decide), fu_nc (by decide), fcpn_nc (by decide)]
  have ga : ∀ j, j < 364 → fBeg (fcpn g 149 151 364) 151 j = g 149 j := fun j hj => by
    unfold fBeg
    rw [fu_nc (by decide), fu_nc (by decide), fu_nc (by decide), fu_nc (by decide), fu_nc (by decide), fu_nc (by decide)]
    exact if_pos ⟨rfl, hj⟩
  have gfr : ∀ c j, c ≠ 151 → ¬ (c = 148 ∧ 8 ≤ j ∧ j ≤ 13) → fBeg (fcpn g 149 151 364) c j = g c j := fun c j h1 h2 => by
    unfold fBeg
    rw [fu_ne (by omega), fu_ne (by omega), fu_ne (by omega), fu_ne (by omega), fu_ne (by omega), fu_ne (by omega), fcpn_nc h1]
  have gt : fBeg (fcpn g 149 151 364) 148 8 = 0 := by
    unfold fBeg
    rw [fu_nj (by decide), fu_nj (by decide), fu_eq]
  have gb : fBeg (fcpn g 149 151 364) 148 9 = -1 := by
    unfold fBeg
    rw [fu_nj (by decide), fu_nj (by decide), fu_nj (by decide), fu_nj (by decide), fu_eq]
  have gf : fBeg (fcpn g 149 151 364) 148 12 = -1 := by
    unfold fBeg
    rw [fu_nj (by decide), fu_nj (by decide), fu_nj (by decide), fu_nj (by decide), fu_nj (by decide), fu_eq]
  have gat : fBeg (fcpn g 149 151 364) 148 11 = 0 := by
    unfold fBeg
    rw [fu_nj (by decide), fu_eq]
  have ge : fBeg (fcpn g 149 151 364) 148 10 = E := by
    unfold fBeg
    rw [fu_nj (by decide), fu_nj (by decide), fu_nj (by decide), fu_eq, fcpn_nc (by decide)]
    exact hE
  have gR : RT T E (fBeg (fcpn g 149 151 364)) := by
    refine ⟨ge, hE0, hE1, Or.inl gb, fun k h0 h1 => ?_⟩
    unfold flt
    rw [if_pos gb, gfr _ _ (by decide) (fun t => absurd t.1 (by decide))]
    exact hT k h0 h1
  refine fx_la 0 1 (v := 1186) (by decide +kernel) rfl (by decide +kernel) ?_
  refine fx_c1 268 21 4 0 [7] (by decide +kernel) (by decide) rfl (by first | decide | omega) ?_
  refine sp_putsAside (fK0 ?_)
  refine fx_la 0 5 (v := 1186) (by decide +kernel) rfl (by decide +kernel) ?_
  refine fx_c1 269 21 8 0 [] (by decide +kernel) (by decide) rfl (by first | decide | omega) ?_
  refine sp_begins (fK0 ?_)
  generalize fBeg (fcpn g 149 151 364) = G at *
  refine fx_la 0 9 (v := 1186) (by decide +kernel) rfl (by decide +kernel) ?_
  refine fx_ci (0) 10 (by decide +kernel) ?_
  refine fx_c2 270 21 13 8 [7, 7] (by decide +kernel) (by decide) (by decide) (fI_n4 _) rfl (by first | decide | omega) ?_
  refine sp_read gb gR gf gat (by rw [gm]; exact hp0) (by rw [gm]; exact hp1) (by rw [gm]; exact hd0) (by rw [gm]; exact hd1) (fun us e a v q1 q2 q3 => fK1 ?_) (fun q e g' v q1 q2 q3 q4 q5 => fK1 ?_)
  · rw [gm, gm] at e
    have e' := e
    rw [← gm 3, ← gm 4] at e'
    obtain ⟨t1, t2⟩ := pText_ok hE0 e' (by rw [gm]; exact hp0) (by rw [gm]; exact hp1) (by rw [gm]; exact hd0) (by rw [gm]; exact hd1)
    rw [gm] at t1
    have t3 := apLs_cg (T := T) (us := us) gm
    have lf : apLs T us G 148 12 = -1 := by rw [t2 _ _ (fun t => absurd t.1 (by decide))]; exact gf
    have lt : apLs T us G 148 8 = 0 := by rw [t2 _ _ (fun t => absurd t.1 (by decide))]; exact gt
    have la : apLs T us G 148 6 = g 148 6 := by rw [t2 _ _ (fun t => absurd t.1 (by decide)), gfr _ _ (by decide) (by decide)]
    have ls : ∀ j, j < 364 → apLs T us G 151 j = g 149 j := fun j hj => by rw [t2 _ _ (fun t => absurd t.1 (by decide))]; exact ga j hj
    have lr : ∀ c j, c ≠ 149 → c ≠ 151 → ¬ (c = 148 ∧ 8 ≤ j ∧ j ≤ 13) → apLs T us G c j = g c j := fun c j h1 h2 h3 => by rw [t2 _ _ (fun t => h1 t.1), gfr _ _ h2 h3]
    have lb : ∀ j, 364 ≤ j → apLs T us G 149 j = g 149 j := fun j hj => by rw [t2 _ _ (fun t => by omega), gm]
    generalize apLs T us G = H at *
    refine fx_si 1 14 (by decide +kernel) (Or.inr (f_n4p (v := 1186) rfl (by decide))) rfl ?_
    dsimp only [List.set]
    refine fx_la 0 15 (v := 1186) (by decide +kernel) rfl (by decide +kernel) ?_
    refine fx_la 0 16 (v := 1186) (by decide +kernel) rfl (by decide +kernel) ?_
    refine fx_gi 1186 148 12 19 (by decide +kernel) ?_
    try simp only [fu_app, fcy_app, Nat.reduceEqDiff, and_true, and_false, false_and, true_and, if_true, if_false, ite_true, ite_false, reduceIte, Int.reduceToNat, fx_simp0]
    refine fx_ci (-1) 20 (by decide +kernel) ?_
    refine fx_ieq 27 23 (by decide +kernel) (by unfold fR; omega) (by unfold fR; omega) (fun h20 => ?_) (fun h20 => ?_)
    · refine fx_la 0 28 (v := 1186) (by decide +kernel) rfl (by decide +kernel) ?_
      refine fx_gp 1186 148 1 1194 31 (by decide +kernel) ?_
      refine fx_ci (0) 32 (by decide +kernel) ?_
      refine fx_al 1194 149 764 33 (by decide +kernel) rfl (by omega) (by omega) rfl ?_
      try simp only [fu_app, fcy_app, Nat.reduceEqDiff, and_true, and_false, false_and, true_and, if_true, if_false, ite_true, ite_false, reduceIte, Int.reduceToNat, fx_simp0]
      refine fx_ci (12) 35 (by decide +kernel) ?_
      refine fx_ine 42 38 (by decide +kernel) (by unfold fR; omega) (by unfold fR; omega) (fun h35 => ?_) (fun h35 => ?_)
      · refine fx_ci (0) 43 (by decide +kernel) ?_
        refine fx_pi 1186 148 0 46 (by decide +kernel) (by unfold fR; omega) ?_
        refine fx_la 0 47 (v := 1186) (by decide +kernel) rfl (by decide +kernel) ?_
        refine fx_gi 1186 148 0 50 (by decide +kernel) ?_
        try simp only [fu_app, fcy_app, Nat.reduceEqDiff, and_true, and_false, false_and, true_and, if_true, if_false, ite_true, ite_false, reduceIte, Int.reduceToNat, fx_simp0]
        refine fx_zle 59 53 (by decide +kernel) (by unfold fR; omega) (fun h50 => ?_) (fun h50 => ?_)
        · refine fx_la 0 60 (v := 1186) (by decide +kernel) rfl (by decide +kernel) ?_
          refine fx_gp 1186 148 1 1194 63 (by decide +kernel) ?_
          refine fx_ci (0) 64 (by decide +kernel) ?_
          refine fx_dup2 65 (by decide +kernel) rfl (fI_n4 _) (by decide) ?_
          refine fx_al 1194 149 764 66 (by decide +kernel) rfl (by omega) (by omega) rfl ?_
          try simp only [fu_app, fcy_app, Nat.reduceEqDiff, and_true, and_false, false_and, true_and, if_true, if_false, ite_true, ite_false, reduceIte, Int.reduceToNat, fx_simp0]
          refine fx_ci (1) 67 (by decide +kernel) ?_
          refine fx_add 68 (by decide +kernel) rfl ?_
          refine fx_as 1194 149 764 69 (by decide +kernel) rfl (by omega) (by omega) rfl (by unfold fR; omega) ?_
          refine fx_la 0 70 (v := 1186) (by decide +kernel) rfl (by decide +kernel) ?_
          refine fx_ci (0) 71 (by decide +kernel) ?_
          refine fx_pi 1186 148 6 74 (by decide +kernel) (by unfold fR; omega) ?_
          refine fx_la 0 75 (v := 1186) (by decide +kernel) rfl (by decide +kernel) ?_
          refine fx_gp 1186 148 1 1194 78 (by decide +kernel) ?_
          refine fx_ci (0) 79 (by decide +kernel) ?_
          refine fx_al 1194 149 764 80 (by decide +kernel) rfl (by omega) (by omega) rfl ?_
          try simp only [fu_app, fcy_app, Nat.reduceEqDiff, and_true, and_false, false_and, true_and, if_true, if_false, ite_true, ite_false, reduceIte, Int.reduceToNat, fx_simp0]
          refine fx_ret (by decide +kernel) ?_
          rw [t1]
          refine k3 us e (by omega) _ (fun c j h1 h2 h3 => ?_) ?_ ?_ ?_ ?_ (fun j => ?_)
          · rw [fu_ne (by omega), fu_ne (by omega), fu_ne (by omega), fu_ne (by omega)]
            exact lr c j h1 h2 (by omega)
          · rw [fu_nj (by decide), fu_nc (by decide), fu_eq]
          · rw [fu_nj (by decide), fu_nc (by decide), fu_nj (by decide), fu_nj (by decide)]; exact lf
          · rw [fu_nj (by decide), fu_nc (by decide), fu_nj (by decide), fu_nj (by decide)]; exact lt
          · rw [fu_eq]
          · rw [fu_nc (by decide)]
            by_cases c : j = 0
            · subst c
              rw [fu_eq]
              exact (fu_eq _ _ _ _).symm
            · rw [fu_nj c, fu_nc (by decide), fu_nc (by decide), fu_nj c]
              exact t3 j
        · exfalso; omega
      · refine fx_ci (2) 39 (by decide +kernel) ?_
        refine fx_go 43 (by decide +kernel) ?_
        refine fx_pi 1186 148 0 46 (by decide +kernel) (by unfold fR; omega) ?_
        refine fx_la 0 47 (v := 1186) (by decide +kernel) rfl (by decide +kernel) ?_
        refine fx_gi 1186 148 0 50 (by decide +kernel) ?_
        try simp only [fu_app, fcy_app, Nat.reduceEqDiff, and_true, and_false, false_and, true_and, if_true, if_false, ite_true, ite_false, reduceIte, Int.reduceToNat, fx_simp0]
        refine fx_zle 59 53 (by decide +kernel) (by unfold fR; omega) (fun h50 => ?_) (fun h50 => ?_)
        · exfalso; omega
        · refine fx_la 0 54 (v := 1186) (by decide +kernel) rfl (by decide +kernel) ?_
          refine fx_c1 294 21 57 0 [7] (by decide +kernel) (by decide) rfl (by first | decide | omega) ?_
          refine sp_comesBack (fK0 ?_)
          refine fx_ci (0) 58 (by decide +kernel) ?_
          refine fx_ret (by decide +kernel) ?_
          refine k2 us e (by omega) _ (fun c j h1 h2 h3 => ?_) ?_ ?_ ?_ ?_ (fun j => ?_)
          · rw [fcpn_nc h1, fu_ne (by omega), fu_ne (by omega)]
            exact lr c j h1 h2 (by omega)
          · rw [fcpn_nc (by decide), fu_eq]
          · rw [fcpn_nc (by decide), fu_nj (by decide), fu_nj (by decide)]; exact lf
          · rw [fcpn_nc (by decide), fu_nj (by decide), fu_nj (by decide)]; exact lt
          · rw [fcpn_nc (by decide), fu_nj (by decide), fu_nj (by decide)]; exact la
          · unfold fcpn
            by_cases c : 149 = 149 ∧ j < 364
            · rw [if_pos c, fu_nc (by decide), fu_nc (by decide)]; exact ls j c.2
            · rw [if_neg c, fu_nc (by decide), fu_nc (by decide)]; exact lb j (by omega)
    · exact absurd lf h20
  · rw [gm, gm] at e
    have lt : g' 148 8 = 0 := by rw [q1 _ _ (fun t => absurd t.1 (by decide)) (by decide)]; exact gt
    have la : g' 148 6 = g 148 6 := by rw [q1 _ _ (fun t => absurd t.1 (by decide)) (by decide), gfr _ _ (by decide) (by decide)]
    have ls : ∀ j, j < 364 → g' 151 j = g 149 j := fun j hj => by rw [q1 _ _ (fun t => absurd t.1 (by decide)) (fun t => absurd t.1 (by decide))]; exact ga j hj
    have lr : ∀ c j, c ≠ 149 → c ≠ 151 → ¬ (c = 148 ∧ 8 ≤ j ∧ j ≤ 13) → g' c j = g c j := fun c j h1 h2 h3 => by rw [q1 _ _ (fun t => h1 t.1) (fun t => by omega), gfr _ _ h2 h3]
    have lb : ∀ j, 364 ≤ j → g' 149 j = g 149 j := fun j hj => by rw [q1 _ _ (fun t => by omega) (fun t => absurd t.1 (by decide)), gm]
    refine fx_si 1 14 (by decide +kernel) (Or.inr (f_n4p (v := 1186) rfl (by decide))) rfl ?_
    dsimp only [List.set]
    refine fx_la 0 15 (v := 1186) (by decide +kernel) rfl (by decide +kernel) ?_
    refine fx_la 0 16 (v := 1186) (by decide +kernel) rfl (by decide +kernel) ?_
    refine fx_gi 1186 148 12 19 (by decide +kernel) ?_
    try simp only [fu_app, fcy_app, Nat.reduceEqDiff, and_true, and_false, false_and, true_and, if_true, if_false, ite_true, ite_false, reduceIte, Int.reduceToNat, fx_simp0]
    refine fx_ci (-1) 20 (by decide +kernel) ?_
    refine fx_ieq 27 23 (by decide +kernel) (by unfold fR; omega) (by unfold fR; omega) (fun h20 => ?_) (fun h20 => ?_)
    · exfalso; omega
    · refine fx_ci (1) 24 (by decide +kernel) ?_
      refine fx_go 43 (by decide +kernel) ?_
      refine fx_pi 1186 148 0 46 (by decide +kernel) (by unfold fR; omega) ?_
      refine fx_la 0 47 (v := 1186) (by decide +kernel) rfl (by decide +kernel) ?_
      refine fx_gi 1186 148 0 50 (by decide +kernel) ?_
      try simp only [fu_app, fcy_app, Nat.reduceEqDiff, and_true, and_false, false_and, true_and, if_true, if_false, ite_true, ite_false, reduceIte, Int.reduceToNat, fx_simp0]
      refine fx_zle 59 53 (by decide +kernel) (by unfold fR; omega) (fun h50 => ?_) (fun h50 => ?_)
      · exfalso; omega
      · refine fx_la 0 54 (v := 1186) (by decide +kernel) rfl (by decide +kernel) ?_
        refine fx_c1 294 21 57 0 [7] (by decide +kernel) (by decide) rfl (by first | decide | omega) ?_
        refine sp_comesBack (fK0 ?_)
        refine fx_ci (0) 58 (by decide +kernel) ?_
        refine fx_ret (by decide +kernel) ?_
        refine k1 q e _ (fun c j h1 h2 h3 => ?_) ?_ ?_ ?_ ?_ (fun j => ?_)
        · rw [fcpn_nc h1, fu_ne (by omega)]
          exact lr c j h1 h2 (by omega)
        · rw [fcpn_nc (by decide), fu_eq]
        · rw [fcpn_nc (by decide), fu_nj (by decide)]; exact q2
        · rw [fcpn_nc (by decide), fu_nj (by decide)]; exact lt
        · rw [fcpn_nc (by decide), fu_nj (by decide)]; exact la
        · unfold fcpn
          by_cases c : 149 = 149 ∧ j < 364
          · rw [if_pos c, fu_nc (by decide)]; exact ls j c.2
          · rw [if_neg c, fu_nc (by decide)]; exact lb j (by omega)
end FXZ
