/-! fx: the reference reads the law: the text -/
/-- whether a line holds, by its own steps -/
noncomputable def lnV (F : Nat → Int) (d : List Int) : Int := if d = [] then 1 else (evS F d).getD 0 0
/-- all lines: the steps of each, kind, amount -/
noncomputable def pSeg (T : Int → Int) (E : Int) : Nat → Int → Int ⊕ List (List Int × Int × Int)
  | 0, f => Sum.inl f
  | n + 1, f => bS (pLL T E f []) (fun a => if a.1 = E then Sum.inr [a.2] else if T a.1 = 59 then bS (pSeg T E n (pSk T E (a.1 + 1))) (fun r => Sum.inr (a.2 :: r)) else Sum.inl a.1)
noncomputable def pLawR (T : Int → Int) (E : Int) : Int ⊕ List (List Int × Int × Int) := if pSk T E 0 = E then Sum.inr [] else pSeg T E 12 (pSk T E 0)
noncomputable def fSg (F : Nat → Int) (segs : List (List Int × Int × Int)) (g : Nat → Nat → Int) : Nat → Nat → Int := segs.foldl (fun g s => fLn s.2.1 s.2.2 (lnV F s.1) g) g
def rY (g0 g : Nat → Nat → Int) : Prop := ∀ c j, ¬ (c = 148 ∧ (j = 11 ∨ j = 12 ∨ j = 13 ∨ j = 17 ∨ j = 18 ∨ j = 19)) → g c j = g0 c j
theorem rY.rf {g : Nat → Nat → Int} : rY g g := fun _ _ _ => rfl
theorem rY.x {g0 g g' : Nat → Nat → Int} (h : rY g0 g) (h2 : rX g g') : rY g0 g' := fun c j a => by rw [h2 c j (by omega)]; exact h c j a
theorem rY.tr {g0 g g' : Nat → Nat → Int} (h : rY g0 g) (h2 : rY g g') : rY g0 g' := fun c j a => by rw [h2 c j a]; exact h c j a
theorem rY.ln {kd am b : Int} {g : Nat → Nat → Int} : rY g (fLn kd am b g) := fun c j a => fLn_x (by omega)
theorem RT_rX {T : Int → Int} {E : Int} {g0 g : Nat → Nat → Int} (h : RT T E g0) (hX : rX g0 g) : RT T E g := by
  obtain ⟨a1, a2, a3, a4, a5⟩ := h
  have fl : ∀ k, flt g k = flt g0 k := fun k => by
    unfold flt
    rw [hX 148 9 (by decide), hX 153 _ (fun t => absurd t.1 (by decide)), hX 149 _ (fun t => absurd t.1 (by decide))]
  exact ⟨by rw [hX 148 10 (by decide)]; exact a1, a2, a3, by rw [hX 148 9 (by decide)]; exact a4, fun k k0 k1 => by rw [fl]; exact a5 k k0 k1⟩
section G5L
variable {W : ax_W} {r : Nat} {g g0 : Nat → Nat → Int} {Q : Nat → Nat → (Nat → Nat → Int) → Prop} {T : Int → Int} {E f : Int}
theorem sp_rfig {lo hi dp : Int} (h : rwS T E g0 g f dp) (hlo : fR lo) (hhi : fR hi) (k1 : pN T E lo hi f → ∀ g', rwS T E g0 g' (pSk T E (pDg T E f)) dp → Q 1 (fI (pNu T E f)) g') (k2 : ¬ pN T E lo hi f → ∀ v g', rwF g0 g' f 400 dp → fR v → Q 1 (fI v) g') : fx W r 3 276 0 [1186, fI lo, fI hi, 7, 7] [] g Q := by
  have ok := h.ok
  have ok1 := ok.1
  have e := h.2.2.2.1
  have hE := h.1.2.2.1
  refine sp_figures h.1 h.2.2.2.2.1 h.2.1 h.2.2.1 hlo hhi (fun n => ?_) (fun n a v a0 aE rv => ?_)
  · rw [e] at n ⊢
    have w1 := pDg_ge T E f
    exact k1 n _ (h.to (by omega) (pDg_le ok.2.1))
  · rw [e] at n ⊢
    exact k2 n v _ ⟨fu_eq _ _ _ _, ok1, (h.2.2.2.2.2.2.a).f, by rw [fu_nj (by decide), fu_eq]; exact a0, by rw [fu_nj (by decide), fu_eq]; omega, by rw [fu_nj (by decide), fu_nj (by decide)]; exact h.2.2.2.2.2.1⟩ rv
theorem sp_mll_2 {kd am : Int} {R : Int ⊕ (Int × List Int × Int × Int)} (hP : g0 148 15 = 0 ∨ g0 148 15 = 1) (hT : g0 148 16 = 0 ∨ g0 148 16 = 1) (h : rwS T E g0 g f 0) (hk : kd = 0 ∨ kd = 1 ∨ kd = 2) (ha : 0 ≤ am ∧ am ≤ 999) (eR : pIf T E f [] kd am = R)
    (kq : ∀ f1 d b g', R = Sum.inr (f1, d, kd, am) → b = lnV (fF g0) d → rwS T E (fLn kd am b g0) g' f1 0 → Q 0 0 g') (kf : ∀ q g', R = Sum.inl q → rwF g0 g' q 408 0 → Q 0 0 g') : fx W r 33 274 81 [1186, fI kd, fI am, 7] [] g Q := by
  have ok := h.ok
  have ok2 := ok.2.1
  have hE := h.1.2.2.1
  unfold pIf at eR
  refine fx_la 0 82 (v := 1186) (by decide +kernel) rfl (by decide +kernel) ?_
  refine fx_lds 421 84 (by decide +kernel) ?_
  refine fx_c2 275 21 87 4 [7, 7] (by decide +kernel) (by decide) (by decide) (by decide) rfl (by first | decide | omega) ?_
  refine sp_rhas [105, 102] (by decide +kernel) h (fun t g1 s1 => fK1 ?_) (fun t g1 s1 _ => fK1 ?_)
  · refine fx_zeq 97 90 (by decide +kernel) (by unfold fR; omega) (fun hc => absurd hc (by decide)) (fun _ => ?_)
    refine fx_la 0 91 (v := 1186) (by decide +kernel) rfl (by decide +kernel) ?_
    refine fx_c1 278 21 94 32 [7, 7] (by decide +kernel) (by decide) rfl (by first | decide | omega) ?_
    rw [cif_t t] at eR
    have w := pOk_we ok
    have w1 := w.1
    have w2 := w.2.1
    refine sp_rS0 _ _ _ g0 _ _ [] 1300 hP hT s1 (by omega) (fun f3 d3 b g3 p3 s3 v3 b3 => fK1 ?_) (fun q b g3 p3 s3 b3 => fK1 ?_)
    have dn : lnV (fF g0) d3 = b := by
      have v4 : evS (fF g0) d3 = b :: [] := v3
      unfold lnV
      rw [if_neg (fun t => by rw [t] at v4; cases v4), v4]
      rfl
    · refine fx_zeq 101 97 (by decide +kernel) (by unfold fR; omega) (fun h94 => ?_) (fun h94 => ?_)
      · refine fx_ci (0) 102 (by decide +kernel) ?_
        refine fx_si 3 103 (by decide +kernel) (Or.inr (fI_n4 _)) rfl ?_
        dsimp only [List.set]
        refine fx_la 0 104 (v := 1186) (by decide +kernel) rfl (by decide +kernel) ?_
        refine fx_gi 1186 148 12 107 (by decide +kernel) ?_
        try simp only [fu_app, fcy_app, Nat.reduceEqDiff, and_true, and_false, false_and, true_and, if_true, if_false, ite_true, ite_false, reduceIte, Int.reduceToNat, fx_simp0]
        refine fx_rg (fun hg => ?_)
        have rf := hg 148 12 (by decide) (by decide +kernel) (by decide +kernel)
        unfold fR at rf
        refine fx_cn (-1) 108 (by decide +kernel) (fun v107 c107 => ?_)
        refine fx_ieq 112 111 (by decide +kernel) (by unfold fR; omega) (by unfold fR; omega) (fun h108 => ?_) (fun h108 => ?_)
        · rw [p3, bS_r] at eR
          first
            | exact sp_mll_3 hk ha (Or.inl rfl) (kq f3 d3 0 _ eR.symm (by omega) s3.ln)
            | exact sp_mll_3 hk ha (Or.inr rfl) (kq f3 d3 1 _ eR.symm (by omega) s3.ln)
        · refine fx_vret (by decide +kernel) ?_
          have q1 := s3.2.2.2.2.1
          exfalso; omega
      · refine fx_ci (1) 98 (by decide +kernel) ?_
        refine fx_go 102 (by decide +kernel) ?_
        refine fx_si 3 103 (by decide +kernel) (Or.inr (fI_n4 _)) rfl ?_
        dsimp only [List.set]
        refine fx_la 0 104 (v := 1186) (by decide +kernel) rfl (by decide +kernel) ?_
        refine fx_gi 1186 148 12 107 (by decide +kernel) ?_
        try simp only [fu_app, fcy_app, Nat.reduceEqDiff, and_true, and_false, false_and, true_and, if_true, if_false, ite_true, ite_false, reduceIte, Int.reduceToNat, fx_simp0]
        refine fx_rg (fun hg => ?_)
        have rf := hg 148 12 (by decide) (by decide +kernel) (by decide +kernel)
        unfold fR at rf
        refine fx_cn (-1) 108 (by decide +kernel) (fun v107 c107 => ?_)
        refine fx_ieq 112 111 (by decide +kernel) (by unfold fR; omega) (by unfold fR; omega) (fun h108 => ?_) (fun h108 => ?_)
        · rw [p3, bS_r] at eR
          first
            | exact sp_mll_3 hk ha (Or.inl rfl) (kq f3 d3 0 _ eR.symm (by omega) s3.ln)
            | exact sp_mll_3 hk ha (Or.inr rfl) (kq f3 d3 1 _ eR.symm (by omega) s3.ln)
        · refine fx_vret (by decide +kernel) ?_
          have q1 := s3.2.2.2.2.1
          exfalso; omega
    · refine fx_zeq 101 97 (by decide +kernel) (by unfold fR; omega) (fun h94 => ?_) (fun h94 => ?_)
      · refine fx_ci (0) 102 (by decide +kernel) ?_
        refine fx_si 3 103 (by decide +kernel) (Or.inr (fI_n4 _)) rfl ?_
        dsimp only [List.set]
        refine fx_la 0 104 (v := 1186) (by decide +kernel) rfl (by decide +kernel) ?_
        refine fx_gi 1186 148 12 107 (by decide +kernel) ?_
        try simp only [fu_app, fcy_app, Nat.reduceEqDiff, and_true, and_false, false_and, true_and, if_true, if_false, ite_true, ite_false, reduceIte, Int.reduceToNat, fx_simp0]
        refine fx_rg (fun hg => ?_)
        have rf := hg 148 12 (by decide) (by decide +kernel) (by decide +kernel)
        unfold fR at rf
        refine fx_cn (-1) 108 (by decide +kernel) (fun v107 c107 => ?_)
        refine fx_ieq 112 111 (by decide +kernel) (by unfold fR; omega) (by unfold fR; omega) (fun h108 => ?_) (fun h108 => ?_)
        · have q1 := s3.1
          have q2 := s3.2.1
          exfalso; omega
        · refine fx_vret (by decide +kernel) ?_
          exact kf q g3 (by rw [← eR, p3, bS_l]) s3
      · refine fx_ci (1) 98 (by decide +kernel) ?_
        refine fx_go 102 (by decide +kernel) ?_
        refine fx_si 3 103 (by decide +kernel) (Or.inr (fI_n4 _)) rfl ?_
        dsimp only [List.set]
        refine fx_la 0 104 (v := 1186) (by decide +kernel) rfl (by decide +kernel) ?_
        refine fx_gi 1186 148 12 107 (by decide +kernel) ?_
        try simp only [fu_app, fcy_app, Nat.reduceEqDiff, and_true, and_false, false_and, true_and, if_true, if_false, ite_true, ite_false, reduceIte, Int.reduceToNat, fx_simp0]
        refine fx_rg (fun hg => ?_)
        have rf := hg 148 12 (by decide) (by decide +kernel) (by decide +kernel)
        unfold fR at rf
        refine fx_cn (-1) 108 (by decide +kernel) (fun v107 c107 => ?_)
        refine fx_ieq 112 111 (by decide +kernel) (by unfold fR; omega) (by unfold fR; omega) (fun h108 => ?_) (fun h108 => ?_)
        · have q1 := s3.1
          have q2 := s3.2.1
          exfalso; omega
        · refine fx_vret (by decide +kernel) ?_
          exact kf q g3 (by rw [← eR, p3, bS_l]) s3
  · refine fx_zeq 97 90 (by decide +kernel) (by unfold fR; omega) (fun _ => ?_) (fun hc => absurd hc (by decide))
    refine fx_ci (1) 98 (by decide +kernel) ?_
    refine fx_go 102 (by decide +kernel) ?_
    refine fx_si 3 103 (by decide +kernel) (Or.inr (fI_n4 _)) rfl ?_
    dsimp only [List.set]
    refine fx_la 0 104 (v := 1186) (by decide +kernel) rfl (by decide +kernel) ?_
    refine fx_gi 1186 148 12 107 (by decide +kernel) ?_
    try simp only [fu_app, fcy_app, Nat.reduceEqDiff, and_true, and_false, false_and, true_and, if_true, if_false, ite_true, ite_false, reduceIte, Int.reduceToNat, fx_simp0]
    refine fx_rg (fun hg => ?_)
    have rf := hg 148 12 (by decide) (by decide +kernel) (by decide +kernel)
    unfold fR at rf
    refine fx_cn (-1) 108 (by decide +kernel) (fun v107 c107 => ?_)
    refine fx_ieq 112 111 (by decide +kernel) (by unfold fR; omega) (by unfold fR; omega) (fun h108 => ?_) (fun h108 => ?_)
    · rw [cif_f t] at eR
      exact sp_mll_3 hk ha (Or.inr rfl) (kq f [] 1 _ eR.symm (by unfold lnV; rw [if_pos rfl]) s1.ln)
    · refine fx_vret (by decide +kernel) ?_
      have q1 := s1.2.2.2.2.1
      exfalso; omega
theorem sp_mlawLine (hP : g0 148 15 = 0 ∨ g0 148 15 = 1) (hT : g0 148 16 = 0 ∨ g0 148 16 = 1) (h : rwS T E g0 g f 0)
    (kq : ∀ f1 d kd am b g', pLL T E f [] = Sum.inr (f1, d, kd, am) → b = lnV (fF g0) d → rwS T E (fLn kd am b g0) g' f1 0 → Q 0 0 g') (kf : ∀ q g', pLL T E f [] = Sum.inl q → rwF g0 g' q 408 0 → Q 0 0 g') : fx W r 33 274 0 [1186, 7, 7, 7] [] g Q := by
  have ok := h.ok
  have ok1 := ok.1
  have ok2 := ok.2.1
  have hE := h.1.2.2.1
  have num : ∀ k : Int, pKind T E f = k → k ≠ -1 → k ≠ 2 → pN T E 0 30 (pSk T E (pWe T E f)) → pLL T E f [] = pIf T E (pSk T E (pDg T E (pSk T E (pWe T E f)))) [] k (pNu T E (pSk T E (pWe T E f))) := fun k e n1 n2 t => by
    unfold pLL
    rw [cif_f (by omega), cif_f (by omega), cif_t t, e]
  have nof : ∀ k : Int, pKind T E f = k → k ≠ -1 → k ≠ 2 → ¬ pN T E 0 30 (pSk T E (pWe T E f)) → pLL T E f [] = Sum.inl (pSk T E (pWe T E f)) := fun k e n1 n2 t => by
    unfold pLL
    rw [cif_f (by omega), cif_f (by omega), cif_f t]
  refine fx_la 0 1 (v := 1186) (by decide +kernel) rfl (by decide +kernel) ?_
  refine fx_lds 397 3 (by decide +kernel) ?_
  refine fx_c2 275 21 6 4 [7, 7] (by decide +kernel) (by decide) (by decide) (by decide) rfl (by first | decide | omega) ?_
  refine sp_rhas [109, 111, 114, 101] (by decide +kernel) h (fun t1 g1 s1 => fK1 ?_) (fun t1 g1 s1 _ => fK1 ?_)
  · have eK : pKind T E f = 0 := cif_t t1
    refine fx_zeq 13 9 (by decide +kernel) (by unfold fR; omega) (fun hc => absurd hc (by decide)) (fun _ => ?_)
    refine fx_ci (0) 10 (by decide +kernel) ?_
    refine fx_go 40 (by decide +kernel) ?_
    refine fx_si 1 41 (by decide +kernel) (Or.inr (f_n4p (v := 1186) rfl (by decide))) rfl ?_
    dsimp only [List.set]
    refine fx_li 1 42 (by decide +kernel) rfl ?_
    refine fx_ci (-1) 43 (by decide +kernel) ?_
    refine fx_ine 55 46 (by decide +kernel) (by unfold fR; omega) (by unfold fR; omega) (fun _ => ?_) (fun hc => absurd hc (by decide))
    refine fx_li 1 56 (by decide +kernel) rfl ?_
    refine fx_ci (2) 57 (by decide +kernel) ?_
    refine fx_ine 64 60 (by decide +kernel) (by unfold fR; omega) (by unfold fR; omega) (fun _ => ?_) (fun hc => absurd hc (by decide))
    refine fx_la 0 65 (v := 1186) (by decide +kernel) rfl (by decide +kernel) ?_
    refine fx_ci (0) 66 (by decide +kernel) ?_
    refine fx_ci (30) 68 (by decide +kernel) ?_
    refine fx_c3 276 21 71 3 [7, 7] (by decide +kernel) (by decide) (by decide) (fI_n4 _) (fI_n4 _) rfl (by first | decide | omega) ?_
    refine sp_rfig s1 (by unfold fR; omega) (by unfold fR; omega) (fun t g5 s5 => fK1 ?_) (fun t v g5 s5 rv => fK1 ?_)
    have nb : 0 ≤ pNu T E (pSk T E (pWe T E f)) ∧ pNu T E (pSk T E (pWe T E f)) ≤ 30 := ⟨t.2.2.1, t.2.2.2⟩
    · refine fx_si 2 72 (by decide +kernel) (Or.inr (fI_n4 _)) rfl ?_
      dsimp only [List.set]
      refine fx_la 0 73 (v := 1186) (by decide +kernel) rfl (by decide +kernel) ?_
      refine fx_gi 1186 148 12 76 (by decide +kernel) ?_
      try simp only [fu_app, fcy_app, Nat.reduceEqDiff, and_true, and_false, false_and, true_and, if_true, if_false, ite_true, ite_false, reduceIte, Int.reduceToNat, fx_simp0]
      refine fx_rg (fun hg => ?_)
      have rf := hg 148 12 (by decide) (by decide +kernel) (by decide +kernel)
      unfold fR at rf
      refine fx_cn (-1) 77 (by decide +kernel) (fun v76 c76 => ?_)
      refine fx_ieq 81 80 (by decide +kernel) (by unfold fR; omega) (by unfold fR; omega) (fun h77 => ?_) (fun h77 => ?_)
      · exact sp_mll_2 hP hT s5 (by first | exact Or.inl rfl | exact Or.inr (Or.inl rfl)) (by omega) (num _ eK (by decide) (by decide) t).symm (fun f1 d b g' p1 p2 p3 => kq f1 d _ _ b g' p1 p2 p3) (fun q g' p1 p2 => kf q g' p1 p2)
      · refine fx_vret (by decide +kernel) ?_
        have q1 := s5.2.2.2.2.1
        exfalso; omega
    · refine fx_si 2 72 (by decide +kernel) (Or.inr (fI_n4 _)) rfl ?_
      dsimp only [List.set]
      refine fx_la 0 73 (v := 1186) (by decide +kernel) rfl (by decide +kernel) ?_
      refine fx_gi 1186 148 12 76 (by decide +kernel) ?_
      try simp only [fu_app, fcy_app, Nat.reduceEqDiff, and_true, and_false, false_and, true_and, if_true, if_false, ite_true, ite_false, reduceIte, Int.reduceToNat, fx_simp0]
      refine fx_rg (fun hg => ?_)
      have rf := hg 148 12 (by decide) (by decide +kernel) (by decide +kernel)
      unfold fR at rf
      refine fx_cn (-1) 77 (by decide +kernel) (fun v76 c76 => ?_)
      refine fx_ieq 81 80 (by decide +kernel) (by unfold fR; omega) (by unfold fR; omega) (fun h77 => ?_) (fun h77 => ?_)
      · have q1 := s5.1
        have q2 := s5.2.1
        exfalso; omega
      · refine fx_vret (by decide +kernel) ?_
        exact kf _ g5 (nof _ eK (by decide) (by decide) t) ⟨s5.1, s5.2.1, s5.2.2.1, s5.2.2.2.1, by have := s5.2.2.2.2.1; omega, s5.2.2.2.2.2⟩
  · refine fx_zeq 13 9 (by decide +kernel) (by unfold fR; omega) (fun _ => ?_) (fun hc => absurd hc (by decide))
    refine fx_la 0 14 (v := 1186) (by decide +kernel) rfl (by decide +kernel) ?_
    refine fx_lds 405 16 (by decide +kernel) ?_
    refine fx_c2 275 21 19 4 [7, 7] (by decide +kernel) (by decide) (by decide) (by decide) rfl (by first | decide | omega) ?_
    refine sp_rhas [108, 101, 115, 115] (by decide +kernel) s1 (fun t2 g2 s2 => fK1 ?_) (fun t2 g2 s2 _ => fK1 ?_)
    · have eK : pKind T E f = 1 := (cif_f t1).trans (cif_t t2)
      refine fx_zeq 26 22 (by decide +kernel) (by unfold fR; omega) (fun hc => absurd hc (by decide)) (fun _ => ?_)
      refine fx_ci (1) 23 (by decide +kernel) ?_
      refine fx_go 40 (by decide +kernel) ?_
      refine fx_si 1 41 (by decide +kernel) (Or.inr (f_n4p (v := 1186) rfl (by decide))) rfl ?_
      dsimp only [List.set]
      refine fx_li 1 42 (by decide +kernel) rfl ?_
      refine fx_ci (-1) 43 (by decide +kernel) ?_
      refine fx_ine 55 46 (by decide +kernel) (by unfold fR; omega) (by unfold fR; omega) (fun _ => ?_) (fun hc => absurd hc (by decide))
      refine fx_li 1 56 (by decide +kernel) rfl ?_
      refine fx_ci (2) 57 (by decide +kernel) ?_
      refine fx_ine 64 60 (by decide +kernel) (by unfold fR; omega) (by unfold fR; omega) (fun _ => ?_) (fun hc => absurd hc (by decide))
      refine fx_la 0 65 (v := 1186) (by decide +kernel) rfl (by decide +kernel) ?_
      refine fx_ci (0) 66 (by decide +kernel) ?_
      refine fx_ci (30) 68 (by decide +kernel) ?_
      refine fx_c3 276 21 71 3 [7, 7] (by decide +kernel) (by decide) (by decide) (fI_n4 _) (fI_n4 _) rfl (by first | decide | omega) ?_
      refine sp_rfig s2 (by unfold fR; omega) (by unfold fR; omega) (fun t g5 s5 => fK1 ?_) (fun t v g5 s5 rv => fK1 ?_)
      have nb : 0 ≤ pNu T E (pSk T E (pWe T E f)) ∧ pNu T E (pSk T E (pWe T E f)) ≤ 30 := ⟨t.2.2.1, t.2.2.2⟩
      · refine fx_si 2 72 (by decide +kernel) (Or.inr (fI_n4 _)) rfl ?_
        dsimp only [List.set]
        refine fx_la 0 73 (v := 1186) (by decide +kernel) rfl (by decide +kernel) ?_
        refine fx_gi 1186 148 12 76 (by decide +kernel) ?_
        try simp only [fu_app, fcy_app, Nat.reduceEqDiff, and_true, and_false, false_and, true_and, if_true, if_false, ite_true, ite_false, reduceIte, Int.reduceToNat, fx_simp0]
        refine fx_rg (fun hg => ?_)
        have rf := hg 148 12 (by decide) (by decide +kernel) (by decide +kernel)
        unfold fR at rf
        refine fx_cn (-1) 77 (by decide +kernel) (fun v76 c76 => ?_)
        refine fx_ieq 81 80 (by decide +kernel) (by unfold fR; omega) (by unfold fR; omega) (fun h77 => ?_) (fun h77 => ?_)
        · exact sp_mll_2 hP hT s5 (by first | exact Or.inl rfl | exact Or.inr (Or.inl rfl)) (by omega) (num _ eK (by decide) (by decide) t).symm (fun f1 d b g' p1 p2 p3 => kq f1 d _ _ b g' p1 p2 p3) (fun q g' p1 p2 => kf q g' p1 p2)
        · refine fx_vret (by decide +kernel) ?_
          have q1 := s5.2.2.2.2.1
          exfalso; omega
      · refine fx_si 2 72 (by decide +kernel) (Or.inr (fI_n4 _)) rfl ?_
        dsimp only [List.set]
        refine fx_la 0 73 (v := 1186) (by decide +kernel) rfl (by decide +kernel) ?_
        refine fx_gi 1186 148 12 76 (by decide +kernel) ?_
        try simp only [fu_app, fcy_app, Nat.reduceEqDiff, and_true, and_false, false_and, true_and, if_true, if_false, ite_true, ite_false, reduceIte, Int.reduceToNat, fx_simp0]
        refine fx_rg (fun hg => ?_)
        have rf := hg 148 12 (by decide) (by decide +kernel) (by decide +kernel)
        unfold fR at rf
        refine fx_cn (-1) 77 (by decide +kernel) (fun v76 c76 => ?_)
        refine fx_ieq 81 80 (by decide +kernel) (by unfold fR; omega) (by unfold fR; omega) (fun h77 => ?_) (fun h77 => ?_)
        · have q1 := s5.1
          have q2 := s5.2.1
          exfalso; omega
        · refine fx_vret (by decide +kernel) ?_
          exact kf _ g5 (nof _ eK (by decide) (by decide) t) ⟨s5.1, s5.2.1, s5.2.2.1, s5.2.2.2.1, by have := s5.2.2.2.2.1; omega, s5.2.2.2.2.2⟩
    · refine fx_zeq 26 22 (by decide +kernel) (by unfold fR; omega) (fun _ => ?_) (fun hc => absurd hc (by decide))
      refine fx_la 0 27 (v := 1186) (by decide +kernel) rfl (by decide +kernel) ?_
      refine fx_lds 413 29 (by decide +kernel) ?_
      refine fx_c2 275 21 32 4 [7, 7] (by decide +kernel) (by decide) (by decide) (by decide) rfl (by first | decide | omega) ?_
      refine sp_rhas [111, 102, 102] (by decide +kernel) s2 (fun t3 g3 s3 => fK1 ?_) (fun t3 g3 s3 a3 => fK1 ?_)
      · have eK : pKind T E f = 2 := (cif_f t1).trans ((cif_f t2).trans (cif_t t3))
        refine fx_zeq 39 35 (by decide +kernel) (by unfold fR; omega) (fun hc => absurd hc (by decide)) (fun _ => ?_)
        refine fx_ci (2) 36 (by decide +kernel) ?_
        refine fx_go 40 (by decide +kernel) ?_
        refine fx_si 1 41 (by decide +kernel) (Or.inr (f_n4p (v := 1186) rfl (by decide))) rfl ?_
        dsimp only [List.set]
        refine fx_li 1 42 (by decide +kernel) rfl ?_
        refine fx_ci (-1) 43 (by decide +kernel) ?_
        refine fx_ine 55 46 (by decide +kernel) (by unfold fR; omega) (by unfold fR; omega) (fun _ => ?_) (fun hc => absurd hc (by decide))
        refine fx_li 1 56 (by decide +kernel) rfl ?_
        refine fx_ci (2) 57 (by decide +kernel) ?_
        refine fx_ine 64 60 (by decide +kernel) (by unfold fR; omega) (by unfold fR; omega) (fun hc => absurd hc (by decide)) (fun _ => ?_)
        refine fx_ci (0) 61 (by decide +kernel) ?_
        refine fx_go 71 (by decide +kernel) ?_
        refine fx_si 2 72 (by decide +kernel) (Or.inr (fI_n4 _)) rfl ?_
        dsimp only [List.set]
        refine fx_la 0 73 (v := 1186) (by decide +kernel) rfl (by decide +kernel) ?_
        refine fx_gi 1186 148 12 76 (by decide +kernel) ?_
        try simp only [fu_app, fcy_app, Nat.reduceEqDiff, and_true, and_false, false_and, true_and, if_true, if_false, ite_true, ite_false, reduceIte, Int.reduceToNat, fx_simp0]
        refine fx_rg (fun hg => ?_)
        have rf := hg 148 12 (by decide) (by decide +kernel) (by decide +kernel)
        unfold fR at rf
        refine fx_cn (-1) 77 (by decide +kernel) (fun v76 c76 => ?_)
        refine fx_ieq 81 80 (by decide +kernel) (by unfold fR; omega) (by unfold fR; omega) (fun h77 => ?_) (fun h77 => ?_)
        · exact sp_mll_2 hP hT s3 (Or.inr (Or.inr rfl)) (by omega) (show pIf T E (pSk T E (pWe T E f)) [] 2 0 = pLL T E f [] by unfold pLL; rw [cif_f (by omega), cif_t eK]) (fun f1 d b g' p1 p2 p3 => kq f1 d _ _ b g' p1 p2 p3) (fun q g' p1 p2 => kf q g' p1 p2)
        · refine fx_vret (by decide +kernel) ?_
          have q1 := s3.2.2.2.2.1
          exfalso; omega
      · refine fx_zeq 39 35 (by decide +kernel) (by unfold fR; omega) (fun _ => ?_) (fun hc => absurd hc (by decide))
        refine fx_cn (-1) 40 (by decide +kernel) (fun v39 c39 => ?_)
        refine fx_si 1 41 (by decide +kernel) (Or.inr (f_n4p (v := 1186) rfl (by decide))) rfl ?_
        dsimp only [List.set]
        refine fx_li 1 42 (by decide +kernel) rfl ?_
        refine fx_ci (-1) 43 (by decide +kernel) ?_
        refine fx_ine 55 46 (by decide +kernel) (by unfold fR; omega) (by unfold fR; omega) (fun h43 => ?_) (fun h43 => ?_)
        · exfalso; omega
        · refine fx_la 0 47 (v := 1186) (by decide +kernel) rfl (by decide +kernel) ?_
          refine fx_la 0 48 (v := 1186) (by decide +kernel) rfl (by decide +kernel) ?_
          refine fx_gi 1186 148 11 51 (by decide +kernel) ?_
          try simp only [fu_app, fcy_app, Nat.reduceEqDiff, and_true, and_false, false_and, true_and, if_true, if_false, ite_true, ite_false, reduceIte, Int.reduceToNat, fx_simp0]
          rw [a3]
          refine fx_c2 273 21 54 0 [] (by decide +kernel) (by decide) (by decide) (fI_n4 _) rfl (by first | decide | omega) ?_
          refine sp_wrong s3.2.2.2.2.1 (by unfold fR; omega) (fK0 ?_)
          refine fx_vret (by decide +kernel) ?_
          exact kf f _ (by unfold pLL pKind; rw [cif_t (by rw [cif_f t1, cif_f t2, cif_f t3])]) ⟨fu_eq _ _ _ _, ok1, s3.2.2.2.2.2.2.f, by rw [fu_nj (by decide), a3]; exact ok1, by rw [fu_nj (by decide), a3]; omega, by rw [fu_nj (by decide)]; exact s3.2.2.2.2.2.1⟩
end G5L
