/-! fx: the class reads the law: lines, the text -/
def lwL (g : Nat → Nat → Int) (ls : List (List Int)) : Prop := g 35 7 = (ls.length : Int) ∧ ∀ i : Nat, i < ls.length → g 36 i = (ls.getD i []).getD 0 0 ∧ g 37 i = (ls.getD i []).getD 1 0 ∧ g 38 i = (ls.getD i []).getD 2 0 ∧ g 39 i = (ls.getD i []).getD 3 0
def fLY (g0 g : Nat → Nat → Int) : Prop := ∀ c j, ¬ (c = 34 ∧ (j = 1 ∨ j = 2 ∨ j = 3)) → ¬ (c = 35 ∧ (j = 8 ∨ j = 7)) → ¬ (36 ≤ c ∧ c ≤ 40) → g c j = g0 c j
theorem fLY.rf {g : Nat → Nat → Int} : fLY g g := fun _ _ _ _ _ => rfl
theorem fLY.x {g0 g g' : Nat → Nat → Int} (h : fLY g0 g) (h2 : fLX g g') : fLY g0 g' := fun c j a b d => by rw [h2 c j a (fun t => b ⟨t.1, Or.inl t.2⟩) (by omega)]; exact h c j a b d
theorem fLY.tr {g0 g g' : Nat → Nat → Int} (h : fLY g0 g) (h2 : fLY g g') : fLY g0 g' := fun c j a b d => by rw [h2 c j a b d]; exact h c j a b d
theorem lwS.self {T : Int → Int} {E f : Int} {g0 g : Nat → Nat → Int} {c : List Int} (h : lwS T E g0 g f c) : lwS T E g g f c := ⟨h.1, h.2.1, h.2.2.1, fLX.rf⟩
/-- the class stands at f ahead of a line -/
def lwT (T : Int → Int) (E : Int) (g0 g : Nat → Nat → Int) (f : Int) (c : List Int) (ls : List (List Int)) : Prop := lwS T E g g f c ∧ lwL g ls ∧ fLY g0 g
theorem getD_ap {ls : List (List Int)} {x : List Int} {i : Nat} (h : i < ls.length) : (ls ++ [x]).getD i [] = ls.getD i [] := by
  rw [List.getD_eq_getElem?_getD, List.getD_eq_getElem?_getD, List.getElem?_append_left h]
theorem getD_ae {ls : List (List Int)} {x : List Int} : (ls ++ [x]).getD ls.length [] = x := by
  rw [List.getD_eq_getElem?_getD, List.getElem?_append_right (Nat.le_refl _)]
  simp
section G5E
variable {W : ax_W} {r : Nat} {g g0 : Nat → Nat → Int} {Q : Nat → Nat → (Nat → Nat → Int) → Prop} {T : Int → Int} {E f : Int} {c : List Int} {ls : List (List Int)}
def fOp (g : Nat → Nat → Int) (n : Nat) (kd am : Int) : Nat → Nat → Int := fu (fu (fu g 36 n kd) 37 n am) 38 n (g 35 8)
def fCl (g : Nat → Nat → Int) (n : Nat) : Nat → Nat → Int := fu (fu g 39 n (g 35 8)) 35 7 ((n : Int) + 1)
theorem sp_lopen {n : Nat} {kd am : Int} (hn : g 35 7 = (n : Int)) (h12 : n < 12) (hk : fR kd) (ha : fR am) (kq : Q 0 0 (fOp g n kd am)) : fx W r 0 103 0 [282, fI kd, fI am] [] g Q := by
  refine fx_rg (fun hg => ?_)
  have hk2 := hk
  have ha2 := ha
  have rs := hg 35 8 (by decide) (by decide +kernel) (by decide +kernel)
  unfold fR at hk2 ha2 rs
  refine fx_la 0 1 (v := 282) (by decide +kernel) rfl (by decide +kernel) ?_
  refine fx_gi 282 35 7 4 (by decide +kernel) ?_
  refine fx_zlt 49 7 (by decide +kernel) (by first | exact hg 35 7 (by decide) (by decide +kernel) (by decide +kernel) | (unfold fR; omega)) (fun h4 => ?_) (fun h4 => ?_)
  · exfalso; omega
  · refine fx_la 0 8 (v := 282) (by decide +kernel) rfl (by decide +kernel) ?_
    refine fx_gi 282 35 7 11 (by decide +kernel) ?_
    refine fx_ci (12) 13 (by decide +kernel) ?_
    refine fx_ige 49 16 (by decide +kernel) (by first | exact hg 35 7 (by decide) (by decide +kernel) (by decide +kernel) | (unfold fR; omega)) (by unfold fR; omega) (fun h13 => ?_) (fun h13 => ?_)
    · exfalso; omega
    · refine fx_la 0 17 (v := 282) (by decide +kernel) rfl (by decide +kernel) ?_
      refine fx_gp 282 35 0 290 20 (by decide +kernel) ?_
      refine fx_la 0 21 (v := 282) (by decide +kernel) rfl (by decide +kernel) ?_
      refine fx_gi 282 35 7 24 (by decide +kernel) ?_
      refine fx_li 1 25 (by decide +kernel) rfl ?_
      refine fx_as 290 36 12 26 (by decide +kernel) rfl (by omega) (by omega) rfl (by unfold fR; omega) ?_
      refine fx_la 0 27 (v := 282) (by decide +kernel) rfl (by decide +kernel) ?_
      refine fx_gp 282 35 1 298 30 (by decide +kernel) ?_
      refine fx_la 0 31 (v := 282) (by decide +kernel) rfl (by decide +kernel) ?_
      refine fx_gi 282 35 7 34 (by decide +kernel) ?_
      try simp only [fu_app, fcy_app, Nat.reduceEqDiff, and_true, and_false, false_and, true_and, if_true, if_false, ite_true, ite_false, reduceIte, Int.reduceToNat, fx_simp0]
      refine fx_li 2 35 (by decide +kernel) rfl ?_
      refine fx_as 298 37 12 36 (by decide +kernel) rfl (by omega) (by omega) rfl (by unfold fR; omega) ?_
      refine fx_la 0 37 (v := 282) (by decide +kernel) rfl (by decide +kernel) ?_
      refine fx_gp 282 35 2 306 40 (by decide +kernel) ?_
      refine fx_la 0 41 (v := 282) (by decide +kernel) rfl (by decide +kernel) ?_
      refine fx_gi 282 35 7 44 (by decide +kernel) ?_
      try simp only [fu_app, fcy_app, Nat.reduceEqDiff, and_true, and_false, false_and, true_and, if_true, if_false, ite_true, ite_false, reduceIte, Int.reduceToNat, fx_simp0]
      refine fx_la 0 45 (v := 282) (by decide +kernel) rfl (by decide +kernel) ?_
      refine fx_gi 282 35 8 48 (by decide +kernel) ?_
      try simp only [fu_app, fcy_app, Nat.reduceEqDiff, and_true, and_false, false_and, true_and, if_true, if_false, ite_true, ite_false, reduceIte, Int.reduceToNat, fx_simp0]
      refine fx_as 306 38 12 49 (by decide +kernel) rfl (by omega) (by omega) rfl (by unfold fR; omega) ?_
      rw [hn, show ((n : Int)).toNat = n from rfl]
      exact fx_vret (by decide +kernel) kq
theorem sp_lclose {n : Nat} (hn : g 35 7 = (n : Int)) (h12 : n < 12) (kq : Q 0 0 (fCl g n)) : fx W r 0 110 0 [282] [] g Q := by
  refine fx_rg (fun hg => ?_)
  have rs := hg 35 8 (by decide) (by decide +kernel) (by decide +kernel)
  unfold fR at rs
  refine fx_la 0 1 (v := 282) (by decide +kernel) rfl (by decide +kernel) ?_
  refine fx_gi 282 35 7 4 (by decide +kernel) ?_
  refine fx_zlt 39 7 (by decide +kernel) (by first | exact hg 35 7 (by decide) (by decide +kernel) (by decide +kernel) | (unfold fR; omega)) (fun h4 => ?_) (fun h4 => ?_)
  · exfalso; omega
  · refine fx_la 0 8 (v := 282) (by decide +kernel) rfl (by decide +kernel) ?_
    refine fx_gi 282 35 7 11 (by decide +kernel) ?_
    refine fx_ci (12) 13 (by decide +kernel) ?_
    refine fx_ige 39 16 (by decide +kernel) (by first | exact hg 35 7 (by decide) (by decide +kernel) (by decide +kernel) | (unfold fR; omega)) (by unfold fR; omega) (fun h13 => ?_) (fun h13 => ?_)
    · exfalso; omega
    · refine fx_la 0 17 (v := 282) (by decide +kernel) rfl (by decide +kernel) ?_
      refine fx_gp 282 35 3 314 20 (by decide +kernel) ?_
      refine fx_la 0 21 (v := 282) (by decide +kernel) rfl (by decide +kernel) ?_
      refine fx_gi 282 35 7 24 (by decide +kernel) ?_
      refine fx_la 0 25 (v := 282) (by decide +kernel) rfl (by decide +kernel) ?_
      refine fx_gi 282 35 8 28 (by decide +kernel) ?_
      refine fx_as 314 39 12 29 (by decide +kernel) rfl (by omega) (by omega) rfl (by first | exact hg 35 8 (by decide) (by decide +kernel) (by decide +kernel) | (unfold fR; omega)) ?_
      refine fx_la 0 30 (v := 282) (by decide +kernel) rfl (by decide +kernel) ?_
      refine fx_dup 31 (by decide +kernel) rfl (by decide) ?_
      refine fx_gi 282 35 7 34 (by decide +kernel) ?_
      try simp only [fu_app, fcy_app, Nat.reduceEqDiff, and_true, and_false, false_and, true_and, if_true, if_false, ite_true, ite_false, reduceIte, Int.reduceToNat, fx_simp0]
      refine fx_ci (1) 35 (by decide +kernel) ?_
      refine fx_add 36 (by decide +kernel) rfl ?_
      refine fx_pi 282 35 7 39 (by decide +kernel) (by unfold fR; omega) ?_
      rw [hn, show ((n : Int)).toNat = n from rfl]
      exact fx_vret (by decide +kernel) kq
theorem fOp_x {n : Nat} {kd am : Int} {c j : Nat} (h1 : c ≠ 36) (h2 : c ≠ 37) (h3 : c ≠ 38) : fOp g n kd am c j = g c j := by
  unfold fOp
  rw [fu_nc h3, fu_nc h2, fu_nc h1]
theorem fOp_S {n : Nat} {kd am : Int} (h : lwS T E g g f c) : lwS T E (fOp g n kd am) (fOp g n kd am) f c := by
  obtain ⟨⟨a1, a2, a3, a4⟩, h2, h3, -⟩ := h
  refine ⟨⟨CT_eqL a1 (fOp_x (by decide) (by decide) (by decide)) (fun j => fOp_x (by decide) (by decide) (by decide)), ?_, ?_, a4⟩, ?_, fun j hj => ?_, fLX.rf⟩
  · rw [fOp_x (by decide) (by decide) (by decide)]; exact a2
  · rw [fOp_x (by decide) (by decide) (by decide)]; exact a3
  · rw [fOp_x (by decide) (by decide) (by decide)]; exact h2
  · rw [fOp_x (by decide) (by decide) (by decide)]; exact h3 j hj
theorem fCl_S {n : Nat} (h : lwS T E g0 g f c) : lwS T E (fCl g n) (fCl g n) f c := by
  obtain ⟨⟨a1, a2, a3, a4⟩, h2, h3, -⟩ := h
  have x : ∀ c j, c ≠ 39 → ¬ (c = 35 ∧ j = 7) → fCl g n c j = g c j := fun c j q1 q2 => by
    unfold fCl
    rw [fu_ne q2, fu_nc q1]
  refine ⟨⟨CT_eqL a1 (x _ _ (by decide) (by decide)) (fun j => x _ _ (by decide) (by intro t; exact absurd t.1 (by decide))), ?_, ?_, a4⟩, ?_, fun j hj => ?_, fLX.rf⟩
  · rw [x _ _ (by decide) (by decide)]; exact a2
  · rw [x _ _ (by decide) (by decide)]; exact a3
  · rw [x _ _ (by decide) (by decide)]; exact h2
  · rw [x _ _ (by decide) (by intro t; exact absurd t.1 (by decide))]; exact h3 j hj
theorem fOp_Y {n : Nat} {kd am : Int} (h : fLY g0 g) : fLY g0 (fOp g n kd am) := fun c j a b d => by
  rw [fOp_x (by omega) (by omega) (by omega)]
  exact h c j a b d
theorem fCl_Y {n : Nat} (h : fLY g0 g) : fLY g0 (fCl g n) := fun c j a b d => by
  unfold fCl
  rw [fu_ne (fun t => b ⟨t.1, Or.inr t.2⟩), fu_nc (by omega)]
  exact h c j a b d
/-- the line's row -/
theorem lw_row {g g2 : Nat → Nat → Int} {kd am : Int} {c2 : List Int} {f2 : Int} (hL : lwL g ls) (hS : lwS T E g g f c) (h2 : lwS T E (fOp g ls.length kd am) g2 f2 c2) : lwL (fCl g2 ls.length) (ls ++ [[kd, am, (c.length : Int), (c2.length : Int)]]) := by
  obtain ⟨l1, l2⟩ := hL
  obtain ⟨-, s2, -, -⟩ := hS
  obtain ⟨-, t2, -, t4⟩ := h2
  have ln : ((ls ++ [[kd, am, (c.length : Int), (c2.length : Int)]]).length : Int) = ls.length + 1 := by rw [List.length_append]; simp
  have x : ∀ c j, (36 ≤ c ∧ c ≤ 38) → fCl g2 ls.length c j = fOp g ls.length kd am c j := fun c j hc => by
    unfold fCl
    rw [fu_nc (by omega), fu_nc (by omega)]
    exact t4 c j (by omega) (by omega) (by omega)
  have xb : ∀ j, fCl g2 ls.length 39 j = if j = ls.length then (c2.length : Int) else g 39 j := fun j => by
    unfold fCl
    rw [fu_nc (by decide)]
    by_cases e : j = ls.length
    · subst e; rw [fu_eq, if_pos rfl]; exact t2
    · rw [fu_nj e, if_neg e, t4 _ j (by omega) (by omega) (by decide), fOp_x (by decide) (by decide) (by decide)]
  refine ⟨by unfold fCl; rw [fu_eq, ln], fun i hi => ?_⟩
  rw [x _ i (by decide), x _ i (by decide), x _ i (by decide), xb i]
  by_cases e : i = ls.length
  · subst e
    rw [getD_ae, if_pos rfl]
    refine ⟨?_, ?_, ?_, rfl⟩
    · unfold fOp; rw [fu_nc (by decide), fu_nc (by decide), fu_eq]; rfl
    · unfold fOp; rw [fu_nc (by decide), fu_eq]; rfl
    · unfold fOp; rw [fu_eq, s2]; rfl
  · have hi2 : i < ls.length := by omega
    rw [getD_ap hi2, if_neg e]
    obtain ⟨q1, q2, q3, q4⟩ := l2 i hi2
    refine ⟨?_, ?_, ?_, q4⟩
    · unfold fOp; rw [fu_nc (by decide), fu_nc (by decide), fu_nj e]; exact q1
    · unfold fOp; rw [fu_nc (by decide), fu_nj e, fu_nc (by decide)]; exact q2
    · unfold fOp; rw [fu_nj e, fu_nc (by decide), fu_nc (by decide)]; exact q3
/-- behind kind and amount -/
theorem sp_lline_2 {kd am : Int} {R : Int ⊕ (Int × List Int × Int × Int)} (h : lwT T E g0 g f c ls) (hl : (c.length : Int) ≤ f) (h12 : ls.length < 12) (hk : fR kd) (ha : fR am) (eR : pIf T E f c kd am = R)
    (k1 : ∀ f1 c1 g', R = Sum.inr (f1, c1, kd, am) → lwT T E g0 g' f1 c1 (ls ++ [[kd, am, (c.length : Int), (c1.length : Int)]]) → Q 1 (fI 1) g') (k2 : ∀ q g', R = Sum.inl q → g' 34 1 = q → fLY g0 g' → Q 1 (fI 0) g') : fx W r 23 102 75 [274, fI kd, fI am] [] g Q := by
  obtain ⟨hS, hL, hY⟩ := h
  have ok := hS.1.2.2.2
  have ok1 := ok.1
  have ok2 := ok.2.1
  have hE := hS.1.1.2.2.1
  unfold pIf at eR
  refine fx_la 0 76 (v := 274) (by decide +kernel) rfl (by decide +kernel) ?_
  refine fx_gp 274 34 5 282 79 (by decide +kernel) ?_
  refine fx_li 1 80 (by decide +kernel) rfl ?_
  refine fx_li 2 81 (by decide +kernel) rfl ?_
  refine fx_c3 103 21 84 0 [] (by decide +kernel) (by decide) (by decide) (fI_n4 _) (fI_n4 _) rfl (by first | decide | omega) ?_
  refine sp_lopen hL.1 h12 hk ha (fK0 ?_)
  have hS2 := fOp_S (n := ls.length) (kd := kd) (am := am) hS
  have hY2 := fOp_Y (n := ls.length) (kd := kd) (am := am) hY
  refine fx_la 0 85 (v := 274) (by decide +kernel) rfl (by decide +kernel) ?_
  refine fx_lds 149 87 (by decide +kernel) ?_
  refine fx_c2 78 21 90 5 [] (by decide +kernel) (by decide) (by decide) (by decide) rfl (by first | decide | omega) ?_
  refine sp_takesWordL [105, 102] (by decide +kernel) (by decide +kernel) hS2.1 (fun t => fK1 ?_) (fun t => fK1 ?_)
  · refine fx_zeq 103 93 (by decide +kernel) (by unfold fR; omega) (fun hc => absurd hc (by decide)) (fun _ => ?_)
    refine fx_la 0 94 (v := 274) (by decide +kernel) rfl (by decide +kernel) ?_
    refine fx_ci (0) 95 (by decide +kernel) ?_
    refine fx_c2 104 21 98 22 [7, 7, 7] (by decide +kernel) (by decide) (by decide) (fI_n4 _) rfl (by first | decide | omega) ?_
    have g0' := pSk_ge T E (pWe T E f)
    have g1' : pWe T E f - f = 2 := t.1
    rw [cif_t t] at eR
    refine sp_lC0 _ _ _ (fOp g ls.length kd am) _ _ c 1300 (hS2.to (pOk_we ok)) (by omega) (by omega) (fun f2 c2 g2 p1 h2 => fK1 ?_) (fun q g2 p1 p2 p3 => fK1 ?_)
    rw [p1, bS_r] at eR
    · refine fx_zne 103 101 (by decide +kernel) (by unfold fR; omega) (fun _ => ?_) (fun hc => absurd hc (by decide))
      refine fx_la 0 104 (v := 274) (by decide +kernel) rfl (by decide +kernel) ?_
      refine fx_gp 274 34 5 282 107 (by decide +kernel) ?_
      refine fx_c1 110 21 110 0 [] (by decide +kernel) (by decide) rfl (by first | decide | omega) ?_
      refine sp_lclose (n := ls.length) (by rw [h2.2.2.2 _ _ (by omega) (by omega) (by decide), fOp_x (by decide) (by decide) (by decide)]; exact hL.1) h12 (fK0 ?_)
      refine fx_ci (1) 111 (by decide +kernel) ?_
      refine fx_retb (by decide +kernel) (by first | exact Or.inl rfl | exact Or.inr rfl | omega) ?_
      exact k1 f2 c2 _ eR.symm ⟨fCl_S h2, lw_row hL hS h2, fCl_Y (hY2.x h2.2.2.2)⟩
    · refine fx_zne 103 101 (by decide +kernel) (by unfold fR; omega) (fun hc => absurd hc (by decide)) (fun _ => ?_)
      refine fx_ci (0) 102 (by decide +kernel) ?_
      refine fx_retb (by decide +kernel) (by first | exact Or.inl rfl | exact Or.inr rfl | omega) ?_
      exact k2 q g2 (by rw [← eR, p1, bS_l]) p2 (hY2.x p3)
  · refine fx_zeq 103 93 (by decide +kernel) (by unfold fR; omega) (fun _ => ?_) (fun hc => absurd hc (by decide))
    refine fx_la 0 104 (v := 274) (by decide +kernel) rfl (by decide +kernel) ?_
    refine fx_gp 274 34 5 282 107 (by decide +kernel) ?_
    refine fx_c1 110 21 110 0 [] (by decide +kernel) (by decide) rfl (by first | decide | omega) ?_
    refine sp_lclose (n := ls.length) (by rw [fOp_x (by decide) (by decide) (by decide)]; exact hL.1) h12 (fK0 ?_)
    refine fx_ci (1) 111 (by decide +kernel) ?_
    refine fx_retb (by decide +kernel) (by first | exact Or.inl rfl | exact Or.inr rfl | omega) ?_
    rw [cif_f t] at eR
    exact k1 f c _ eR.symm ⟨fCl_S hS2, lw_row hL hS hS2, fCl_Y hY2⟩
theorem lwT_to {f' : Int} (h : lwT T E g0 g f c ls) (hf : pOk T E f') : lwT T E g0 (cAtL T E g f') f' c ls := by
  obtain ⟨hS, hL, hY⟩ := h
  have x : ∀ c j, c ≠ 34 → cAtL T E g f' c j = g c j := fun c j q => by
    unfold cAtL
    rw [fu_nc q, fu_nc q]
  refine ⟨(hS.to hf).self, ⟨by rw [x _ _ (by decide)]; exact hL.1, fun i hi => ?_⟩, hY.x (fLX.a fLX.rf)⟩
  rw [x _ _ (by decide), x _ _ (by decide), x _ _ (by decide), x _ _ (by decide)]
  exact hL.2 i hi
theorem sp_lline (h : lwT T E g0 g f c ls) (hl : (c.length : Int) ≤ f) (h12 : ls.length < 12)
    (k1 : ∀ f1 c1 kd am g', pLL T E f c = Sum.inr (f1, c1, kd, am) → lwT T E g0 g' f1 c1 (ls ++ [[kd, am, (c.length : Int), (c1.length : Int)]]) → Q 1 (fI 1) g') (k2 : ∀ q g', pLL T E f c = Sum.inl q → g' 34 1 = q → fLY g0 g' → Q 1 (fI 0) g') : fx W r 23 102 0 [274, 7, 7] [] g Q := by
  have hs := h.1.1
  have ok := hs.2.2.2
  have ok1 := ok.1
  have ok2 := ok.2.1
  have hE := hs.1.2.2.1
  have okw := pOk_we ok
  have w0 := pSk_ge T E (pWe T E f)
  have ok3 := okw.2.1
  have kk : ∀ k : Int, pKind T E f = k → k ≠ -1 → f + 3 ≤ pWe T E f := fun k e n => (pKind_w (by omega)).1
  have num : ∀ k : Int, pKind T E f = k → k ≠ -1 → k ≠ 2 → pN T E 0 30 (pSk T E (pWe T E f)) → pLL T E f c = pIf T E (pSk T E (pDg T E (pSk T E (pWe T E f)))) c k (pNu T E (pSk T E (pWe T E f))) := fun k e n1 n2 t => by
    unfold pLL
    rw [cif_f (by omega), cif_f (by omega), cif_t t, e]
  have nof : ∀ k : Int, pKind T E f = k → k ≠ -1 → k ≠ 2 → ¬ pN T E 0 30 (pSk T E (pWe T E f)) → pLL T E f c = Sum.inl (pSk T E (pWe T E f)) := fun k e n1 n2 t => by
    unfold pLL
    rw [cif_f (by omega), cif_f (by omega), cif_f t]
  refine fx_la 0 1 (v := 274) (by decide +kernel) rfl (by decide +kernel) ?_
  refine fx_lds 125 3 (by decide +kernel) ?_
  refine fx_c2 78 21 6 5 [] (by decide +kernel) (by decide) (by decide) (by decide) rfl (by first | decide | omega) ?_
  refine sp_takesWordL [109, 111, 114, 101] (by decide +kernel) (by decide +kernel) hs (fun t1 => fK1 ?_) (fun t1 => fK1 ?_)
  · have eK : pKind T E f = 0 := cif_t t1
    refine fx_zeq 14 9 (by decide +kernel) (by unfold fR; omega) (fun hc => absurd hc (by decide)) (fun _ => ?_)
    refine fx_ci (0) 10 (by decide +kernel) ?_
    refine fx_si 1 11 (by decide +kernel) (Or.inr (f_n4p (v := 274) rfl (by decide))) rfl ?_
    dsimp only [List.set]
    refine fx_go 51 (by decide +kernel) ?_
    refine fx_li 1 52 (by decide +kernel) rfl ?_
    refine fx_ci (2) 53 (by decide +kernel) ?_
    refine fx_ine 60 56 (by decide +kernel) (by unfold fR; omega) (by unfold fR; omega) (fun _ => ?_) (fun hc => absurd hc (by decide))
    refine fx_la 0 61 (v := 274) (by decide +kernel) rfl (by decide +kernel) ?_
    refine fx_ci (0) 62 (by decide +kernel) ?_
    refine fx_ci (30) 64 (by decide +kernel) ?_
    refine fx_c3 93 21 67 1 [7, 7, 7] (by decide +kernel) (by decide) (by decide) (fI_n4 _) (fI_n4 _) rfl (by first | decide | omega) ?_
    have w1 := kk _ eK (by decide)
    have w2 := pDg_ge T E (pSk T E (pWe T E f))
    have w3 := pSk_ge T E (pDg T E (pSk T E (pWe T E f)))
    refine sp_takeNumberL (cSt_atL hs.1 okw) (by unfold fR; omega) (by unfold fR; omega) (fun t => fK1 ?_) (fun t vn hvn => fK1 ?_)
    have nb : 0 ≤ pNu T E (pSk T E (pWe T E f)) ∧ pNu T E (pSk T E (pWe T E f)) ≤ 30 := ⟨t.2.2.1, t.2.2.2⟩
    · refine fx_si 2 68 (by decide +kernel) (Or.inr (fI_n4 _)) rfl ?_
      dsimp only [List.set]
      refine fx_li 2 69 (by decide +kernel) rfl ?_
      refine fx_cn (-1) 70 (by decide +kernel) (fun v69 c69 => ?_)
      refine fx_ine 75 73 (by decide +kernel) (by unfold fR; omega) (by unfold fR; omega) (fun h70 => ?_) (fun h70 => ?_)
      · exact sp_lline_2 (lwT_to (lwT_to h okw) (pOk_dg okw)) (by omega) h12 (by unfold fR; omega) (by unfold fR; omega) (num _ eK (by decide) (by decide) t).symm (fun f1 c1 g' p1 p2 => k1 f1 c1 _ _ g' p1 p2) k2
      · refine fx_ci (0) 74 (by decide +kernel) ?_
        refine fx_retb (by decide +kernel) (by first | exact Or.inl rfl | exact Or.inr rfl | omega) ?_
        exfalso; omega
    · refine fx_si 2 68 (by decide +kernel) (Or.inr (fI_n4 _)) rfl ?_
      dsimp only [List.set]
      refine fx_li 2 69 (by decide +kernel) rfl ?_
      refine fx_cn (-1) 70 (by decide +kernel) (fun v69 c69 => ?_)
      refine fx_ine 75 73 (by decide +kernel) (by unfold fR; omega) (by unfold fR; omega) (fun h70 => ?_) (fun h70 => ?_)
      · exfalso; omega
      · refine fx_ci (0) 74 (by decide +kernel) ?_
        refine fx_retb (by decide +kernel) (by first | exact Or.inl rfl | exact Or.inr rfl | omega) ?_
        exact k2 _ _ (nof _ eK (by decide) (by decide) t) (fu_eq _ _ _ _) ((lwT_to h okw).2.2.x (fLX.w fLX.rf))
  · refine fx_zeq 14 9 (by decide +kernel) (by unfold fR; omega) (fun _ => ?_) (fun hc => absurd hc (by decide))
    refine fx_la 0 15 (v := 274) (by decide +kernel) rfl (by decide +kernel) ?_
    refine fx_lds 133 17 (by decide +kernel) ?_
    refine fx_c2 78 21 20 5 [] (by decide +kernel) (by decide) (by decide) (by decide) rfl (by first | decide | omega) ?_
    refine sp_takesWordL [108, 101, 115, 115] (by decide +kernel) (by decide +kernel) hs (fun t2 => fK1 ?_) (fun t2 => fK1 ?_)
    · have eK : pKind T E f = 1 := (cif_f t1).trans (cif_t t2)
      refine fx_zeq 28 23 (by decide +kernel) (by unfold fR; omega) (fun hc => absurd hc (by decide)) (fun _ => ?_)
      refine fx_ci (1) 24 (by decide +kernel) ?_
      refine fx_si 1 25 (by decide +kernel) (Or.inr (f_n4p (v := 274) rfl (by decide))) rfl ?_
      dsimp only [List.set]
      refine fx_go 51 (by decide +kernel) ?_
      refine fx_li 1 52 (by decide +kernel) rfl ?_
      refine fx_ci (2) 53 (by decide +kernel) ?_
      refine fx_ine 60 56 (by decide +kernel) (by unfold fR; omega) (by unfold fR; omega) (fun _ => ?_) (fun hc => absurd hc (by decide))
      refine fx_la 0 61 (v := 274) (by decide +kernel) rfl (by decide +kernel) ?_
      refine fx_ci (0) 62 (by decide +kernel) ?_
      refine fx_ci (30) 64 (by decide +kernel) ?_
      refine fx_c3 93 21 67 1 [7, 7, 7] (by decide +kernel) (by decide) (by decide) (fI_n4 _) (fI_n4 _) rfl (by first | decide | omega) ?_
      have w1 := kk _ eK (by decide)
      have w2 := pDg_ge T E (pSk T E (pWe T E f))
      have w3 := pSk_ge T E (pDg T E (pSk T E (pWe T E f)))
      refine sp_takeNumberL (cSt_atL hs.1 okw) (by unfold fR; omega) (by unfold fR; omega) (fun t => fK1 ?_) (fun t vn hvn => fK1 ?_)
      have nb : 0 ≤ pNu T E (pSk T E (pWe T E f)) ∧ pNu T E (pSk T E (pWe T E f)) ≤ 30 := ⟨t.2.2.1, t.2.2.2⟩
      · refine fx_si 2 68 (by decide +kernel) (Or.inr (fI_n4 _)) rfl ?_
        dsimp only [List.set]
        refine fx_li 2 69 (by decide +kernel) rfl ?_
        refine fx_cn (-1) 70 (by decide +kernel) (fun v69 c69 => ?_)
        refine fx_ine 75 73 (by decide +kernel) (by unfold fR; omega) (by unfold fR; omega) (fun h70 => ?_) (fun h70 => ?_)
        · exact sp_lline_2 (lwT_to (lwT_to h okw) (pOk_dg okw)) (by omega) h12 (by unfold fR; omega) (by unfold fR; omega) (num _ eK (by decide) (by decide) t).symm (fun f1 c1 g' p1 p2 => k1 f1 c1 _ _ g' p1 p2) k2
        · refine fx_ci (0) 74 (by decide +kernel) ?_
          refine fx_retb (by decide +kernel) (by first | exact Or.inl rfl | exact Or.inr rfl | omega) ?_
          exfalso; omega
      · refine fx_si 2 68 (by decide +kernel) (Or.inr (fI_n4 _)) rfl ?_
        dsimp only [List.set]
        refine fx_li 2 69 (by decide +kernel) rfl ?_
        refine fx_cn (-1) 70 (by decide +kernel) (fun v69 c69 => ?_)
        refine fx_ine 75 73 (by decide +kernel) (by unfold fR; omega) (by unfold fR; omega) (fun h70 => ?_) (fun h70 => ?_)
        · exfalso; omega
        · refine fx_ci (0) 74 (by decide +kernel) ?_
          refine fx_retb (by decide +kernel) (by first | exact Or.inl rfl | exact Or.inr rfl | omega) ?_
          exact k2 _ _ (nof _ eK (by decide) (by decide) t) (fu_eq _ _ _ _) ((lwT_to h okw).2.2.x (fLX.w fLX.rf))
    · refine fx_zeq 28 23 (by decide +kernel) (by unfold fR; omega) (fun _ => ?_) (fun hc => absurd hc (by decide))
      refine fx_la 0 29 (v := 274) (by decide +kernel) rfl (by decide +kernel) ?_
      refine fx_lds 141 31 (by decide +kernel) ?_
      refine fx_c2 78 21 34 5 [] (by decide +kernel) (by decide) (by decide) (by decide) rfl (by first | decide | omega) ?_
      refine sp_takesWordL [111, 102, 102] (by decide +kernel) (by decide +kernel) hs (fun t3 => fK1 ?_) (fun t3 => fK1 ?_)
      · have eK : pKind T E f = 2 := (cif_f t1).trans ((cif_f t2).trans (cif_t t3))
        refine fx_zeq 42 37 (by decide +kernel) (by unfold fR; omega) (fun hc => absurd hc (by decide)) (fun _ => ?_)
        refine fx_ci (2) 38 (by decide +kernel) ?_
        refine fx_si 1 39 (by decide +kernel) (Or.inr (f_n4p (v := 274) rfl (by decide))) rfl ?_
        dsimp only [List.set]
        refine fx_go 51 (by decide +kernel) ?_
        refine fx_li 1 52 (by decide +kernel) rfl ?_
        refine fx_ci (2) 53 (by decide +kernel) ?_
        refine fx_ine 60 56 (by decide +kernel) (by unfold fR; omega) (by unfold fR; omega) (fun hc => absurd hc (by decide)) (fun _ => ?_)
        refine fx_ci (0) 57 (by decide +kernel) ?_
        refine fx_go 67 (by decide +kernel) ?_
        refine fx_si 2 68 (by decide +kernel) (Or.inr (fI_n4 _)) rfl ?_
        dsimp only [List.set]
        refine fx_li 2 69 (by decide +kernel) rfl ?_
        refine fx_cn (-1) 70 (by decide +kernel) (fun v69 c69 => ?_)
        refine fx_ine 75 73 (by decide +kernel) (by unfold fR; omega) (by unfold fR; omega) (fun h70 => ?_) (fun h70 => ?_)
        · have w1 := kk _ eK (by decide)
          exact sp_lline_2 (lwT_to h okw) (by omega) h12 (by unfold fR; omega) (by unfold fR; omega) (show pIf T E (pSk T E (pWe T E f)) c 2 0 = pLL T E f c by unfold pLL; rw [cif_f (by omega), cif_t eK]) (fun f1 c1 g' p1 p2 => k1 f1 c1 _ _ g' p1 p2) k2
        · refine fx_ci (0) 74 (by decide +kernel) ?_
          refine fx_retb (by decide +kernel) (by first | exact Or.inl rfl | exact Or.inr rfl | omega) ?_
          exfalso; omega
      · refine fx_zeq 42 37 (by decide +kernel) (by unfold fR; omega) (fun _ => ?_) (fun hc => absurd hc (by decide))
        refine fx_la 0 43 (v := 274) (by decide +kernel) rfl (by decide +kernel) ?_
        refine fx_la 0 44 (v := 274) (by decide +kernel) rfl (by decide +kernel) ?_
        refine fx_gi 274 34 2 47 (by decide +kernel) ?_
        try simp only [fu_app, fcy_app, Nat.reduceEqDiff, and_true, and_false, false_and, true_and, if_true, if_false, ite_true, ite_false, reduceIte, Int.reduceToNat, fx_simp0]
        rw [show g 34 2 = f from hs.2.1]
        refine fx_c2 92 21 50 0 [] (by decide +kernel) (by decide) (by decide) (fI_n4 _) rfl (by first | decide | omega) ?_
        refine sp_wrongAtL (by unfold fR; omega) (fK1 ?_)
        refine fx_retb (by decide +kernel) (by first | exact Or.inl rfl | exact Or.inr rfl | omega) ?_
        exact k2 f _ (by unfold pLL pKind; rw [cif_t (by rw [cif_f t1, cif_f t2, cif_f t3])]) (fu_eq _ _ _ _) (h.2.2.x (fLX.w fLX.rf))
end G5E
