/-! fx: the class reads the law: the text -/
section G5F
variable {W : ax_W} {r : Nat} {g g0 : Nat → Nat → Int} {Q : Nat → Nat → (Nat → Nat → Int) → Prop} {T : Int → Int} {E f : Int} {c : List Int} {ls : List (List Int)}
theorem sp_lrls (k1 : ∀ c1 l1 R', R' = (Sum.inr (c1, l1) : Int ⊕ (List Int × List (List Int))) → ∀ f1 g', lwT T E g0 g' f1 c1 l1 → (c1.length : Int) ≤ E → l1.length ≤ 12 → pLs T E 12 (pSk T E 0) [] [] = R' → Q 1 (fI 1) g') (k2 : ∀ q g', pLs T E 12 (pSk T E 0) [] [] = Sum.inl q → g' 34 1 = q → fLY g0 g' → Q 1 (fI 0) g') : ∀ (left n : Nat) (f : Int) (c : List Int) (ls : List (List Int)) (g : Nat → Nat → Int), n + left = 12 → ls.length = n → lwT T E g0 g f c ls → (c.length : Int) ≤ f → pLs T E left f c ls = pLs T E 12 (pSk T E 0) [] [] → fx W r 24 75 11 [274, fI 12, fI (n : Int)] [] g Q
  | left, n, f, c, ls, g, hn, hls, h, hl, eR => by
    have hs := h.1.1
    have ok := hs.2.2.2
    have ok1 := ok.1
    have ok2 := ok.2.1
    have hE := hs.1.2.2.1
    refine fx_li 2 12 (by decide +kernel) rfl ?_
    refine fx_li 1 13 (by decide +kernel) rfl ?_
    refine fx_ige 58 16 (by decide +kernel) (by unfold fR; omega) (by unfold fR; omega) (fun h13 => ?_) (fun h13 => ?_)
    · refine fx_la 0 59 (v := 274) (by decide +kernel) rfl (by decide +kernel) ?_
      refine fx_la 0 60 (v := 274) (by decide +kernel) rfl (by decide +kernel) ?_
      refine fx_gi 274 34 2 63 (by decide +kernel) ?_
      rw [show g 34 2 = f from hs.2.1]
      refine fx_c2 92 21 66 0 [] (by decide +kernel) (by decide) (by decide) (fI_n4 _) rfl (by first | decide | omega) ?_
      refine sp_wrongAtL (by unfold fR; omega) (fK1 ?_)
      refine fx_retb (by decide +kernel) (by first | exact Or.inl rfl | exact Or.inr rfl | omega) ?_
      have e : left = 0 := by omega
      subst e
      exact k2 f _ eR.symm (fu_eq _ _ _ _) (h.2.2.x (fLX.w fLX.rf))
    · refine fx_la 0 17 (v := 274) (by decide +kernel) rfl (by decide +kernel) ?_
      refine fx_c1 102 40 20 23 [7, 7] (by decide +kernel) (by decide) rfl (by first | decide | omega) ?_
      have e : ∃ l, left = l + 1 := ⟨left - 1, by omega⟩
      obtain ⟨l, rfl⟩ := e
      refine sp_lline h hl (by omega) (fun f1 c1 kd am g1 p1 h1 => fK1 ?_) (fun q g1 p1 p2 p3 => fK1 ?_)
      obtain ⟨o1, o2, o3, -⟩ := pLL_ok p1 ok hl
      have o4 := o1.2.1
      have eR1 : (if f1 = E then Sum.inr (c1, ls ++ [[kd, am, (c.length : Int), (c1.length : Int)]]) else if T f1 = 59 then pLs T E l (pSk T E (f1 + 1)) c1 (ls ++ [[kd, am, (c.length : Int), (c1.length : Int)]]) else Sum.inl f1) = pLs T E 12 (pSk T E 0) [] [] := by
        rw [← eR]
        show _ = bS (pLL T E f c) _
        rw [p1, bS_r]
      have ll : (ls ++ [[kd, am, (c.length : Int), (c1.length : Int)]]).length = n + 1 := by rw [List.length_append, hls]; rfl
      · refine fx_zne 25 23 (by decide +kernel) (by unfold fR; omega) (fun _ => ?_) (fun hc => absurd hc (by decide))
        refine fx_la 0 26 (v := 274) (by decide +kernel) rfl (by decide +kernel) ?_
        refine fx_c1 76 21 29 0 [] (by decide +kernel) (by decide) rfl (by first | decide | omega) ?_
        refine sp_isOverL h1.1.1 (fun b => fK1 ?_) (fun b => fK1 ?_)
        · refine fx_zeq 34 32 (by decide +kernel) (by unfold fR; omega) (fun hc => absurd hc (by decide)) (fun _ => ?_)
          refine fx_ci (1) 33 (by decide +kernel) ?_
          refine fx_retb (by decide +kernel) (by first | exact Or.inl rfl | exact Or.inr rfl | omega) ?_
          rw [if_pos b] at eR1
          exact k1 c1 _ _ rfl f1 g1 h1 (by omega) (by omega) eR1.symm
        · refine fx_zeq 34 32 (by decide +kernel) (by unfold fR; omega) (fun _ => ?_) (fun hc => absurd hc (by decide))
          refine fx_la 0 35 (v := 274) (by decide +kernel) rfl (by decide +kernel) ?_
          refine fx_ci (59) 37 (by decide +kernel) ?_
          refine fx_c2 106 21 40 1 [] (by decide +kernel) (by decide) (by decide) (fI_n4 _) rfl (by first | decide | omega) ?_
          refine sp_takesSignL h1.1.1 (by unfold fR; omega) (by omega) (by omega) (fun b2 => fK1 ?_) (fun b2 => fK1 ?_)
          · refine fx_zne 52 43 (by decide +kernel) (by unfold fR; omega) (fun _ => ?_) (fun hc => absurd hc (by decide))
            refine fx_inc 2 55 (1) (by decide +kernel) rfl (Or.inr (fI_n4 _)) rfl ?_
            dsimp only [List.set]
            refine fx_go 11 (by decide +kernel) ?_
            rw [if_neg (by omega), if_pos b2.2] at eR1
            have g0' := pSk_ge T E (f1 + 1)
            have ok5 := pOk_s1 o1 b2
            exact sp_lrls k1 k2 l (n + 1) (pSk T E (f1 + 1)) c1 _ _ (by omega) ll (lwT_to h1 ok5) (by omega) eR1
          · refine fx_zne 52 43 (by decide +kernel) (by unfold fR; omega) (fun hc => absurd hc (by decide)) (fun _ => ?_)
            refine fx_la 0 44 (v := 274) (by decide +kernel) rfl (by decide +kernel) ?_
            refine fx_la 0 45 (v := 274) (by decide +kernel) rfl (by decide +kernel) ?_
            refine fx_gi 274 34 2 48 (by decide +kernel) ?_
            try simp only [fu_app, fcy_app, Nat.reduceEqDiff, and_true, and_false, false_and, true_and, if_true, if_false, ite_true, ite_false, reduceIte, Int.reduceToNat, fx_simp0]
            rw [show g1 34 2 = f1 from h1.1.1.2.1]
            refine fx_c2 92 21 51 0 [] (by decide +kernel) (by decide) (by decide) (fI_n4 _) rfl (by first | decide | omega) ?_
            refine sp_wrongAtL (by unfold fR; omega) (fK1 ?_)
            refine fx_retb (by decide +kernel) (by first | exact Or.inl rfl | exact Or.inr rfl | omega) ?_
            rw [if_neg (by omega), if_neg (fun t => b2 ⟨b, t⟩)] at eR1
            exact k2 f1 _ eR1.symm (fu_eq _ _ _ _) (h1.2.2.x (fLX.w fLX.rf))
      · refine fx_zne 25 23 (by decide +kernel) (by unfold fR; omega) (fun hc => absurd hc (by decide)) (fun _ => ?_)
        refine fx_ci (0) 24 (by decide +kernel) ?_
        refine fx_retb (by decide +kernel) (by first | exact Or.inl rfl | exact Or.inr rfl | omega) ?_
        exact k2 q g1 (by rw [← eR]; show bS (pLL T E f c) _ = _; rw [p1, bS_l]) p2 p3
theorem sp_lreadLines (h : lwT T E g0 g (pSk T E 0) [] []) (hp : pSk T E 0 ≤ E) (k1 : ∀ c1 l1, pLaw T E = Sum.inr (c1, l1) → ∀ f1 g', lwT T E g0 g' f1 c1 l1 → (c1.length : Int) ≤ E → l1.length ≤ 12 → Q 1 (fI 1) g') (k2 : ∀ q, pLaw T E = Sum.inl q → ∀ g', g' 34 1 = q → fLY g0 g' → Q 1 (fI 0) g') : fx W r 24 75 0 [274, fI 12, 7] [] g Q := by
  have hE := h.1.1.1.2.1
  unfold pLaw at k1 k2
  refine fx_la 0 1 (v := 274) (by decide +kernel) rfl (by decide +kernel) ?_
  refine fx_c1 76 21 4 0 [] (by decide +kernel) (by decide) rfl (by first | decide | omega) ?_
  refine sp_isOverL h.1.1 (fun b => fK1 ?_) (fun b => fK1 ?_)
  · refine fx_zeq 9 7 (by decide +kernel) (by unfold fR; omega) (fun hc => absurd hc (by decide)) (fun _ => ?_)
    refine fx_ci (1) 8 (by decide +kernel) ?_
    refine fx_retb (by decide +kernel) (by first | exact Or.inl rfl | exact Or.inr rfl | omega) ?_
    rw [if_pos b] at k1
    exact k1 [] [] rfl _ g h (by show (0 : Int) ≤ E; exact hE) (by decide)
  · refine fx_zeq 9 7 (by decide +kernel) (by unfold fR; omega) (fun _ => ?_) (fun hc => absurd hc (by decide))
    refine fx_ci (0) 10 (by decide +kernel) ?_
    refine fx_si 2 11 (by decide +kernel) (Or.inr (fI_n4 _)) rfl ?_
    dsimp only [List.set]
    rw [if_neg (by omega)] at k1 k2
    exact sp_lrls (fun c1 l1 R' p1 f1 g' p2 p3 p4 p5 => k1 c1 l1 (p5.trans p1) f1 g' p2 p3 p4) (fun q g' p1 p2 p3 => k2 q p1 g' p2 p3) 12 0 (pSk T E 0) [] [] g rfl rfl h (by have := pSk_ge T E 0; show (0 : Int) ≤ _; exact this) rfl
/-- the tape is used up, the text begins -/
def fUseL (T : Int → Int) (E : Int) (g : Nat → Nat → Int) : Nat → Nat → Int := cAtL T E (fu (fu (fu (fu g 1 1 0) 34 4 (g 1 1)) 34 1 (-1)) 34 3 0) (pSk T E 0)
theorem sp_useTapeL (hT : ∀ k : Int, 0 ≤ k → k < 400 → g 2 k.toNat = T k ∧ 0 ≤ T k ∧ T k ≤ 255) (hE : g 1 1 = E) (hE0 : 0 ≤ E) (hE1 : E ≤ 400) (kq : Q 0 0 (fUseL T E g)) : fx W r 1 72 0 [274] [] g Q := by
  refine fx_la 0 1 (v := 274) (by decide +kernel) rfl (by decide +kernel) ?_
  refine fx_la 0 2 (v := 274) (by decide +kernel) rfl (by decide +kernel) ?_
  refine fx_gp 274 34 0 10 5 (by decide +kernel) ?_
  refine fx_c1 73 21 8 0 [7] (by decide +kernel) (by decide) rfl (by first | decide | omega) ?_
  refine sp_useUp (fK1 ?_)
  refine fx_pi 274 34 4 11 (by decide +kernel) (by unfold fR; omega) ?_
  refine fx_la 0 12 (v := 274) (by decide +kernel) rfl (by decide +kernel) ?_
  refine fx_ci (-1) 13 (by decide +kernel) ?_
  refine fx_pi 274 34 1 16 (by decide +kernel) (by unfold fR; omega) ?_
  refine fx_la 0 17 (v := 274) (by decide +kernel) rfl (by decide +kernel) ?_
  refine fx_ci (0) 18 (by decide +kernel) ?_
  refine fx_pi 274 34 3 21 (by decide +kernel) (by unfold fR; omega) ?_
  refine fx_la 0 22 (v := 274) (by decide +kernel) rfl (by decide +kernel) ?_
  refine fx_c1 74 21 25 0 [7] (by decide +kernel) (by decide) rfl (by first | decide | omega) ?_
  refine sp_advanceL (T := T) (E := E) ⟨?_, hE0, hE1, fun k h0 h1 => ?_⟩ (by rw [fu_eq]; omega) (by rw [fu_eq]; exact hE0) (fK0 ?_)
  · rw [fu_nj (by decide), fu_nj (by decide), fu_eq]; exact hE
  · rw [fu_nc (by decide), fu_nc (by decide), fu_nc (by decide), fu_nc (by decide)]
    exact hT k h0 h1
  rw [fu_eq]
  refine fx_vret (by decide +kernel) ?_
  exact kq
theorem fUse_stL (hT : ∀ k : Int, 0 ≤ k → k < 400 → g 2 k.toNat = T k ∧ 0 ≤ T k ∧ T k ≤ 255) (hE : g 1 1 = E) (hE0 : 0 ≤ E) (hE1 : E ≤ 400) : cStL T E (fUseL T E g) (pSk T E 0) := by
  refine cSt_atL ⟨?_, hE0, hE1, fun k h0 h1 => ?_⟩ (pOk_sk (Int.le_refl 0) hE0)
  · rw [fu_nj (by decide), fu_nj (by decide), fu_eq]; exact hE
  · rw [fu_nc (by decide), fu_nc (by decide), fu_nc (by decide), fu_nc (by decide)]
    exact hT k h0 h1
theorem fUse_neL {c j : Nat} (h1 : c ≠ 34) (h2 : ¬ (c = 1 ∧ j = 1)) : fUseL T E g c j = g c j := by
  unfold fUseL cAtL
  rw [fu_nc h1, fu_nc h1, fu_nc h1, fu_nc h1, fu_nc h1, fu_ne h2]
theorem fUse_wL : fUseL T E g 34 1 = -1 := by
  unfold fUseL cAtL
  rw [fu_nj (by decide), fu_nj (by decide), fu_nj (by decide), fu_eq]
theorem fUse_lL : fUseL T E g 1 1 = 0 := by
  unfold fUseL cAtL
  rw [fu_nc (by decide), fu_nc (by decide), fu_nc (by decide), fu_nc (by decide), fu_nc (by decide), fu_eq]

def fSA (T : Int → Int) (E : Int) (g : Nat → Nat → Int) : Nat → Nat → Int := fu (fu (fUseL T E g) 35 7 0) 35 8 0
theorem sp_lclear (kq : Q 0 0 (fu (fu g 35 7 0) 35 8 0)) : fx W r 0 120 0 [282] [] g Q := by
  refine fx_la 0 1 (v := 282) (by decide +kernel) rfl (by decide +kernel) ?_
  refine fx_ci (0) 2 (by decide +kernel) ?_
  refine fx_pi 282 35 7 5 (by decide +kernel) (by unfold fR; omega) ?_
  refine fx_la 0 6 (v := 282) (by decide +kernel) rfl (by decide +kernel) ?_
  refine fx_ci (0) 7 (by decide +kernel) ?_
  refine fx_pi 282 35 8 10 (by decide +kernel) (by unfold fR; omega) ?_
  refine fx_vret (by decide +kernel) ?_
  exact kq
theorem sp_startAnew (hT : ∀ k : Int, 0 ≤ k → k < 400 → g 2 k.toNat = T k ∧ 0 ≤ T k ∧ T k ≤ 255) (hE : g 1 1 = E) (hE0 : 0 ≤ E) (hE1 : E ≤ 400) (kq : Q 0 0 (fSA T E g)) : fx W r 2 119 0 [274] [] g Q := by
  refine fx_la 0 1 (v := 274) (by decide +kernel) rfl (by decide +kernel) ?_
  refine fx_c1 72 21 4 1 [] (by decide +kernel) (by decide) rfl (by first | decide | omega) ?_
  refine sp_useTapeL hT hE hE0 hE1 (fK0 ?_)
  refine fx_la 0 5 (v := 274) (by decide +kernel) rfl (by decide +kernel) ?_
  refine fx_gp 274 34 5 282 8 (by decide +kernel) ?_
  refine fx_c1 120 21 11 0 [] (by decide +kernel) (by decide) rfl (by first | decide | omega) ?_
  refine sp_lclear (fK0 ?_)
  refine fx_vret (by decide +kernel) ?_
  exact kq
theorem fSA_x {c j : Nat} (h1 : c ≠ 34) (h2 : ¬ (c = 1 ∧ j = 1)) (h3 : c ≠ 35) : fSA T E g c j = g c j := by
  unfold fSA
  rw [fu_nc h3, fu_nc h3, fUse_neL h1 h2]
theorem fSA_T (hT : ∀ k : Int, 0 ≤ k → k < 400 → g 2 k.toNat = T k ∧ 0 ≤ T k ∧ T k ≤ 255) (hE : g 1 1 = E) (hE0 : 0 ≤ E) (hE1 : E ≤ 400) : lwT T E (fSA T E g) (fSA T E g) (pSk T E 0) [] [] := by
  obtain ⟨a1, a2, a3, a4⟩ := fUse_stL (g := g) hT hE hE0 hE1
  have x : ∀ c j, c ≠ 35 → fSA T E g c j = fUseL T E g c j := fun c j h => by
    unfold fSA
    rw [fu_nc h, fu_nc h]
  refine ⟨⟨⟨CT_eqL a1 (x _ _ (by decide)) (fun j => x _ _ (by decide)), ?_, ?_, a4⟩, ?_, fun j hj => absurd hj (Nat.not_lt_zero _), fLX.rf⟩, ⟨?_, fun i hi => absurd hi (Nat.not_lt_zero _)⟩, fLY.rf⟩
  · rw [x _ _ (by decide)]; exact a2
  · rw [x _ _ (by decide)]; exact a3
  · unfold fSA; rw [fu_eq]; rfl
  · unfold fSA; rw [fu_nj (by decide), fu_eq]; rfl
/-- what the law's text changes, where it is wrong, and where it is right -/
def frlW (g g' : Nat → Nat → Int) : Prop := ∀ c j, ¬ (34 ≤ c ∧ c ≤ 40) → ¬ (c = 1 ∧ j = 1) → ¬ (c = 0 ∧ j = 18) → g' c j = g c j
def frlR (g g' : Nat → Nat → Int) : Prop := ∀ c j, ¬ (8 ≤ c ∧ c ≤ 13) → ¬ (34 ≤ c ∧ c ≤ 40) → ¬ (c = 1 ∧ j = 1) → ¬ (c = 0 ∧ (j = 18 ∨ j = 16)) → g' c j = g c j
theorem frl_Y {g' : Nat → Nat → Int} (h : fLY (fSA T E g) g') {c j : Nat} (h1 : ¬ (34 ≤ c ∧ c ≤ 40)) (h2 : ¬ (c = 1 ∧ j = 1)) : g' c j = g c j := by
  rw [h c j (by omega) (by omega) (by omega), fSA_x (by omega) h2 (by omega)]
def cpLw (g : Nat → Nat → Int) (a b : Nat) : Nat → Nat → Int := fu (fu (fcy (fcy (fcy (fcy (fcy g (a + 1) (b + 1)) (a + 2) (b + 2)) (a + 3) (b + 3)) (a + 4) (b + 4)) (a + 5) (b + 5)) b 7 (g a 7)) b 8 (g a 8)
theorem sp_cpL (kq : Q 0 0 (cpLw g 35 8)) : fx W r 0 66 0 [66, 282] [] g Q := by
  refine fx_rg (fun hg => ?_)
  have v7 := hg 35 7 (by decide) (by decide +kernel) (by decide +kernel)
  have v8 := hg 35 8 (by decide) (by decide +kernel) (by decide +kernel)
  unfold fR at v7 v8
  refine fx_la 1 1 (v := 282) (by decide +kernel) rfl (by decide +kernel) ?_
  refine fx_gp 282 35 0 290 4 (by decide +kernel) ?_
  refine fx_ci (0) 5 (by decide +kernel) ?_
  refine fx_la 0 6 (v := 66) (by decide +kernel) rfl (by decide +kernel) ?_
  refine fx_gp 66 8 0 74 9 (by decide +kernel) ?_
  refine fx_ci (0) 10 (by decide +kernel) ?_
  refine fx_ci (12) 12 (by decide +kernel) ?_
  refine fx_cpy 290 36 74 9 12 15 (by decide +kernel) rfl ?_
  refine fx_la 1 16 (v := 282) (by decide +kernel) rfl (by decide +kernel) ?_
  refine fx_gp 282 35 1 298 19 (by decide +kernel) ?_
  refine fx_ci (0) 20 (by decide +kernel) ?_
  refine fx_la 0 21 (v := 66) (by decide +kernel) rfl (by decide +kernel) ?_
  refine fx_gp 66 8 1 82 24 (by decide +kernel) ?_
  refine fx_ci (0) 25 (by decide +kernel) ?_
  refine fx_ci (12) 27 (by decide +kernel) ?_
  refine fx_cpy 298 37 82 10 12 30 (by decide +kernel) rfl ?_
  refine fx_la 1 31 (v := 282) (by decide +kernel) rfl (by decide +kernel) ?_
  refine fx_gp 282 35 2 306 34 (by decide +kernel) ?_
  refine fx_ci (0) 35 (by decide +kernel) ?_
  refine fx_la 0 36 (v := 66) (by decide +kernel) rfl (by decide +kernel) ?_
  refine fx_gp 66 8 2 90 39 (by decide +kernel) ?_
  refine fx_ci (0) 40 (by decide +kernel) ?_
  refine fx_ci (12) 42 (by decide +kernel) ?_
  refine fx_cpy 306 38 90 11 12 45 (by decide +kernel) rfl ?_
  refine fx_la 1 46 (v := 282) (by decide +kernel) rfl (by decide +kernel) ?_
  refine fx_gp 282 35 3 314 49 (by decide +kernel) ?_
  refine fx_ci (0) 50 (by decide +kernel) ?_
  refine fx_la 0 51 (v := 66) (by decide +kernel) rfl (by decide +kernel) ?_
  refine fx_gp 66 8 3 98 54 (by decide +kernel) ?_
  refine fx_ci (0) 55 (by decide +kernel) ?_
  refine fx_ci (12) 57 (by decide +kernel) ?_
  refine fx_cpy 314 39 98 12 12 60 (by decide +kernel) rfl ?_
  refine fx_la 1 61 (v := 282) (by decide +kernel) rfl (by decide +kernel) ?_
  refine fx_gp 282 35 4 322 64 (by decide +kernel) ?_
  refine fx_ci (0) 65 (by decide +kernel) ?_
  refine fx_la 0 66 (v := 66) (by decide +kernel) rfl (by decide +kernel) ?_
  refine fx_gp 66 8 4 106 69 (by decide +kernel) ?_
  refine fx_ci (0) 70 (by decide +kernel) ?_
  refine fx_ci (400) 73 (by decide +kernel) ?_
  refine fx_cpy 322 40 106 13 400 76 (by decide +kernel) rfl ?_
  refine fx_la 0 77 (v := 66) (by decide +kernel) rfl (by decide +kernel) ?_
  refine fx_la 1 78 (v := 282) (by decide +kernel) rfl (by decide +kernel) ?_
  refine fx_gi 282 35 7 81 (by decide +kernel) ?_
  try simp only [fu_app, fcy_app, Nat.reduceEqDiff, and_true, and_false, false_and, true_and, if_true, if_false, ite_true, ite_false, reduceIte, Int.reduceToNat, fx_simp0]
  refine fx_pi 66 8 7 84 (by decide +kernel) (by unfold fR; omega) ?_
  refine fx_la 0 85 (v := 66) (by decide +kernel) rfl (by decide +kernel) ?_
  refine fx_la 1 86 (v := 282) (by decide +kernel) rfl (by decide +kernel) ?_
  refine fx_gi 282 35 8 89 (by decide +kernel) ?_
  try simp only [fu_app, fcy_app, Nat.reduceEqDiff, and_true, and_false, false_and, true_and, if_true, if_false, ite_true, ite_false, reduceIte, Int.reduceToNat, fx_simp0]
  refine fx_pi 66 8 8 92 (by decide +kernel) (by unfold fR; omega) ?_
  refine fx_vret (by decide +kernel) ?_
  exact kq
theorem sp_claw (hr : 1 ≤ r) (hT : ∀ k : Int, 0 ≤ k → k < 400 → g 2 k.toNat = T k ∧ 0 ≤ T k ∧ T k ≤ 255) (hE : g 1 1 = E) (hE0 : 0 ≤ E) (hE1 : E ≤ 400)
    (k1 : ∀ q, pLaw T E = Sum.inl q → ∀ g', frlW g g' → g' 1 1 = 0 → g' 0 18 = q → Q 2 0 g')
    (k2 : ∀ c1 l1, pLaw T E = Sum.inr (c1, l1) → ∀ g1 f1 g', lwT T E (fSA T E g) g1 f1 c1 l1 → (c1.length : Int) ≤ E → l1.length ≤ 12 → frlR g g' → g' 1 1 = 0 → g' 0 16 = 0 → g' = fu (cpLw (fu g1 0 18 (g1 34 1)) 35 8) 0 16 0 → Q 1 (fI (l1.length : Int)) g') : fx W r 25 118 0 [2, 7] [] g Q := by
  refine fx_la 0 1 (v := 2) (by decide +kernel) rfl (by decide +kernel) ?_
  refine fx_gp 2 0 6 274 4 (by decide +kernel) ?_
  refine fx_c1 119 21 7 2 [] (by decide +kernel) (by decide) rfl (by first | decide | omega) ?_
  refine sp_startAnew hT hE hE0 hE1 (fK0 ?_)
  refine fx_la 0 8 (v := 2) (by decide +kernel) rfl (by decide +kernel) ?_
  refine fx_gp 2 0 6 274 11 (by decide +kernel) ?_
  refine fx_ci (12) 13 (by decide +kernel) ?_
  refine fx_c2 75 21 16 24 [7] (by decide +kernel) (by decide) (by decide) (fI_n4 _) rfl (by first | decide | omega) ?_
  have hp := pSk_le (T := T) hE0
  refine sp_lreadLines (fSA_T hT hE hE0 hE1) hp (fun c1 l1 p1 f1 g1 p2 p3 p4 => fK1 ?_) (fun q p1 g1 p2 p3 => fK1 ?_)
  · refine fx_si 1 17 (by decide +kernel) (Or.inr (f_n4p (v := 2) rfl (by decide))) rfl ?_
    dsimp only [List.set]
    refine fx_la 0 18 (v := 2) (by decide +kernel) rfl (by decide +kernel) ?_
    refine fx_la 0 19 (v := 2) (by decide +kernel) rfl (by decide +kernel) ?_
    refine fx_gp 2 0 6 274 22 (by decide +kernel) ?_
    refine fx_gi 274 34 1 25 (by decide +kernel) ?_
    try simp only [fu_app, fcy_app, Nat.reduceEqDiff, and_true, and_false, false_and, true_and, if_true, if_false, ite_true, ite_false, reduceIte, Int.reduceToNat, fx_simp0]
    refine fx_rg (fun hg => ?_)
    have rwr := hg 34 1 (by decide) (by decide +kernel) (by decide +kernel)
    unfold fR at rwr
    refine fx_pi 2 0 18 28 (by decide +kernel) (by unfold fR; omega) ?_
    refine fx_li 1 29 (by decide +kernel) rfl ?_
    refine fx_zne 42 32 (by decide +kernel) (by unfold fR; omega) (fun _ => ?_) (fun hc => absurd hc (by decide))
    refine fx_la 0 43 (v := 2) (by decide +kernel) rfl (by decide +kernel) ?_
    refine fx_gp 2 0 2 66 46 (by decide +kernel) ?_
    refine fx_la 0 47 (v := 2) (by decide +kernel) rfl (by decide +kernel) ?_
    refine fx_gp 2 0 6 274 50 (by decide +kernel) ?_
    refine fx_gp 274 34 5 282 53 (by decide +kernel) ?_
    refine fx_c2 66 21 56 0 [] (by decide +kernel) (by decide) (by decide) (by decide) rfl (by first | decide | omega) ?_
    refine sp_cpL (fK0 ?_)
    refine fx_la 0 57 (v := 2) (by decide +kernel) rfl (by decide +kernel) ?_
    refine fx_ci (0) 58 (by decide +kernel) ?_
    refine fx_pi 2 0 16 61 (by decide +kernel) (by unfold fR; omega) ?_
    refine fx_la 0 62 (v := 2) (by decide +kernel) rfl (by decide +kernel) ?_
    refine fx_gp 2 0 2 66 65 (by decide +kernel) ?_
    refine fx_gi 66 8 7 68 (by decide +kernel) ?_
    try simp only [fu_app, fcy_app, Nat.reduceEqDiff, and_true, and_false, false_and, true_and, if_true, if_false, ite_true, ite_false, reduceIte, Int.reduceToNat, fx_simp0]
    refine fx_ret (by decide +kernel) ?_
    have tl : g1 1 1 = 0 := by
      rw [p2.2.2 _ _ (by decide) (by decide) (by decide)]
      unfold fSA
      rw [fu_nc (by decide), fu_nc (by decide), fUse_lL]
    have lv : (fu (cpLw (fu g1 0 18 (g1 34 1)) 35 8) 0 16 0) 8 7 = (l1.length : Int) := by
      rw [fu_nc (by decide)]
      unfold cpLw
      rw [fu_nj (by decide), fu_eq, fu_nc (by decide)]
      exact p2.2.1.1
    have cpx : ∀ c j (g : Nat → Nat → Int), ¬ (8 ≤ c ∧ c ≤ 13) → cpLw g 35 8 c j = g c j := fun c j g h => by
      unfold cpLw
      rw [fu_nc (by omega), fu_nc (by omega), fcy_app, if_neg (by omega), fcy_app, if_neg (by omega), fcy_app, if_neg (by omega), fcy_app, if_neg (by omega), fcy_app, if_neg (by omega)]
    have kk := k2 c1 l1 p1 g1 f1 _ p2 p3 p4 (fun c j a b d e => by rw [fu_ne (fun t => e ⟨t.1, Or.inr t.2⟩), cpx _ _ _ a, fu_ne (fun t => e ⟨t.1, Or.inl t.2⟩)]; exact frl_Y p2.2.2 b d) (by rw [fu_nc (by decide), cpx _ _ _ (by decide), fu_nc (by decide)]; exact tl) (fu_eq _ _ _ _) rfl
    rw [← lv] at kk
    exact kk
  · refine fx_si 1 17 (by decide +kernel) (Or.inr (f_n4p (v := 2) rfl (by decide))) rfl ?_
    dsimp only [List.set]
    refine fx_la 0 18 (v := 2) (by decide +kernel) rfl (by decide +kernel) ?_
    refine fx_la 0 19 (v := 2) (by decide +kernel) rfl (by decide +kernel) ?_
    refine fx_gp 2 0 6 274 22 (by decide +kernel) ?_
    refine fx_gi 274 34 1 25 (by decide +kernel) ?_
    try simp only [fu_app, fcy_app, Nat.reduceEqDiff, and_true, and_false, false_and, true_and, if_true, if_false, ite_true, ite_false, reduceIte, Int.reduceToNat, fx_simp0]
    refine fx_rg (fun hg => ?_)
    have rwr := hg 34 1 (by decide) (by decide +kernel) (by decide +kernel)
    unfold fR at rwr
    refine fx_pi 2 0 18 28 (by decide +kernel) (by unfold fR; omega) ?_
    refine fx_li 1 29 (by decide +kernel) rfl ?_
    refine fx_zne 42 32 (by decide +kernel) (by unfold fR; omega) (fun hc => absurd hc (by decide)) (fun _ => ?_)
    refine fx_throw 0 (by decide +kernel) rfl (by omega) ?_
    have tl : g1 1 1 = 0 := by
      rw [p3 _ _ (by decide) (by decide) (by decide)]
      unfold fSA
      rw [fu_nc (by decide), fu_nc (by decide), fUse_lL]
    refine k1 q p1 _ (fun c j a b d => ?_) ?_ ?_
    · rw [fu_ne d]
      exact frl_Y p3 a b
    · rw [fu_nc (by decide)]; exact tl
    · rw [fu_eq]; exact p2
end G5F
