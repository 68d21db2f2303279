/-! fx: a line of the house as the reference reads it -/
noncomputable def pSet (T : Int → Int) (E x lo hi f : Int) : Int ⊕ (Int × List Int) := cif (pN T E lo hi f) (Sum.inr (pSk T E (pDg T E f), [3, x, pNu T E f])) (Sum.inl f)
noncomputable def pLine (T : Int → Int) (E pp dd f : Int) : Int ⊕ (Int × List Int) :=
  cif (pWd T E [112, 101, 114, 115, 111, 110] f) (if pp = 8 then Sum.inl f else pPerson T E (pSk T E (pWe T E f)))
  (cif (pWd T E [100, 105, 115, 104] f) (if dd = 6 then Sum.inl f else pDish T E (pSk T E (pWe T E f)))
  (cif (pWd T E [114, 111, 97, 100] f) (bS (pTwo T E 7 (pSk T E (pWe T E f))) (fun a => Sum.inr (a.1, [2, a.2.1, a.2.2])))
  (cif (pWd T E [113, 117, 111, 116, 97] f) (pSet T E 5 0 160 (pSk T E (pWe T E f)))
  (cif (pWd T E [119, 97, 108, 107] f) (pSet T E 6 0 100 (pSk T E (pWe T E f)))
  (cif (pWd T E [108, 105, 109, 105, 116] f) (pSet T E 7 1 99 (pSk T E (pWe T E f)))
  (cif (pWd T E [105, 114, 111, 110] f) (pSet T E 8 0 999 (pSk T E (pWe T E f)))
  (cif (pWd T E [110, 105, 103, 104, 116] f) (pSet T E 9 0 999 (pSk T E (pWe T E f)))
  (cif (pWd T E [112, 114, 111, 109, 105, 115, 101] f) (bS (pTwo T E (pp - 1) (pSk T E (pWe T E f))) (fun a => Sum.inr (a.1, [4, a.2.1, a.2.2])))
  (Sum.inl f)))))))))
/-- what a line does to the reference's row -/
noncomputable def apL (T : Int → Int) (u : List Int) (g : Nat → Nat → Int) : Nat → Nat → Int :=
  if u.getD 0 0 = 0 then apP g (u.getD 1 0) (u.getD 2 0) (u.getD 3 0) (u.getD 4 0) else if u.getD 0 0 = 1 then apD T (u.getD 1 0) g else if u.getD 0 0 = 2 then apR (u.getD 1 0) (u.getD 2 0) g else if u.getD 0 0 = 3 then fu g 149 (u.getD 1 0).toNat (u.getD 2 0) else apV (u.getD 1 0) (u.getD 2 0) g
theorem apL_0 (T : Int → Int) (g : Nat → Nat → Int) (w pl v l : Int) : apL T [0, w, pl, v, l] g = apP g w pl v l := by unfold apL; simp
theorem apL_1 (T : Int → Int) (g : Nat → Nat → Int) (f : Int) : apL T [1, f] g = apD T f g := by unfold apL; simp
theorem apL_2 (T : Int → Int) (g : Nat → Nat → Int) (x y : Int) : apL T [2, x, y] g = apR x y g := by unfold apL; simp
theorem apL_3 (T : Int → Int) (g : Nat → Nat → Int) (x y : Int) : apL T [3, x, y] g = fu g 149 x.toNat y := by unfold apL; simp
theorem apL_4 (T : Int → Int) (g : Nat → Nat → Int) (x y : Int) : apL T [4, x, y] g = apV x y g := by unfold apL; simp
section FXO
variable {W : ax_W} {r : Nat} {g : Nat → Nat → Int} {Q : Nat → Nat → (Nat → Nat → Int) → Prop} {T : Int → Int} {E : Int}
theorem sp_houseLine {f : Int} (hb : g 148 9 = -1) (h : RT T E g) (hf : g 148 12 = -1) (h0 : 0 ≤ g 148 11) (h4 : g 148 11 ≤ E) (hsk : pSk T E (g 148 11) = f) (hp0 : 0 ≤ g 149 3) (hp1 : g 149 3 ≤ 8) (hd0 : 0 ≤ g 149 4) (hd1 : g 149 4 ≤ 6)
    (kq : ∀ f' u, pLine T E (g 149 3) (g 149 4) f = Sum.inr (f', u) → ∀ a, 0 ≤ a → a ≤ E → pSk T E a = f' → Q 0 0 (apL T u (fu g 148 11 a)))
    (kf : ∀ q, pLine T E (g 149 3) (g 149 4) f = Sum.inl q → ∀ a, 0 ≤ a → a ≤ E → Q 0 0 (fu (fu g 148 11 a) 148 12 q)) : fx W r 7 285 0 [1186, 7] [] g Q := by
  have aE := h.2.1
  have a3 := h.2.2.1
  have f0 := pSk_ge T E (g 148 11)
  have f1 := pSk_le (T := T) h4
  have f2 : 0 ≤ f ∧ f ≤ E ∧ pSk T E f = f := by subst hsk; exact ⟨by omega, f1, pSk_id h4⟩
  obtain ⟨f2, f3, f4⟩ := f2
  have w0 := pWe_ge T E f
  have w1 := pWe_le (T := T) f3
  have hR : ∀ a, RT T E (fu g 148 11 a) := fun a => RT_fu h (by decide) (by decide)
  have hF : ∀ a, fu g 148 11 a 148 12 = -1 := fun a => by rw [fu_nj (by decide)]; exact hf
  have hB : ∀ a, fu g 148 11 a 148 9 = -1 := fun a => by rw [fu_nj (by decide)]; exact hb
  have hA : ∀ a, fu g 148 11 a 148 11 = a := fun a => fu_eq _ _ _ _
  have hM : ∀ a j, fu g 148 11 a 149 j = g 149 j := fun a j => fu_nc (by decide)
  unfold pLine at kq kf
  refine fx_la 0 1 (v := 1186) (by decide +kernel) rfl (by decide +kernel) ?_
  refine fx_c1 277 21 4 2 [] (by decide +kernel) (by decide) rfl (by first | decide | omega) ?_
  refine sp_here h h0 (fK1 ?_)
  rw [hsk]
  refine fx_si 1 5 (by decide +kernel) (Or.inr (f_n4p (v := 1186) rfl (by decide))) rfl ?_
  dsimp only [List.set]
  refine fx_la 0 6 (v := 1186) (by decide +kernel) rfl (by decide +kernel) ?_
  refine fx_lds 453 8 (by decide +kernel) ?_
  refine fx_c2 275 21 11 4 [7, 7] (by decide +kernel) (by decide) (by decide) (by decide) rfl (by first | decide | omega) ?_
  refine sp_hasW (f := f) [112, 101, 114, 115, 111, 110] (by decide +kernel) (hR _) (by rw [hA]; omega) (by rw [hA]; omega) (by rw [hA]; exact f4) (fun b8 => fK1 ?_) (fun b8 => fK1 ?_)
  all_goals rw [fu_fu]
  · refine fx_zeq 22 14 (by decide +kernel) (by unfold fR; omega) (fun hc => absurd hc (by decide)) (fun _ => ?_)
    refine fx_la 0 15 (v := 1186) (by decide +kernel) rfl (by decide +kernel) ?_
    refine fx_li 1 16 (by decide +kernel) rfl ?_
    refine fx_c2 286 21 19 6 [7, 7, 7, 7, 7] (by decide +kernel) (by decide) (by decide) (fI_n4 _) rfl (by first | decide | omega) ?_
    refine sp_personLine (f := pSk T E (pWe T E f)) (hR _) (hF _) (by rw [hA]; omega) (by rw [hA]; omega) (by rw [hA]) (by rw [hM]; exact hp0) (by rw [hM]; exact hp1) f2 (by omega) (fun e a q1 q2 => fK0 ?_) (fun e f' w pl v l e2 a q1 q2 q3 => fK0 ?_) (fun e q e2 a q1 q2 => fK0 ?_)
    · rw [hM] at e
      rw [fu_fu]
      exact fx_go 186 (by decide +kernel) (fx_vret (by decide +kernel) (kf f (by rw [cif_t b8, if_pos e]) a q1 q2))
    · rw [hM] at e
      rw [fu_fu]
      exact fx_go 186 (by decide +kernel) (fx_vret (by decide +kernel) (by have t := kq f' [0, w, pl, v, l] (by rw [cif_t b8, if_neg e]; exact e2) a q1 q2 q3; rw [apL_0] at t; exact t))
    · rw [hM] at e
      rw [fu_fu]
      exact fx_go 186 (by decide +kernel) (fx_vret (by decide +kernel) (kf q (by rw [cif_t b8, if_neg e]; exact e2) a q1 q2))
  · refine fx_zeq 22 14 (by decide +kernel) (by unfold fR; omega) (fun _ => ?_) (fun hc => absurd hc (by decide))
    refine fx_la 0 23 (v := 1186) (by decide +kernel) rfl (by decide +kernel) ?_
    refine fx_lds 469 25 (by decide +kernel) ?_
    refine fx_c2 275 21 28 4 [7, 7] (by decide +kernel) (by decide) (by decide) (by decide) rfl (by first | decide | omega) ?_
    refine sp_hasW (f := f) [100, 105, 115, 104] (by decide +kernel) (hR _) (by rw [hA]; omega) (by rw [hA]; omega) (by rw [hA]; exact f4) (fun b25 => fK1 ?_) (fun b25 => fK1 ?_)
    all_goals rw [fu_fu]
    · refine fx_zeq 39 31 (by decide +kernel) (by unfold fR; omega) (fun hc => absurd hc (by decide)) (fun _ => ?_)
      refine fx_la 0 32 (v := 1186) (by decide +kernel) rfl (by decide +kernel) ?_
      refine fx_li 1 33 (by decide +kernel) rfl ?_
      refine fx_c2 289 21 36 3 [7, 7, 7] (by decide +kernel) (by decide) (by decide) (fI_n4 _) rfl (by first | decide | omega) ?_
      refine sp_dishLine (f := pSk T E (pWe T E f)) (hB _) (hR _) (hF _) (by rw [hA]; omega) (by rw [hA]; omega) (by rw [hA]) (by rw [hM]; exact hd0) (by rw [hM]; exact hd1) f2 (by omega) (fun e a q1 q2 => fK0 ?_) (fun e f' e2 a q1 q2 q3 => fK0 ?_) (fun e q e2 a q1 q2 => fK0 ?_)
      · rw [hM] at e
        rw [fu_fu]
        exact fx_go 186 (by decide +kernel) (fx_vret (by decide +kernel) (kf f (by rw [cif_f b8, cif_t b25, if_pos e]) a q1 q2))
      · rw [hM] at e
        rw [fu_fu]
        exact fx_go 186 (by decide +kernel) (fx_vret (by decide +kernel) (by have t := kq f' [1, pSk T E (pWe T E f)] (by rw [cif_f b8, cif_t b25, if_neg e]; exact e2) a q1 q2 q3; rw [apL_1] at t; exact t))
      · rw [hM] at e
        rw [fu_fu]
        exact fx_go 186 (by decide +kernel) (fx_vret (by decide +kernel) (kf q (by rw [cif_f b8, cif_t b25, if_neg e]; exact e2) a q1 q2))
    · refine fx_zeq 39 31 (by decide +kernel) (by unfold fR; omega) (fun _ => ?_) (fun hc => absurd hc (by decide))
      refine fx_la 0 40 (v := 1186) (by decide +kernel) rfl (by decide +kernel) ?_
      refine fx_lds 541 42 (by decide +kernel) ?_
      refine fx_c2 275 21 45 4 [7, 7] (by decide +kernel) (by decide) (by decide) (by decide) rfl (by first | decide | omega) ?_
      refine sp_hasW (f := f) [114, 111, 97, 100] (by decide +kernel) (hR _) (by rw [hA]; omega) (by rw [hA]; omega) (by rw [hA]; exact f4) (fun b42 => fK1 ?_) (fun b42 => fK1 ?_)
      all_goals rw [fu_fu]
      · refine fx_zeq 55 48 (by decide +kernel) (by unfold fR; omega) (fun hc => absurd hc (by decide)) (fun _ => ?_)
        refine fx_la 0 49 (v := 1186) (by decide +kernel) rfl (by decide +kernel) ?_
        refine fx_c1 290 21 52 5 [7, 7] (by decide +kernel) (by decide) rfl (by first | decide | omega) ?_
        refine sp_roadLine (f := pSk T E (pWe T E f)) (hR _) (hF _) (by rw [hA]; omega) (by rw [hA]; omega) (by rw [hA]) (fun f' x y e2 x0 x1 y0 y1 a q1 q2 q3 => fK0 ?_) (fun q e2 a q1 q2 => fK0 ?_)
        · rw [fu_fu]
          exact fx_go 186 (by decide +kernel) (fx_vret (by decide +kernel) (by have t := kq f' [2, x, y] (by rw [cif_f b8, cif_f b25, cif_t b42, e2]; rfl) a q1 q2 q3; rw [apL_2] at t; exact t))
        · rw [fu_fu]
          exact fx_go 186 (by decide +kernel) (fx_vret (by decide +kernel) (kf q (by rw [cif_f b8, cif_f b25, cif_t b42, e2]; rfl) a q1 q2))
      · refine fx_zeq 55 48 (by decide +kernel) (by unfold fR; omega) (fun _ => ?_) (fun hc => absurd hc (by decide))
        refine fx_la 0 56 (v := 1186) (by decide +kernel) rfl (by decide +kernel) ?_
        refine fx_lds 549 58 (by decide +kernel) ?_
        refine fx_c2 275 21 61 4 [7, 7] (by decide +kernel) (by decide) (by decide) (by decide) rfl (by first | decide | omega) ?_
        refine sp_hasW (f := f) [113, 117, 111, 116, 97] (by decide +kernel) (hR _) (by rw [hA]; omega) (by rw [hA]; omega) (by rw [hA]; exact f4) (fun b58 => fK1 ?_) (fun b58 => fK1 ?_)
        all_goals rw [fu_fu]
        · refine fx_zeq 76 64 (by decide +kernel) (by unfold fR; omega) (fun hc => absurd hc (by decide)) (fun _ => ?_)
          refine fx_la 0 65 (v := 1186) (by decide +kernel) rfl (by decide +kernel) ?_
          refine fx_ci (5) 66 (by decide +kernel) ?_
          refine fx_ci (0) 67 (by decide +kernel) ?_
          refine fx_ci (160) 70 (by decide +kernel) ?_
          refine fx_c4 292 21 73 4 [7] (by decide +kernel) (by decide) (by decide) (fI_n4 _) (fI_n4 _) (fI_n4 _) rfl (by first | decide | omega) ?_
          refine sp_tells (f := pSk T E (pWe T E f)) (hR _) (hF _) (by rw [hA]; omega) (by rw [hA]; omega) (by rw [hA]) (by decide) (by decide) (by unfold fR; omega) (by unfold fR; omega) (fun p a q1 q2 q3 => fK0 ?_) (fun p a q1 q2 => fK0 ?_)
          · rw [fu_fu]
            exact fx_go 186 (by decide +kernel) (fx_vret (by decide +kernel) (by have t := kq _ [3, 5, pNu T E (pSk T E (pWe T E f))] (by rw [cif_f b8, cif_f b25, cif_f b42, cif_t b58]; unfold pSet; rw [cif_t p]) a q1 q2 q3; rw [apL_3] at t; exact t))
          · rw [fu_fu]
            exact fx_go 186 (by decide +kernel) (fx_vret (by decide +kernel) (kf _ (by rw [cif_f b8, cif_f b25, cif_f b42, cif_t b58]; unfold pSet; rw [cif_f p]) a q1 q2))
        · refine fx_zeq 76 64 (by decide +kernel) (by unfold fR; omega) (fun _ => ?_) (fun hc => absurd hc (by decide))
          refine fx_la 0 77 (v := 1186) (by decide +kernel) rfl (by decide +kernel) ?_
          refine fx_lds 557 79 (by decide +kernel) ?_
          refine fx_c2 275 21 82 4 [7, 7] (by decide +kernel) (by decide) (by decide) (by decide) rfl (by first | decide | omega) ?_
          refine sp_hasW (f := f) [119, 97, 108, 107] (by decide +kernel) (hR _) (by rw [hA]; omega) (by rw [hA]; omega) (by rw [hA]; exact f4) (fun b79 => fK1 ?_) (fun b79 => fK1 ?_)
          all_goals rw [fu_fu]
          · refine fx_zeq 97 85 (by decide +kernel) (by unfold fR; omega) (fun hc => absurd hc (by decide)) (fun _ => ?_)
            refine fx_la 0 86 (v := 1186) (by decide +kernel) rfl (by decide +kernel) ?_
            refine fx_ci (6) 88 (by decide +kernel) ?_
            refine fx_ci (0) 89 (by decide +kernel) ?_
            refine fx_ci (100) 91 (by decide +kernel) ?_
            refine fx_c4 292 21 94 4 [7] (by decide +kernel) (by decide) (by decide) (fI_n4 _) (fI_n4 _) (fI_n4 _) rfl (by first | decide | omega) ?_
            refine sp_tells (f := pSk T E (pWe T E f)) (hR _) (hF _) (by rw [hA]; omega) (by rw [hA]; omega) (by rw [hA]) (by decide) (by decide) (by unfold fR; omega) (by unfold fR; omega) (fun p a q1 q2 q3 => fK0 ?_) (fun p a q1 q2 => fK0 ?_)
            · rw [fu_fu]
              exact fx_go 186 (by decide +kernel) (fx_vret (by decide +kernel) (by have t := kq _ [3, 6, pNu T E (pSk T E (pWe T E f))] (by rw [cif_f b8, cif_f b25, cif_f b42, cif_f b58, cif_t b79]; unfold pSet; rw [cif_t p]) a q1 q2 q3; rw [apL_3] at t; exact t))
            · rw [fu_fu]
              exact fx_go 186 (by decide +kernel) (fx_vret (by decide +kernel) (kf _ (by rw [cif_f b8, cif_f b25, cif_f b42, cif_f b58, cif_t b79]; unfold pSet; rw [cif_f p]) a q1 q2))
          · refine fx_zeq 97 85 (by decide +kernel) (by unfold fR; omega) (fun _ => ?_) (fun hc => absurd hc (by decide))
            refine fx_la 0 98 (v := 1186) (by decide +kernel) rfl (by decide +kernel) ?_
            refine fx_lds 565 100 (by decide +kernel) ?_
            refine fx_c2 275 21 103 4 [7, 7] (by decide +kernel) (by decide) (by decide) (by decide) rfl (by first | decide | omega) ?_
            refine sp_hasW (f := f) [108, 105, 109, 105, 116] (by decide +kernel) (hR _) (by rw [hA]; omega) (by rw [hA]; omega) (by rw [hA]; exact f4) (fun b100 => fK1 ?_) (fun b100 => fK1 ?_)
            all_goals rw [fu_fu]
            · refine fx_zeq 118 106 (by decide +kernel) (by unfold fR; omega) (fun hc => absurd hc (by decide)) (fun _ => ?_)
              refine fx_la 0 107 (v := 1186) (by decide +kernel) rfl (by decide +kernel) ?_
              refine fx_ci (7) 109 (by decide +kernel) ?_
              refine fx_ci (1) 110 (by decide +kernel) ?_
              refine fx_ci (99) 112 (by decide +kernel) ?_
              refine fx_c4 292 21 115 4 [7] (by decide +kernel) (by decide) (by decide) (fI_n4 _) (fI_n4 _) (fI_n4 _) rfl (by first | decide | omega) ?_
              refine sp_tells (f := pSk T E (pWe T E f)) (hR _) (hF _) (by rw [hA]; omega) (by rw [hA]; omega) (by rw [hA]) (by decide) (by decide) (by unfold fR; omega) (by unfold fR; omega) (fun p a q1 q2 q3 => fK0 ?_) (fun p a q1 q2 => fK0 ?_)
              · rw [fu_fu]
                exact fx_go 186 (by decide +kernel) (fx_vret (by decide +kernel) (by have t := kq _ [3, 7, pNu T E (pSk T E (pWe T E f))] (by rw [cif_f b8, cif_f b25, cif_f b42, cif_f b58, cif_f b79, cif_t b100]; unfold pSet; rw [cif_t p]) a q1 q2 q3; rw [apL_3] at t; exact t))
              · rw [fu_fu]
                exact fx_go 186 (by decide +kernel) (fx_vret (by decide +kernel) (kf _ (by rw [cif_f b8, cif_f b25, cif_f b42, cif_f b58, cif_f b79, cif_t b100]; unfold pSet; rw [cif_f p]) a q1 q2))
            · refine fx_zeq 118 106 (by decide +kernel) (by unfold fR; omega) (fun _ => ?_) (fun hc => absurd hc (by decide))
              refine fx_la 0 119 (v := 1186) (by decide +kernel) rfl (by decide +kernel) ?_
              refine fx_lds 573 121 (by decide +kernel) ?_
              refine fx_c2 275 21 124 4 [7, 7] (by decide +kernel) (by decide) (by decide) (by decide) rfl (by first | decide | omega) ?_
              refine sp_hasW (f := f) [105, 114, 111, 110] (by decide +kernel) (hR _) (by rw [hA]; omega) (by rw [hA]; omega) (by rw [hA]; exact f4) (fun b121 => fK1 ?_) (fun b121 => fK1 ?_)
              all_goals rw [fu_fu]
              · refine fx_zeq 140 127 (by decide +kernel) (by unfold fR; omega) (fun hc => absurd hc (by decide)) (fun _ => ?_)
                refine fx_la 0 128 (v := 1186) (by decide +kernel) rfl (by decide +kernel) ?_
                refine fx_ci (8) 130 (by decide +kernel) ?_
                refine fx_ci (0) 131 (by decide +kernel) ?_
                refine fx_ci (999) 134 (by decide +kernel) ?_
                refine fx_c4 292 21 137 4 [7] (by decide +kernel) (by decide) (by decide) (fI_n4 _) (fI_n4 _) (fI_n4 _) rfl (by first | decide | omega) ?_
                refine sp_tells (f := pSk T E (pWe T E f)) (hR _) (hF _) (by rw [hA]; omega) (by rw [hA]; omega) (by rw [hA]) (by decide) (by decide) (by unfold fR; omega) (by unfold fR; omega) (fun p a q1 q2 q3 => fK0 ?_) (fun p a q1 q2 => fK0 ?_)
                · rw [fu_fu]
                  exact fx_go 186 (by decide +kernel) (fx_vret (by decide +kernel) (by have t := kq _ [3, 8, pNu T E (pSk T E (pWe T E f))] (by rw [cif_f b8, cif_f b25, cif_f b42, cif_f b58, cif_f b79, cif_f b100, cif_t b121]; unfold pSet; rw [cif_t p]) a q1 q2 q3; rw [apL_3] at t; exact t))
                · rw [fu_fu]
                  exact fx_go 186 (by decide +kernel) (fx_vret (by decide +kernel) (kf _ (by rw [cif_f b8, cif_f b25, cif_f b42, cif_f b58, cif_f b79, cif_f b100, cif_t b121]; unfold pSet; rw [cif_f p]) a q1 q2))
              · refine fx_zeq 140 127 (by decide +kernel) (by unfold fR; omega) (fun _ => ?_) (fun hc => absurd hc (by decide))
                refine fx_la 0 141 (v := 1186) (by decide +kernel) rfl (by decide +kernel) ?_
                refine fx_lds 501 143 (by decide +kernel) ?_
                refine fx_c2 275 21 146 4 [7, 7] (by decide +kernel) (by decide) (by decide) (by decide) rfl (by first | decide | omega) ?_
                refine sp_hasW (f := f) [110, 105, 103, 104, 116] (by decide +kernel) (hR _) (by rw [hA]; omega) (by rw [hA]; omega) (by rw [hA]; exact f4) (fun b143 => fK1 ?_) (fun b143 => fK1 ?_)
                all_goals rw [fu_fu]
                · refine fx_zeq 162 149 (by decide +kernel) (by unfold fR; omega) (fun hc => absurd hc (by decide)) (fun _ => ?_)
                  refine fx_la 0 150 (v := 1186) (by decide +kernel) rfl (by decide +kernel) ?_
                  refine fx_ci (9) 152 (by decide +kernel) ?_
                  refine fx_ci (0) 153 (by decide +kernel) ?_
                  refine fx_ci (999) 156 (by decide +kernel) ?_
                  refine fx_c4 292 21 159 4 [7] (by decide +kernel) (by decide) (by decide) (fI_n4 _) (fI_n4 _) (fI_n4 _) rfl (by first | decide | omega) ?_
                  refine sp_tells (f := pSk T E (pWe T E f)) (hR _) (hF _) (by rw [hA]; omega) (by rw [hA]; omega) (by rw [hA]) (by decide) (by decide) (by unfold fR; omega) (by unfold fR; omega) (fun p a q1 q2 q3 => fK0 ?_) (fun p a q1 q2 => fK0 ?_)
                  · rw [fu_fu]
                    exact fx_go 186 (by decide +kernel) (fx_vret (by decide +kernel) (by have t := kq _ [3, 9, pNu T E (pSk T E (pWe T E f))] (by rw [cif_f b8, cif_f b25, cif_f b42, cif_f b58, cif_f b79, cif_f b100, cif_f b121, cif_t b143]; unfold pSet; rw [cif_t p]) a q1 q2 q3; rw [apL_3] at t; exact t))
                  · rw [fu_fu]
                    exact fx_go 186 (by decide +kernel) (fx_vret (by decide +kernel) (kf _ (by rw [cif_f b8, cif_f b25, cif_f b42, cif_f b58, cif_f b79, cif_f b100, cif_f b121, cif_t b143]; unfold pSet; rw [cif_f p]) a q1 q2))
                · refine fx_zeq 162 149 (by decide +kernel) (by unfold fR; omega) (fun _ => ?_) (fun hc => absurd hc (by decide))
                  refine fx_la 0 163 (v := 1186) (by decide +kernel) rfl (by decide +kernel) ?_
                  refine fx_lds 581 165 (by decide +kernel) ?_
                  refine fx_c2 275 21 168 4 [7, 7] (by decide +kernel) (by decide) (by decide) (by decide) rfl (by first | decide | omega) ?_
                  refine sp_hasW (f := f) [112, 114, 111, 109, 105, 115, 101] (by decide +kernel) (hR _) (by rw [hA]; omega) (by rw [hA]; omega) (by rw [hA]; exact f4) (fun b165 => fK1 ?_) (fun b165 => fK1 ?_)
                  all_goals rw [fu_fu]
                  · refine fx_zeq 178 171 (by decide +kernel) (by unfold fR; omega) (fun hc => absurd hc (by decide)) (fun _ => ?_)
                    refine fx_la 0 172 (v := 1186) (by decide +kernel) rfl (by decide +kernel) ?_
                    refine fx_c1 293 21 175 5 [7, 7] (by decide +kernel) (by decide) rfl (by first | decide | omega) ?_
                    refine sp_promiseLine (f := pSk T E (pWe T E f)) (hR _) (hF _) (by rw [hA]; omega) (by rw [hA]; omega) (by rw [hA]) (by rw [hM]; exact hp0) (by rw [hM]; exact hp1) (fun f' x y e2 x0 x1 y0 y1 a q1 q2 q3 => fK0 ?_) (fun q e2 a q1 q2 => fK0 ?_)
                    · rw [fu_fu]
                      rw [hM] at e2
                      exact fx_go 186 (by decide +kernel) (fx_vret (by decide +kernel) (by have t := kq f' [4, x, y] (by rw [cif_f b8, cif_f b25, cif_f b42, cif_f b58, cif_f b79, cif_f b100, cif_f b121, cif_f b143, cif_t b165, e2]; rfl) a q1 q2 q3; rw [apL_4] at t; exact t))
                    · rw [fu_fu]
                      rw [hM] at e2
                      exact fx_go 186 (by decide +kernel) (fx_vret (by decide +kernel) (kf q (by rw [cif_f b8, cif_f b25, cif_f b42, cif_f b58, cif_f b79, cif_f b100, cif_f b121, cif_f b143, cif_t b165, e2]; rfl) a q1 q2))
                  · refine fx_zeq 178 171 (by decide +kernel) (by unfold fR; omega) (fun _ => ?_) (fun hc => absurd hc (by decide))
                    refine fx_la 0 179 (v := 1186) (by decide +kernel) rfl (by decide +kernel) ?_
                    refine fx_la 0 180 (v := 1186) (by decide +kernel) rfl (by decide +kernel) ?_
                    refine fx_gi 1186 148 11 183 (by decide +kernel) ?_
                    try simp only [fu_app, fcy_app, Nat.reduceEqDiff, and_true, and_false, false_and, true_and, if_true, if_false, ite_true, ite_false, reduceIte, Int.reduceToNat, fx_simp0]
                    refine fx_c2 273 21 186 0 [] (by decide +kernel) (by decide) (by decide) (fI_n4 _) rfl (by first | decide | omega) ?_
                    refine sp_wrong (hF _) (by unfold fR; omega) (fK0 ?_)
                    refine fx_vret (by decide +kernel) ?_
                    exact kf f (by rw [cif_f b8, cif_f b25, cif_f b42, cif_f b58, cif_f b79, cif_f b100, cif_f b121, cif_f b143, cif_f b165]) f f2 f3
end FXO
