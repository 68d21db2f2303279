/-! fx: the reference reads the law: what steps say, parts, sums -/
noncomputable def jnS (s a b : Int) : Int := if s = 2000 then fop 0 a b else if s = 2001 then (if a < b then 1 else 0) else if s = 2002 then (if b < a then 1 else 0) else if s = 2004 then fop 3 a b else fop 4 a b
noncomputable def stpS (F : Nat → Int) (s : Int) (st : List Int) : List Int := if s < 1000 then s :: st else if s < 2000 then F (s - 1000).toNat :: st else if s = 2003 then (1 - st.getD 0 0) :: st.drop 1 else jnS s (st.getD 1 0) (st.getD 0 0) :: st.drop 2
/-- what lies on the stack behind the steps c -/
noncomputable def evS (F : Nat → Int) (c : List Int) : List Int := c.foldl (fun st s => stpS F s st) []
theorem evS_1 (F : Nat → Int) (c : List Int) (s : Int) : evS F (c ++ [s]) = stpS F s (evS F c) := by
  unfold evS
  rw [List.foldl_append]
  rfl
theorem evS_2 (F : Nat → Int) (c : List Int) (s t : Int) : evS F (c ++ [s, t]) = stpS F t (stpS F s (evS F c)) := by
  unfold evS
  rw [List.foldl_append]
  rfl
/-- what a step of a part says -/
def vS (F : Nat → Int) (s : Int) : Int := if s < 1000 then s else F (s - 1000).toNat
theorem stp_v {F : Nat → Int} {s : Int} (st : List Int) (h : s ≤ 1999) : stpS F s st = vS F s :: st := by
  unfold stpS vS
  by_cases q : s < 1000
  · rw [if_pos q, if_pos q]
  · rw [if_neg q, if_neg q, if_pos (by omega)]
/-- the facts that the reference keeps -/
def fF (g : Nat → Nat → Int) (k : Nat) : Int := if k ≤ 6 then g 154 k else if k = 7 then g 148 15 else g 148 16
def rX (g0 g : Nat → Nat → Int) : Prop := ∀ c j, ¬ (c = 148 ∧ (j = 11 ∨ j = 12 ∨ j = 13)) → g c j = g0 c j
theorem rX.rf {g : Nat → Nat → Int} : rX g g := fun _ _ _ => rfl
theorem rX.tr {g g1 g2 : Nat → Nat → Int} (h : rX g g1) (h2 : rX g1 g2) : rX g g2 := fun c j a => by rw [h2 c j a, h c j a]
theorem rX.a {g0 g : Nat → Nat → Int} {z : Int} (h : rX g0 g) : rX g0 (fu g 148 11 z) := fun c j a => by rw [fu_ne (fun t => a ⟨t.1, Or.inl t.2⟩)]; exact h c j a
theorem rX.f {g0 g : Nat → Nat → Int} {z : Int} (h : rX g0 g) : rX g0 (fu g 148 12 z) := fun c j a => by rw [fu_ne (fun t => a ⟨t.1, Or.inr (Or.inl t.2)⟩)]; exact h c j a
theorem rX.d {g0 g : Nat → Nat → Int} {z : Int} (h : rX g0 g) : rX g0 (fu g 148 13 z) := fun c j a => by rw [fu_ne (fun t => a ⟨t.1, Or.inr (Or.inr t.2)⟩)]; exact h c j a
theorem rX.F {g0 g : Nat → Nat → Int} (h : rX g0 g) : fF g = fF g0 := by
  funext k
  unfold fF
  rw [h 154 k (fun t => absurd t.1 (by decide)), h 148 15 (by decide), h 148 16 (by decide)]
/-- the reference stands ahead of f, dp deep -/
def rwS (T : Int → Int) (E : Int) (g0 g : Nat → Nat → Int) (f dp : Int) : Prop := RT T E g ∧ 0 ≤ g 148 11 ∧ g 148 11 ≤ E ∧ pSk T E (g 148 11) = f ∧ g 148 12 = -1 ∧ g 148 13 = dp ∧ rX g0 g
/-- a wrong byte is told -/
def rwF (g0 g : Nat → Nat → Int) (q B dp : Int) : Prop := g 148 12 = q ∧ 0 ≤ q ∧ rX g0 g ∧ 0 ≤ g 148 11 ∧ g 148 11 ≤ B ∧ g 148 13 = dp
theorem rwS.ok {T : Int → Int} {E f dp : Int} {g0 g : Nat → Nat → Int} (h : rwS T E g0 g f dp) : pOk T E f := by
  obtain ⟨-, h1, h2, h3, -⟩ := h
  rw [← h3]
  exact pOk_sk h1 h2
theorem rwS.to {T : Int → Int} {E f dp a : Int} {g0 g : Nat → Nat → Int} (h : rwS T E g0 g f dp) (a0 : 0 ≤ a) (aE : a ≤ E) : rwS T E g0 (fu g 148 11 a) (pSk T E a) dp := by
  obtain ⟨h0, h1, h2, h3, h4, h5, h6⟩ := h
  refine ⟨RT_fu h0 (by decide) (by decide), by rw [fu_eq]; exact a0, by rw [fu_eq]; exact aE, by rw [fu_eq], by rw [fu_nj (by decide)]; exact h4, by rw [fu_nj (by decide)]; exact h5, h6.a⟩
theorem rwS.id {T : Int → Int} {E f dp : Int} {g0 g : Nat → Nat → Int} (h : rwS T E g0 g f dp) : rwS T E g0 (fu g 148 11 f) f dp := by
  have ok := h.ok
  have t := h.to (a := f) ok.1 ok.2.1
  rw [ok.2.2] at t
  exact t
section G5G
variable {W : ax_W} {r : Nat} {g g0 : Nat → Nat → Int} {Q : Nat → Nat → (Nat → Nat → Int) → Prop} {T : Int → Int} {E f dp : Int} {c : List Int}
theorem sp_rhas {s : Nat} (ws : List Nat) (hw : f_swb s ws = true) (h : rwS T E g0 g f dp) (k1 : pWd T E ws f → ∀ g', rwS T E g0 g' (pSk T E (pWe T E f)) dp → Q 1 (fI 1) g') (k2 : ¬ pWd T E ws f → ∀ g', rwS T E g0 g' f dp → g' 148 11 = f → Q 1 (fI 0) g') : fx W r 4 275 0 [1186, s, 7, 7] [] g Q := by
  have ok := h.ok
  have w1 := pWe_ge T E f
  have ok1 := ok.1
  exact sp_hasW ws hw h.1 h.2.1 h.2.2.1 h.2.2.2.1 (fun t => k1 t _ (h.to (by omega) (pWe_le ok.2.1))) (fun t => k2 t _ h.id (fu_eq _ _ _ _))
theorem sp_rsign {z : Int} (h : rwS T E g0 g f dp) (hz : fR z) (k1 : pSg T E z f → ∀ g', rwS T E g0 g' f dp → g' 148 11 = f → Q 1 (fI 1) g') (k2 : ¬ pSg T E z f → ∀ g', rwS T E g0 g' f dp → g' 148 11 = f → Q 1 (fI 0) g') : fx W r 2 281 0 [1186, fI z] [] g Q := by
  have e := h.2.2.2.1
  refine sp_isSign h.1 h.2.1 h.2.2.1 hz (fun t => ?_) (fun t => ?_)
  · rw [e] at t ⊢
    exact k1 t _ h.id (fu_eq _ _ _ _)
  · rw [e] at t ⊢
    exact k2 t _ h.id (fu_eq _ _ _ _)
theorem pFact_d {T : Int → Int} {E f : Int} (hE : f ≤ E) (hd : 48 ≤ T f ∧ T f ≤ 57) : pFact T E f = -1 := by
  have n : ∀ (ws : List Nat), 0 < ws.length → ¬ pWd T E ws f := fun ws hn t => by
    have h1 := pWd_lt hn t
    have h2 : pWe T E f = f := prun_no (isLe_f (by omega))
    omega
  unfold pFact
  rw [cif_f (n _ (by decide)), cif_f (n _ (by decide)), cif_f (n _ (by decide)), cif_f (n _ (by decide)), cif_f (n _ (by decide)), cif_f (n _ (by decide)), cif_f (n _ (by decide))]
theorem pN_n {lo hi : Int} (h : ¬ (f < E ∧ 48 ≤ T f ∧ T f ≤ 57)) (hE : f ≤ E) : ¬ pN T E lo hi f := fun t => by
  have h1 := t.1
  by_cases e : f < E
  · have h2 : pDg T E f = f := prun_no (isDi_f (fun u => h ⟨e, u⟩))
    omega
  · have h2 := pDg_le (T := T) hE
    omega
theorem sp_mpart (h : rwS T E g0 g f dp) (k1 : ∀ f1 s g', pPart T E f = Sum.inr (f1, s) → rwS T E g0 g' f1 dp → fR (vS (fF g0) s) → Q 1 (fI (vS (fF g0) s)) g') (k2 : ∀ v g', pPart T E f = Sum.inl f → rwF g0 g' f 400 dp → fR v → Q 1 (fI v) g') : fx W r 5 284 0 [1186, 7] [] g Q := by
  have ok := h.ok
  have ok1 := ok.1
  have ok2 := ok.2.1
  have hE := h.1.2.2.1
  have eE := h.1.1
  have hf := h.2.2.2.2.1
  have h1 := h.id
  have e := h.2.2.2.1
  have hX := h.2.2.2.2.2.2
  -- a word told the fact k
  have fk : ∀ (k : Nat) (g' : Nat → Nat → Int), k ≤ 6 → pFact T E f = 1000 + (k : Int) → rwS T E g0 g' (pSk T E (pWe T E f)) dp → fR (g' 154 k) → Q 1 (fI (g' 154 k)) g' := fun k g' hk ep hS hr => by
    have ev : vS (fF g0) (1000 + (k : Int)) = g' 154 k := by
      unfold vS fF
      rw [if_neg (by omega), show (1000 + (k : Int) - 1000).toNat = k by omega, if_pos hk, hS.2.2.2.2.2.2 154 k (fun t => absurd t.1 (by decide))]
    rw [← ev] at hr ⊢
    exact k1 _ _ g' (by unfold pPart; rw [cif_f (by omega), ep]) hS hr
  refine fx_la 0 1 (v := 1186) (by decide +kernel) rfl (by decide +kernel) ?_
  refine fx_gi 1186 148 12 4 (by decide +kernel) ?_
  refine fx_cn (-1) 5 (by decide +kernel) (fun v4 c4 => ?_)
  refine fx_ieq 10 8 (by decide +kernel) (by first | exact hg 148 12 (by decide) (by decide +kernel) (by decide +kernel) | (unfold fR; omega)) (by unfold fR; omega) (fun h5 => ?_) (fun h5 => ?_)
  · refine fx_la 0 11 (v := 1186) (by decide +kernel) rfl (by decide +kernel) ?_
    refine fx_c1 271 21 14 1 [] (by decide +kernel) (by decide) rfl (by first | decide | omega) ?_
    refine sp_skip h.1 h.2.1 (fK0 ?_)
    rw [e]
    refine fx_la 0 15 (v := 1186) (by decide +kernel) rfl (by decide +kernel) ?_
    refine fx_gi 1186 148 11 18 (by decide +kernel) ?_
    try simp only [fu_app, fcy_app, Nat.reduceEqDiff, and_true, and_false, false_and, true_and, if_true, if_false, ite_true, ite_false, reduceIte, Int.reduceToNat, fx_simp0]
    refine fx_la 0 19 (v := 1186) (by decide +kernel) rfl (by decide +kernel) ?_
    refine fx_gi 1186 148 10 22 (by decide +kernel) ?_
    try simp only [fu_app, fcy_app, Nat.reduceEqDiff, and_true, and_false, false_and, true_and, if_true, if_false, ite_true, ite_false, reduceIte, Int.reduceToNat, fx_simp0]
    refine fx_ige 52 25 (by decide +kernel) (by unfold fR; omega) (by unfold fR; omega) (fun h22 => ?_) (fun h22 => ?_)
    · refine fx_la 0 53 (v := 1186) (by decide +kernel) rfl (by decide +kernel) ?_
      refine fx_lds 453 55 (by decide +kernel) ?_
      refine fx_c2 275 21 58 4 [7, 7] (by decide +kernel) (by decide) (by decide) (by decide) rfl (by first | decide | omega) ?_
      refine sp_rhas [112, 101, 114, 115, 111, 110] (by decide +kernel) h1 (fun t1 g1 s1 => fK1 ?_) (fun t1 g1 s1 _ => fK1 ?_)
      · refine fx_zeq 65 61 (by decide +kernel) (by unfold fR; omega) (fun hc => absurd hc (by decide)) (fun _ => ?_)
        refine fx_ci (0) 62 (by decide +kernel) ?_
        refine fx_go 145 (by decide +kernel) ?_
        refine fx_si 1 146 (by decide +kernel) (Or.inr (f_n4p (v := 1186) rfl (by decide))) rfl ?_
        dsimp only [List.set]
        refine fx_li 1 147 (by decide +kernel) rfl ?_
        refine fx_ci (-1) 148 (by decide +kernel) ?_
        refine fx_ine 161 151 (by decide +kernel) (by unfold fR; omega) (by unfold fR; omega) (fun _ => ?_) (fun hc => absurd hc (by decide))
        refine fx_rg (fun hg => ?_)
        refine fx_la 0 162 (v := 1186) (by decide +kernel) rfl (by decide +kernel) ?_
        refine fx_gp 1186 148 14 1234 165 (by decide +kernel) ?_
        refine fx_li 1 166 (by decide +kernel) rfl ?_
        refine fx_al 1234 154 7 167 (by decide +kernel) rfl (by omega) (by omega) rfl ?_
        try simp only [fu_app, fcy_app, Nat.reduceEqDiff, and_true, and_false, false_and, true_and, if_true, if_false, ite_true, ite_false, reduceIte, Int.reduceToNat, fx_simp0]
        refine fx_ret (by decide +kernel) ?_
        exact fk 0 g1 (by decide) (cif_t t1) s1 (hgA hg 7 (c := 154) (by decide +kernel) (by decide))
      · refine fx_zeq 65 61 (by decide +kernel) (by unfold fR; omega) (fun _ => ?_) (fun hc => absurd hc (by decide))
        refine fx_la 0 66 (v := 1186) (by decide +kernel) rfl (by decide +kernel) ?_
        refine fx_lds 461 68 (by decide +kernel) ?_
        refine fx_c2 275 21 71 4 [7, 7] (by decide +kernel) (by decide) (by decide) (by decide) rfl (by first | decide | omega) ?_
        refine sp_rhas [112, 108, 97, 99, 101] (by decide +kernel) s1 (fun t2 g2 s2 => fK1 ?_) (fun t2 g2 s2 _ => fK1 ?_)
        · refine fx_zeq 78 74 (by decide +kernel) (by unfold fR; omega) (fun hc => absurd hc (by decide)) (fun _ => ?_)
          refine fx_ci (1) 75 (by decide +kernel) ?_
          refine fx_go 145 (by decide +kernel) ?_
          refine fx_si 1 146 (by decide +kernel) (Or.inr (f_n4p (v := 1186) rfl (by decide))) rfl ?_
          dsimp only [List.set]
          refine fx_li 1 147 (by decide +kernel) rfl ?_
          refine fx_ci (-1) 148 (by decide +kernel) ?_
          refine fx_ine 161 151 (by decide +kernel) (by unfold fR; omega) (by unfold fR; omega) (fun _ => ?_) (fun hc => absurd hc (by decide))
          refine fx_rg (fun hg => ?_)
          refine fx_la 0 162 (v := 1186) (by decide +kernel) rfl (by decide +kernel) ?_
          refine fx_gp 1186 148 14 1234 165 (by decide +kernel) ?_
          refine fx_li 1 166 (by decide +kernel) rfl ?_
          refine fx_al 1234 154 7 167 (by decide +kernel) rfl (by omega) (by omega) rfl ?_
          try simp only [fu_app, fcy_app, Nat.reduceEqDiff, and_true, and_false, false_and, true_and, if_true, if_false, ite_true, ite_false, reduceIte, Int.reduceToNat, fx_simp0]
          refine fx_ret (by decide +kernel) ?_
          exact fk 1 g2 (by decide) ((cif_f t1).trans (cif_t t2)) s2 (hgA hg 7 (c := 154) (by decide +kernel) (by decide))
        · refine fx_zeq 78 74 (by decide +kernel) (by unfold fR; omega) (fun _ => ?_) (fun hc => absurd hc (by decide))
          refine fx_la 0 79 (v := 1186) (by decide +kernel) rfl (by decide +kernel) ?_
          refine fx_lds 469 81 (by decide +kernel) ?_
          refine fx_c2 275 21 84 4 [7, 7] (by decide +kernel) (by decide) (by decide) (by decide) rfl (by first | decide | omega) ?_
          refine sp_rhas [100, 105, 115, 104] (by decide +kernel) s2 (fun t3 g3 s3 => fK1 ?_) (fun t3 g3 s3 _ => fK1 ?_)
          · refine fx_zeq 91 87 (by decide +kernel) (by unfold fR; omega) (fun hc => absurd hc (by decide)) (fun _ => ?_)
            refine fx_ci (2) 88 (by decide +kernel) ?_
            refine fx_go 145 (by decide +kernel) ?_
            refine fx_si 1 146 (by decide +kernel) (Or.inr (f_n4p (v := 1186) rfl (by decide))) rfl ?_
            dsimp only [List.set]
            refine fx_li 1 147 (by decide +kernel) rfl ?_
            refine fx_ci (-1) 148 (by decide +kernel) ?_
            refine fx_ine 161 151 (by decide +kernel) (by unfold fR; omega) (by unfold fR; omega) (fun _ => ?_) (fun hc => absurd hc (by decide))
            refine fx_rg (fun hg => ?_)
            refine fx_la 0 162 (v := 1186) (by decide +kernel) rfl (by decide +kernel) ?_
            refine fx_gp 1186 148 14 1234 165 (by decide +kernel) ?_
            refine fx_li 1 166 (by decide +kernel) rfl ?_
            refine fx_al 1234 154 7 167 (by decide +kernel) rfl (by omega) (by omega) rfl ?_
            try simp only [fu_app, fcy_app, Nat.reduceEqDiff, and_true, and_false, false_and, true_and, if_true, if_false, ite_true, ite_false, reduceIte, Int.reduceToNat, fx_simp0]
            refine fx_ret (by decide +kernel) ?_
            exact fk 2 g3 (by decide) ((cif_f t1).trans ((cif_f t2).trans (cif_t t3))) s3 (hgA hg 7 (c := 154) (by decide +kernel) (by decide))
          · refine fx_zeq 91 87 (by decide +kernel) (by unfold fR; omega) (fun _ => ?_) (fun hc => absurd hc (by decide))
            refine fx_la 0 92 (v := 1186) (by decide +kernel) rfl (by decide +kernel) ?_
            refine fx_lds 477 94 (by decide +kernel) ?_
            refine fx_c2 275 21 97 4 [7, 7] (by decide +kernel) (by decide) (by decide) (by decide) rfl (by first | decide | omega) ?_
            refine sp_rhas [99, 111, 108, 100] (by decide +kernel) s3 (fun t4 g4 s4 => fK1 ?_) (fun t4 g4 s4 _ => fK1 ?_)
            · refine fx_zeq 104 100 (by decide +kernel) (by unfold fR; omega) (fun hc => absurd hc (by decide)) (fun _ => ?_)
              refine fx_ci (3) 101 (by decide +kernel) ?_
              refine fx_go 145 (by decide +kernel) ?_
              refine fx_si 1 146 (by decide +kernel) (Or.inr (f_n4p (v := 1186) rfl (by decide))) rfl ?_
              dsimp only [List.set]
              refine fx_li 1 147 (by decide +kernel) rfl ?_
              refine fx_ci (-1) 148 (by decide +kernel) ?_
              refine fx_ine 161 151 (by decide +kernel) (by unfold fR; omega) (by unfold fR; omega) (fun _ => ?_) (fun hc => absurd hc (by decide))
              refine fx_rg (fun hg => ?_)
              refine fx_la 0 162 (v := 1186) (by decide +kernel) rfl (by decide +kernel) ?_
              refine fx_gp 1186 148 14 1234 165 (by decide +kernel) ?_
              refine fx_li 1 166 (by decide +kernel) rfl ?_
              refine fx_al 1234 154 7 167 (by decide +kernel) rfl (by omega) (by omega) rfl ?_
              try simp only [fu_app, fcy_app, Nat.reduceEqDiff, and_true, and_false, false_and, true_and, if_true, if_false, ite_true, ite_false, reduceIte, Int.reduceToNat, fx_simp0]
              refine fx_ret (by decide +kernel) ?_
              exact fk 3 g4 (by decide) ((cif_f t1).trans ((cif_f t2).trans ((cif_f t3).trans (cif_t t4)))) s4 (hgA hg 7 (c := 154) (by decide +kernel) (by decide))
            · refine fx_zeq 104 100 (by decide +kernel) (by unfold fR; omega) (fun _ => ?_) (fun hc => absurd hc (by decide))
              refine fx_la 0 105 (v := 1186) (by decide +kernel) rfl (by decide +kernel) ?_
              refine fx_lds 485 107 (by decide +kernel) ?_
              refine fx_c2 275 21 110 4 [7, 7] (by decide +kernel) (by decide) (by decide) (by decide) rfl (by first | decide | omega) ?_
              refine sp_rhas [118, 111, 116, 101] (by decide +kernel) s4 (fun t5 g5 s5 => fK1 ?_) (fun t5 g5 s5 _ => fK1 ?_)
              · refine fx_zeq 117 113 (by decide +kernel) (by unfold fR; omega) (fun hc => absurd hc (by decide)) (fun _ => ?_)
                refine fx_ci (4) 114 (by decide +kernel) ?_
                refine fx_go 145 (by decide +kernel) ?_
                refine fx_si 1 146 (by decide +kernel) (Or.inr (f_n4p (v := 1186) rfl (by decide))) rfl ?_
                dsimp only [List.set]
                refine fx_li 1 147 (by decide +kernel) rfl ?_
                refine fx_ci (-1) 148 (by decide +kernel) ?_
                refine fx_ine 161 151 (by decide +kernel) (by unfold fR; omega) (by unfold fR; omega) (fun _ => ?_) (fun hc => absurd hc (by decide))
                refine fx_rg (fun hg => ?_)
                refine fx_la 0 162 (v := 1186) (by decide +kernel) rfl (by decide +kernel) ?_
                refine fx_gp 1186 148 14 1234 165 (by decide +kernel) ?_
                refine fx_li 1 166 (by decide +kernel) rfl ?_
                refine fx_al 1234 154 7 167 (by decide +kernel) rfl (by omega) (by omega) rfl ?_
                try simp only [fu_app, fcy_app, Nat.reduceEqDiff, and_true, and_false, false_and, true_and, if_true, if_false, ite_true, ite_false, reduceIte, Int.reduceToNat, fx_simp0]
                refine fx_ret (by decide +kernel) ?_
                exact fk 4 g5 (by decide) ((cif_f t1).trans ((cif_f t2).trans ((cif_f t3).trans ((cif_f t4).trans (cif_t t5))))) s5 (hgA hg 7 (c := 154) (by decide +kernel) (by decide))
              · refine fx_zeq 117 113 (by decide +kernel) (by unfold fR; omega) (fun _ => ?_) (fun hc => absurd hc (by decide))
                refine fx_la 0 118 (v := 1186) (by decide +kernel) rfl (by decide +kernel) ?_
                refine fx_lds 493 120 (by decide +kernel) ?_
                refine fx_c2 275 21 123 4 [7, 7] (by decide +kernel) (by decide) (by decide) (by decide) rfl (by first | decide | omega) ?_
                refine sp_rhas [119, 101, 105, 103, 104, 116] (by decide +kernel) s5 (fun t6 g6 s6 => fK1 ?_) (fun t6 g6 s6 _ => fK1 ?_)
                · refine fx_zeq 130 126 (by decide +kernel) (by unfold fR; omega) (fun hc => absurd hc (by decide)) (fun _ => ?_)
                  refine fx_ci (5) 127 (by decide +kernel) ?_
                  refine fx_go 145 (by decide +kernel) ?_
                  refine fx_si 1 146 (by decide +kernel) (Or.inr (f_n4p (v := 1186) rfl (by decide))) rfl ?_
                  dsimp only [List.set]
                  refine fx_li 1 147 (by decide +kernel) rfl ?_
                  refine fx_ci (-1) 148 (by decide +kernel) ?_
                  refine fx_ine 161 151 (by decide +kernel) (by unfold fR; omega) (by unfold fR; omega) (fun _ => ?_) (fun hc => absurd hc (by decide))
                  refine fx_rg (fun hg => ?_)
                  refine fx_la 0 162 (v := 1186) (by decide +kernel) rfl (by decide +kernel) ?_
                  refine fx_gp 1186 148 14 1234 165 (by decide +kernel) ?_
                  refine fx_li 1 166 (by decide +kernel) rfl ?_
                  refine fx_al 1234 154 7 167 (by decide +kernel) rfl (by omega) (by omega) rfl ?_
                  try simp only [fu_app, fcy_app, Nat.reduceEqDiff, and_true, and_false, false_and, true_and, if_true, if_false, ite_true, ite_false, reduceIte, Int.reduceToNat, fx_simp0]
                  refine fx_ret (by decide +kernel) ?_
                  exact fk 5 g6 (by decide) ((cif_f t1).trans ((cif_f t2).trans ((cif_f t3).trans ((cif_f t4).trans ((cif_f t5).trans (cif_t t6)))))) s6 (hgA hg 7 (c := 154) (by decide +kernel) (by decide))
                · refine fx_zeq 130 126 (by decide +kernel) (by unfold fR; omega) (fun _ => ?_) (fun hc => absurd hc (by decide))
                  refine fx_la 0 131 (v := 1186) (by decide +kernel) rfl (by decide +kernel) ?_
                  refine fx_lds 501 133 (by decide +kernel) ?_
                  refine fx_c2 275 21 136 4 [7, 7] (by decide +kernel) (by decide) (by decide) (by decide) rfl (by first | decide | omega) ?_
                  refine sp_rhas [110, 105, 103, 104, 116] (by decide +kernel) s6 (fun t7 g7 s7 => fK1 ?_) (fun t7 g7 s7 at7 => fK1 ?_)
                  · refine fx_zeq 144 139 (by decide +kernel) (by unfold fR; omega) (fun hc => absurd hc (by decide)) (fun _ => ?_)
                    refine fx_ci (6) 141 (by decide +kernel) ?_
                    refine fx_go 145 (by decide +kernel) ?_
                    refine fx_si 1 146 (by decide +kernel) (Or.inr (f_n4p (v := 1186) rfl (by decide))) rfl ?_
                    dsimp only [List.set]
                    refine fx_li 1 147 (by decide +kernel) rfl ?_
                    refine fx_ci (-1) 148 (by decide +kernel) ?_
                    refine fx_ine 161 151 (by decide +kernel) (by unfold fR; omega) (by unfold fR; omega) (fun _ => ?_) (fun hc => absurd hc (by decide))
                    refine fx_rg (fun hg => ?_)
                    refine fx_la 0 162 (v := 1186) (by decide +kernel) rfl (by decide +kernel) ?_
                    refine fx_gp 1186 148 14 1234 165 (by decide +kernel) ?_
                    refine fx_li 1 166 (by decide +kernel) rfl ?_
                    refine fx_al 1234 154 7 167 (by decide +kernel) rfl (by omega) (by omega) rfl ?_
                    try simp only [fu_app, fcy_app, Nat.reduceEqDiff, and_true, and_false, false_and, true_and, if_true, if_false, ite_true, ite_false, reduceIte, Int.reduceToNat, fx_simp0]
                    refine fx_ret (by decide +kernel) ?_
                    exact fk 6 g7 (by decide) ((cif_f t1).trans ((cif_f t2).trans ((cif_f t3).trans ((cif_f t4).trans ((cif_f t5).trans ((cif_f t6).trans (cif_t t7))))))) s7 (hgA hg 7 (c := 154) (by decide +kernel) (by decide))
                  · refine fx_zeq 144 139 (by decide +kernel) (by unfold fR; omega) (fun _ => ?_) (fun hc => absurd hc (by decide))
                    refine fx_cn (-1) 145 (by decide +kernel) (fun v144 c144 => ?_)
                    refine fx_si 1 146 (by decide +kernel) (Or.inr (f_n4p (v := 1186) rfl (by decide))) rfl ?_
                    dsimp only [List.set]
                    refine fx_li 1 147 (by decide +kernel) rfl ?_
                    refine fx_ci (-1) 148 (by decide +kernel) ?_
                    refine fx_ine 161 151 (by decide +kernel) (by unfold fR; omega) (by unfold fR; omega) (fun h148 => ?_) (fun h148 => ?_)
                    · exfalso; omega
                    · refine fx_la 0 152 (v := 1186) (by decide +kernel) rfl (by decide +kernel) ?_
                      refine fx_la 0 153 (v := 1186) (by decide +kernel) rfl (by decide +kernel) ?_
                      refine fx_gi 1186 148 11 156 (by decide +kernel) ?_
                      try simp only [fu_app, fcy_app, Nat.reduceEqDiff, and_true, and_false, false_and, true_and, if_true, if_false, ite_true, ite_false, reduceIte, Int.reduceToNat, fx_simp0]
                      rw [at7]
                      refine fx_c2 273 21 159 0 [] (by decide +kernel) (by decide) (by decide) (fI_n4 _) rfl (by first | decide | omega) ?_
                      refine sp_wrong s7.2.2.2.2.1 (by unfold fR; omega) (fK0 ?_)
                      refine fx_ci (0) 160 (by decide +kernel) ?_
                      refine fx_ret (by decide +kernel) ?_
                      have eP : pFact T E f = -1 := (cif_f t1).trans ((cif_f t2).trans ((cif_f t3).trans ((cif_f t4).trans ((cif_f t5).trans ((cif_f t6).trans (cif_f t7))))))
                      have nn : ¬ pN T E 0 999 f := by first | exact pN_n (fun u => by omega) ok2 | exact pN_n (fun u => t u.2) ok2
                      exact k2 _ _ (by unfold pPart; rw [cif_t eP, cif_f nn]) ⟨fu_eq _ _ _ _, ok1, s7.2.2.2.2.2.2.f, by rw [fu_nj (by decide), at7]; exact ok1, by rw [fu_nj (by decide), at7]; omega, by rw [fu_nj (by decide)]; exact s7.2.2.2.2.2.1⟩ (by unfold fR; omega)
    · refine fx_la 0 26 (v := 1186) (by decide +kernel) rfl (by decide +kernel) ?_
      refine fx_la 0 27 (v := 1186) (by decide +kernel) rfl (by decide +kernel) ?_
      refine fx_gi 1186 148 11 30 (by decide +kernel) ?_
      try simp only [fu_app, fcy_app, Nat.reduceEqDiff, and_true, and_false, false_and, true_and, if_true, if_false, ite_true, ite_false, reduceIte, Int.reduceToNat, fx_simp0]
      refine fx_c2 272 21 33 0 [] (by decide +kernel) (by decide) (by decide) (fI_n4 _) rfl (by first | decide | omega) ?_
      refine sp_letterT h1.1 ok1 (by omega) (fK1 ?_)
      refine fx_ci (48) 35 (by decide +kernel) ?_
      refine fx_ci (57) 37 (by decide +kernel) ?_
      refine fx_c3 266 22 40 0 [] (f_q22 (by decide +kernel)) (by decide) (fI_n4 _) (fI_n4 _) (fI_n4 _) rfl (by first | decide | omega) ?_
      refine sp_isIn (by have := RT_t h.1 ok1 (by omega); unfold fR; omega) (by unfold fR; omega) (by unfold fR; omega) (fun t => fK1 ?_) (fun t => fK1 ?_)
      · refine fx_zeq 52 43 (by decide +kernel) (by unfold fR; omega) (fun hc => absurd hc (by decide)) (fun _ => ?_)
        refine fx_la 0 44 (v := 1186) (by decide +kernel) rfl (by decide +kernel) ?_
        refine fx_ci (0) 45 (by decide +kernel) ?_
        refine fx_ci (999) 48 (by decide +kernel) ?_
        refine fx_c3 276 21 51 3 [7, 7] (by decide +kernel) (by decide) (by decide) (fI_n4 _) (fI_n4 _) rfl (by first | decide | omega) ?_
        have eP := pFact_d ok2 t
        refine sp_figures h1.1 (by rw [fu_nj (by decide)]; exact hf) (by rw [fu_eq]; exact ok1) (by rw [fu_eq]; exact ok2) (by unfold fR; omega) (by unfold fR; omega) (fun n => fK1 ?_) (fun n a v a0 aE rv => fK1 ?_)
        all_goals rw [fu_eq, ok.2.2] at n ⊢
        · refine fx_ret (by decide +kernel) ?_
          have w1 := pDg_ge T E f
          have vb : vS (fF g0) (pNu T E f) = pNu T E f := if_pos (by have := n.2.2.2; show nv T f _ < 1000; omega)
          have kk := k1 _ _ (fu (fu g 148 11 f) 148 11 (pDg T E f)) (show pPart T E f = Sum.inr (pSk T E (pDg T E f), pNu T E f) by unfold pPart; rw [cif_t eP, cif_t n]) (h1.to (by omega) (pDg_le ok2)) (by rw [vb]; have n3 := n.2.2.1; have n4 := n.2.2.2; unfold fR; show -2147483648 ≤ nv T f _ ∧ nv T f _ < 2147483648; omega)
          rw [vb] at kk
          exact kk
        · refine fx_ret (by decide +kernel) ?_
          exact k2 _ _ (by unfold pPart; rw [cif_t eP, cif_f n]) ⟨fu_eq _ _ _ _, ok1, (h1.2.2.2.2.2.2.a).f, by rw [fu_nj (by decide), fu_eq]; exact a0, by rw [fu_nj (by decide), fu_eq]; omega, by rw [fu_nj (by decide), fu_nj (by decide), fu_nj (by decide)]; exact h.2.2.2.2.2.1⟩ rv
      · refine fx_zeq 52 43 (by decide +kernel) (by unfold fR; omega) (fun _ => ?_) (fun hc => absurd hc (by decide))
        refine fx_la 0 53 (v := 1186) (by decide +kernel) rfl (by decide +kernel) ?_
        refine fx_lds 453 55 (by decide +kernel) ?_
        refine fx_c2 275 21 58 4 [7, 7] (by decide +kernel) (by decide) (by decide) (by decide) rfl (by first | decide | omega) ?_
        refine sp_rhas [112, 101, 114, 115, 111, 110] (by decide +kernel) h1 (fun t1 g1 s1 => fK1 ?_) (fun t1 g1 s1 _ => fK1 ?_)
        · refine fx_zeq 65 61 (by decide +kernel) (by unfold fR; omega) (fun hc => absurd hc (by decide)) (fun _ => ?_)
          refine fx_ci (0) 62 (by decide +kernel) ?_
          refine fx_go 145 (by decide +kernel) ?_
          refine fx_si 1 146 (by decide +kernel) (Or.inr (f_n4p (v := 1186) rfl (by decide))) rfl ?_
          dsimp only [List.set]
          refine fx_li 1 147 (by decide +kernel) rfl ?_
          refine fx_ci (-1) 148 (by decide +kernel) ?_
          refine fx_ine 161 151 (by decide +kernel) (by unfold fR; omega) (by unfold fR; omega) (fun _ => ?_) (fun hc => absurd hc (by decide))
          refine fx_rg (fun hg => ?_)
          refine fx_la 0 162 (v := 1186) (by decide +kernel) rfl (by decide +kernel) ?_
          refine fx_gp 1186 148 14 1234 165 (by decide +kernel) ?_
          refine fx_li 1 166 (by decide +kernel) rfl ?_
          refine fx_al 1234 154 7 167 (by decide +kernel) rfl (by omega) (by omega) rfl ?_
          try simp only [fu_app, fcy_app, Nat.reduceEqDiff, and_true, and_false, false_and, true_and, if_true, if_false, ite_true, ite_false, reduceIte, Int.reduceToNat, fx_simp0]
          refine fx_ret (by decide +kernel) ?_
          exact fk 0 g1 (by decide) (cif_t t1) s1 (hgA hg 7 (c := 154) (by decide +kernel) (by decide))
        · refine fx_zeq 65 61 (by decide +kernel) (by unfold fR; omega) (fun _ => ?_) (fun hc => absurd hc (by decide))
          refine fx_la 0 66 (v := 1186) (by decide +kernel) rfl (by decide +kernel) ?_
          refine fx_lds 461 68 (by decide +kernel) ?_
          refine fx_c2 275 21 71 4 [7, 7] (by decide +kernel) (by decide) (by decide) (by decide) rfl (by first | decide | omega) ?_
          refine sp_rhas [112, 108, 97, 99, 101] (by decide +kernel) s1 (fun t2 g2 s2 => fK1 ?_) (fun t2 g2 s2 _ => fK1 ?_)
          · refine fx_zeq 78 74 (by decide +kernel) (by unfold fR; omega) (fun hc => absurd hc (by decide)) (fun _ => ?_)
            refine fx_ci (1) 75 (by decide +kernel) ?_
            refine fx_go 145 (by decide +kernel) ?_
            refine fx_si 1 146 (by decide +kernel) (Or.inr (f_n4p (v := 1186) rfl (by decide))) rfl ?_
            dsimp only [List.set]
            refine fx_li 1 147 (by decide +kernel) rfl ?_
            refine fx_ci (-1) 148 (by decide +kernel) ?_
            refine fx_ine 161 151 (by decide +kernel) (by unfold fR; omega) (by unfold fR; omega) (fun _ => ?_) (fun hc => absurd hc (by decide))
            refine fx_rg (fun hg => ?_)
            refine fx_la 0 162 (v := 1186) (by decide +kernel) rfl (by decide +kernel) ?_
            refine fx_gp 1186 148 14 1234 165 (by decide +kernel) ?_
            refine fx_li 1 166 (by decide +kernel) rfl ?_
            refine fx_al 1234 154 7 167 (by decide +kernel) rfl (by omega) (by omega) rfl ?_
            try simp only [fu_app, fcy_app, Nat.reduceEqDiff, and_true, and_false, false_and, true_and, if_true, if_false, ite_true, ite_false, reduceIte, Int.reduceToNat, fx_simp0]
            refine fx_ret (by decide +kernel) ?_
            exact fk 1 g2 (by decide) ((cif_f t1).trans (cif_t t2)) s2 (hgA hg 7 (c := 154) (by decide +kernel) (by decide))
          · refine fx_zeq 78 74 (by decide +kernel) (by unfold fR; omega) (fun _ => ?_) (fun hc => absurd hc (by decide))
            refine fx_la 0 79 (v := 1186) (by decide +kernel) rfl (by decide +kernel) ?_
            refine fx_lds 469 81 (by decide +kernel) ?_
            refine fx_c2 275 21 84 4 [7, 7] (by decide +kernel) (by decide) (by decide) (by decide) rfl (by first | decide | omega) ?_
            refine sp_rhas [100, 105, 115, 104] (by decide +kernel) s2 (fun t3 g3 s3 => fK1 ?_) (fun t3 g3 s3 _ => fK1 ?_)
            · refine fx_zeq 91 87 (by decide +kernel) (by unfold fR; omega) (fun hc => absurd hc (by decide)) (fun _ => ?_)
              refine fx_ci (2) 88 (by decide +kernel) ?_
              refine fx_go 145 (by decide +kernel) ?_
              refine fx_si 1 146 (by decide +kernel) (Or.inr (f_n4p (v := 1186) rfl (by decide))) rfl ?_
              dsimp only [List.set]
              refine fx_li 1 147 (by decide +kernel) rfl ?_
              refine fx_ci (-1) 148 (by decide +kernel) ?_
              refine fx_ine 161 151 (by decide +kernel) (by unfold fR; omega) (by unfold fR; omega) (fun _ => ?_) (fun hc => absurd hc (by decide))
              refine fx_rg (fun hg => ?_)
              refine fx_la 0 162 (v := 1186) (by decide +kernel) rfl (by decide +kernel) ?_
              refine fx_gp 1186 148 14 1234 165 (by decide +kernel) ?_
              refine fx_li 1 166 (by decide +kernel) rfl ?_
              refine fx_al 1234 154 7 167 (by decide +kernel) rfl (by omega) (by omega) rfl ?_
              try simp only [fu_app, fcy_app, Nat.reduceEqDiff, and_true, and_false, false_and, true_and, if_true, if_false, ite_true, ite_false, reduceIte, Int.reduceToNat, fx_simp0]
              refine fx_ret (by decide +kernel) ?_
              exact fk 2 g3 (by decide) ((cif_f t1).trans ((cif_f t2).trans (cif_t t3))) s3 (hgA hg 7 (c := 154) (by decide +kernel) (by decide))
            · refine fx_zeq 91 87 (by decide +kernel) (by unfold fR; omega) (fun _ => ?_) (fun hc => absurd hc (by decide))
              refine fx_la 0 92 (v := 1186) (by decide +kernel) rfl (by decide +kernel) ?_
              refine fx_lds 477 94 (by decide +kernel) ?_
              refine fx_c2 275 21 97 4 [7, 7] (by decide +kernel) (by decide) (by decide) (by decide) rfl (by first | decide | omega) ?_
              refine sp_rhas [99, 111, 108, 100] (by decide +kernel) s3 (fun t4 g4 s4 => fK1 ?_) (fun t4 g4 s4 _ => fK1 ?_)
              · refine fx_zeq 104 100 (by decide +kernel) (by unfold fR; omega) (fun hc => absurd hc (by decide)) (fun _ => ?_)
                refine fx_ci (3) 101 (by decide +kernel) ?_
                refine fx_go 145 (by decide +kernel) ?_
                refine fx_si 1 146 (by decide +kernel) (Or.inr (f_n4p (v := 1186) rfl (by decide))) rfl ?_
                dsimp only [List.set]
                refine fx_li 1 147 (by decide +kernel) rfl ?_
                refine fx_ci (-1) 148 (by decide +kernel) ?_
                refine fx_ine 161 151 (by decide +kernel) (by unfold fR; omega) (by unfold fR; omega) (fun _ => ?_) (fun hc => absurd hc (by decide))
                refine fx_rg (fun hg => ?_)
                refine fx_la 0 162 (v := 1186) (by decide +kernel) rfl (by decide +kernel) ?_
                refine fx_gp 1186 148 14 1234 165 (by decide +kernel) ?_
                refine fx_li 1 166 (by decide +kernel) rfl ?_
                refine fx_al 1234 154 7 167 (by decide +kernel) rfl (by omega) (by omega) rfl ?_
                try simp only [fu_app, fcy_app, Nat.reduceEqDiff, and_true, and_false, false_and, true_and, if_true, if_false, ite_true, ite_false, reduceIte, Int.reduceToNat, fx_simp0]
                refine fx_ret (by decide +kernel) ?_
                exact fk 3 g4 (by decide) ((cif_f t1).trans ((cif_f t2).trans ((cif_f t3).trans (cif_t t4)))) s4 (hgA hg 7 (c := 154) (by decide +kernel) (by decide))
              · refine fx_zeq 104 100 (by decide +kernel) (by unfold fR; omega) (fun _ => ?_) (fun hc => absurd hc (by decide))
                refine fx_la 0 105 (v := 1186) (by decide +kernel) rfl (by decide +kernel) ?_
                refine fx_lds 485 107 (by decide +kernel) ?_
                refine fx_c2 275 21 110 4 [7, 7] (by decide +kernel) (by decide) (by decide) (by decide) rfl (by first | decide | omega) ?_
                refine sp_rhas [118, 111, 116, 101] (by decide +kernel) s4 (fun t5 g5 s5 => fK1 ?_) (fun t5 g5 s5 _ => fK1 ?_)
                · refine fx_zeq 117 113 (by decide +kernel) (by unfold fR; omega) (fun hc => absurd hc (by decide)) (fun _ => ?_)
                  refine fx_ci (4) 114 (by decide +kernel) ?_
                  refine fx_go 145 (by decide +kernel) ?_
                  refine fx_si 1 146 (by decide +kernel) (Or.inr (f_n4p (v := 1186) rfl (by decide))) rfl ?_
                  dsimp only [List.set]
                  refine fx_li 1 147 (by decide +kernel) rfl ?_
                  refine fx_ci (-1) 148 (by decide +kernel) ?_
                  refine fx_ine 161 151 (by decide +kernel) (by unfold fR; omega) (by unfold fR; omega) (fun _ => ?_) (fun hc => absurd hc (by decide))
                  refine fx_rg (fun hg => ?_)
                  refine fx_la 0 162 (v := 1186) (by decide +kernel) rfl (by decide +kernel) ?_
                  refine fx_gp 1186 148 14 1234 165 (by decide +kernel) ?_
                  refine fx_li 1 166 (by decide +kernel) rfl ?_
                  refine fx_al 1234 154 7 167 (by decide +kernel) rfl (by omega) (by omega) rfl ?_
                  try simp only [fu_app, fcy_app, Nat.reduceEqDiff, and_true, and_false, false_and, true_and, if_true, if_false, ite_true, ite_false, reduceIte, Int.reduceToNat, fx_simp0]
                  refine fx_ret (by decide +kernel) ?_
                  exact fk 4 g5 (by decide) ((cif_f t1).trans ((cif_f t2).trans ((cif_f t3).trans ((cif_f t4).trans (cif_t t5))))) s5 (hgA hg 7 (c := 154) (by decide +kernel) (by decide))
                · refine fx_zeq 117 113 (by decide +kernel) (by unfold fR; omega) (fun _ => ?_) (fun hc => absurd hc (by decide))
                  refine fx_la 0 118 (v := 1186) (by decide +kernel) rfl (by decide +kernel) ?_
                  refine fx_lds 493 120 (by decide +kernel) ?_
                  refine fx_c2 275 21 123 4 [7, 7] (by decide +kernel) (by decide) (by decide) (by decide) rfl (by first | decide | omega) ?_
                  refine sp_rhas [119, 101, 105, 103, 104, 116] (by decide +kernel) s5 (fun t6 g6 s6 => fK1 ?_) (fun t6 g6 s6 _ => fK1 ?_)
                  · refine fx_zeq 130 126 (by decide +kernel) (by unfold fR; omega) (fun hc => absurd hc (by decide)) (fun _ => ?_)
                    refine fx_ci (5) 127 (by decide +kernel) ?_
                    refine fx_go 145 (by decide +kernel) ?_
                    refine fx_si 1 146 (by decide +kernel) (Or.inr (f_n4p (v := 1186) rfl (by decide))) rfl ?_
                    dsimp only [List.set]
                    refine fx_li 1 147 (by decide +kernel) rfl ?_
                    refine fx_ci (-1) 148 (by decide +kernel) ?_
                    refine fx_ine 161 151 (by decide +kernel) (by unfold fR; omega) (by unfold fR; omega) (fun _ => ?_) (fun hc => absurd hc (by decide))
                    refine fx_rg (fun hg => ?_)
                    refine fx_la 0 162 (v := 1186) (by decide +kernel) rfl (by decide +kernel) ?_
                    refine fx_gp 1186 148 14 1234 165 (by decide +kernel) ?_
                    refine fx_li 1 166 (by decide +kernel) rfl ?_
                    refine fx_al 1234 154 7 167 (by decide +kernel) rfl (by omega) (by omega) rfl ?_
                    try simp only [fu_app, fcy_app, Nat.reduceEqDiff, and_true, and_false, false_and, true_and, if_true, if_false, ite_true, ite_false, reduceIte, Int.reduceToNat, fx_simp0]
                    refine fx_ret (by decide +kernel) ?_
                    exact fk 5 g6 (by decide) ((cif_f t1).trans ((cif_f t2).trans ((cif_f t3).trans ((cif_f t4).trans ((cif_f t5).trans (cif_t t6)))))) s6 (hgA hg 7 (c := 154) (by decide +kernel) (by decide))
                  · refine fx_zeq 130 126 (by decide +kernel) (by unfold fR; omega) (fun _ => ?_) (fun hc => absurd hc (by decide))
                    refine fx_la 0 131 (v := 1186) (by decide +kernel) rfl (by decide +kernel) ?_
                    refine fx_lds 501 133 (by decide +kernel) ?_
                    refine fx_c2 275 21 136 4 [7, 7] (by decide +kernel) (by decide) (by decide) (by decide) rfl (by first | decide | omega) ?_
                    refine sp_rhas [110, 105, 103, 104, 116] (by decide +kernel) s6 (fun t7 g7 s7 => fK1 ?_) (fun t7 g7 s7 at7 => fK1 ?_)
                    · refine fx_zeq 144 139 (by decide +kernel) (by unfold fR; omega) (fun hc => absurd hc (by decide)) (fun _ => ?_)
                      refine fx_ci (6) 141 (by decide +kernel) ?_
                      refine fx_go 145 (by decide +kernel) ?_
                      refine fx_si 1 146 (by decide +kernel) (Or.inr (f_n4p (v := 1186) rfl (by decide))) rfl ?_
                      dsimp only [List.set]
                      refine fx_li 1 147 (by decide +kernel) rfl ?_
                      refine fx_ci (-1) 148 (by decide +kernel) ?_
                      refine fx_ine 161 151 (by decide +kernel) (by unfold fR; omega) (by unfold fR; omega) (fun _ => ?_) (fun hc => absurd hc (by decide))
                      refine fx_rg (fun hg => ?_)
                      refine fx_la 0 162 (v := 1186) (by decide +kernel) rfl (by decide +kernel) ?_
                      refine fx_gp 1186 148 14 1234 165 (by decide +kernel) ?_
                      refine fx_li 1 166 (by decide +kernel) rfl ?_
                      refine fx_al 1234 154 7 167 (by decide +kernel) rfl (by omega) (by omega) rfl ?_
                      try simp only [fu_app, fcy_app, Nat.reduceEqDiff, and_true, and_false, false_and, true_and, if_true, if_false, ite_true, ite_false, reduceIte, Int.reduceToNat, fx_simp0]
                      refine fx_ret (by decide +kernel) ?_
                      exact fk 6 g7 (by decide) ((cif_f t1).trans ((cif_f t2).trans ((cif_f t3).trans ((cif_f t4).trans ((cif_f t5).trans ((cif_f t6).trans (cif_t t7))))))) s7 (hgA hg 7 (c := 154) (by decide +kernel) (by decide))
                    · refine fx_zeq 144 139 (by decide +kernel) (by unfold fR; omega) (fun _ => ?_) (fun hc => absurd hc (by decide))
                      refine fx_cn (-1) 145 (by decide +kernel) (fun v144 c144 => ?_)
                      refine fx_si 1 146 (by decide +kernel) (Or.inr (f_n4p (v := 1186) rfl (by decide))) rfl ?_
                      dsimp only [List.set]
                      refine fx_li 1 147 (by decide +kernel) rfl ?_
                      refine fx_ci (-1) 148 (by decide +kernel) ?_
                      refine fx_ine 161 151 (by decide +kernel) (by unfold fR; omega) (by unfold fR; omega) (fun h148 => ?_) (fun h148 => ?_)
                      · exfalso; omega
                      · refine fx_la 0 152 (v := 1186) (by decide +kernel) rfl (by decide +kernel) ?_
                        refine fx_la 0 153 (v := 1186) (by decide +kernel) rfl (by decide +kernel) ?_
                        refine fx_gi 1186 148 11 156 (by decide +kernel) ?_
                        try simp only [fu_app, fcy_app, Nat.reduceEqDiff, and_true, and_false, false_and, true_and, if_true, if_false, ite_true, ite_false, reduceIte, Int.reduceToNat, fx_simp0]
                        rw [at7]
                        refine fx_c2 273 21 159 0 [] (by decide +kernel) (by decide) (by decide) (fI_n4 _) rfl (by first | decide | omega) ?_
                        refine sp_wrong s7.2.2.2.2.1 (by unfold fR; omega) (fK0 ?_)
                        refine fx_ci (0) 160 (by decide +kernel) ?_
                        refine fx_ret (by decide +kernel) ?_
                        have eP : pFact T E f = -1 := (cif_f t1).trans ((cif_f t2).trans ((cif_f t3).trans ((cif_f t4).trans ((cif_f t5).trans ((cif_f t6).trans (cif_f t7))))))
                        have nn : ¬ pN T E 0 999 f := by first | exact pN_n (fun u => by omega) ok2 | exact pN_n (fun u => t u.2) ok2
                        exact k2 _ _ (by unfold pPart; rw [cif_t eP, cif_f nn]) ⟨fu_eq _ _ _ _, ok1, s7.2.2.2.2.2.2.f, by rw [fu_nj (by decide), at7]; exact ok1, by rw [fu_nj (by decide), at7]; omega, by rw [fu_nj (by decide)]; exact s7.2.2.2.2.2.1⟩ (by unfold fR; omega)
  · refine fx_ci (0) 9 (by decide +kernel) ?_
    refine fx_ret (by decide +kernel) ?_
    exfalso; omega
end G5G
