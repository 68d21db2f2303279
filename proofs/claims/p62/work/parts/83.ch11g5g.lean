/-! joined: 83.ch11g5g 83.ch12g5h 83.ch13g5i 83.ch14g5j -/
section
/-! fx: the reference reads the law: what steps say, parts, sums -/
noncomputable def jnS (s a b : Int) : Int := if s = 2000 then fop 0 a b else if s = 2001 then (if a < b then 1 else 0) else if s = 2002 then (if b < a then 1 else 0) else if s = 2004 then fop 3 a b else fop 4 a b
noncomputable def stpS (F : Nat → Int) (s : Int) (st : List Int) : List Int := if s < 1000 then s :: st else if s < 2000 then F (s - 1000).toNat :: st else if s = 2003 then (1 - st.getD 0 0) :: st.drop 1 else jnS s (st.getD 1 0) (st.getD 0 0) :: st.drop 2
/-- what lies on the stack behind the steps c -/
noncomputable def evS (F : Nat → Int) (c : List Int) : List Int := c.foldl (fun st s => stpS F s st) []
theorem evS_1 (F : Nat → Int) (c : List Int) (s : Int) : evS F (c ++ [s]) = stpS F s (evS F c) := by
  unfold evS
  rw [List.foldl_append]
  rfl
theorem evS_2 (F : Nat → Int) (c : List Int) (s t : Int) : evS F (c ++ [s, t]) = stpS F t (stpS F s (evS F c)) := by
  unfold evS
  rw [List.foldl_append]
  rfl
/-- what a step of a part says -/
def vS (F : Nat → Int) (s : Int) : Int := if s < 1000 then s else F (s - 1000).toNat
theorem stp_v {F : Nat → Int} {s : Int} (st : List Int) (h : s ≤ 1999) : stpS F s st = vS F s :: st := by
  unfold stpS vS
  by_cases q : s < 1000
  · rw [if_pos q, if_pos q]
  · rw [if_neg q, if_neg q, if_pos (by omega)]
/-- the facts that the reference keeps -/
def fF (g : Nat → Nat → Int) (k : Nat) : Int := if k ≤ 6 then g 154 k else if k = 7 then g 148 15 else g 148 16
def rX (g0 g : Nat → Nat → Int) : Prop := ∀ c j, ¬ (c = 148 ∧ (j = 11 ∨ j = 12 ∨ j = 13)) → g c j = g0 c j
theorem rX.rf {g : Nat → Nat → Int} : rX g g := fun _ _ _ => rfl
theorem rX.tr {g g1 g2 : Nat → Nat → Int} (h : rX g g1) (h2 : rX g1 g2) : rX g g2 := fun c j a => by rw [h2 c j a, h c j a]
theorem rX.a {g0 g : Nat → Nat → Int} {z : Int} (h : rX g0 g) : rX g0 (fu g 148 11 z) := fun c j a => by rw [fu_ne (fun t => a ⟨t.1, Or.inl t.2⟩)]; exact h c j a
theorem rX.f {g0 g : Nat → Nat → Int} {z : Int} (h : rX g0 g) : rX g0 (fu g 148 12 z) := fun c j a => by rw [fu_ne (fun t => a ⟨t.1, Or.inr (Or.inl t.2)⟩)]; exact h c j a
theorem rX.d {g0 g : Nat → Nat → Int} {z : Int} (h : rX g0 g) : rX g0 (fu g 148 13 z) := fun c j a => by rw [fu_ne (fun t => a ⟨t.1, Or.inr (Or.inr t.2)⟩)]; exact h c j a
theorem rX.F {g0 g : Nat → Nat → Int} (h : rX g0 g) : fF g = fF g0 := by
  funext k
  unfold fF
  rw [h 154 k (fun t => absurd t.1 (by decide)), h 148 15 (by decide), h 148 16 (by decide)]
/-- the reference stands ahead of f, dp deep -/
def rwS (T : Int → Int) (E : Int) (g0 g : Nat → Nat → Int) (f dp : Int) : Prop := RT T E g ∧ 0 ≤ g 148 11 ∧ g 148 11 ≤ E ∧ pSk T E (g 148 11) = f ∧ g 148 12 = -1 ∧ g 148 13 = dp ∧ rX g0 g
/-- a wrong byte is told -/
def rwF (g0 g : Nat → Nat → Int) (q B dp : Int) : Prop := g 148 12 = q ∧ 0 ≤ q ∧ rX g0 g ∧ 0 ≤ g 148 11 ∧ g 148 11 ≤ B ∧ g 148 13 = dp
theorem rwS.ok {T : Int → Int} {E f dp : Int} {g0 g : Nat → Nat → Int} (h : rwS T E g0 g f dp) : pOk T E f := by
  obtain ⟨-, h1, h2, h3, -⟩ := h
  rw [← h3]
  exact pOk_sk h1 h2
theorem rwS.to {T : Int → Int} {E f dp a : Int} {g0 g : Nat → Nat → Int} (h : rwS T E g0 g f dp) (a0 : 0 ≤ a) (aE : a ≤ E) : rwS T E g0 (fu g 148 11 a) (pSk T E a) dp := by
  obtain ⟨h0, h1, h2, h3, h4, h5, h6⟩ := h
  refine ⟨RT_fu h0 (by decide) (by decide), by rw [fu_eq]; exact a0, by rw [fu_eq]; exact aE, by rw [fu_eq], by rw [fu_nj (by decide)]; exact h4, by rw [fu_nj (by decide)]; exact h5, h6.a⟩
theorem rwS.id {T : Int → Int} {E f dp : Int} {g0 g : Nat → Nat → Int} (h : rwS T E g0 g f dp) : rwS T E g0 (fu g 148 11 f) f dp := by
  have ok := h.ok
  have t := h.to (a := f) ok.1 ok.2.1
  rw [ok.2.2] at t
  exact t
section G5G
variable {W : ax_W} {r : Nat} {g g0 : Nat → Nat → Int} {Q : Nat → Nat → (Nat → Nat → Int) → Prop} {T : Int → Int} {E f dp : Int} {c : List Int}
theorem sp_rhas {s : Nat} (ws : List Nat) (hw : f_swb s ws = true) (h : rwS T E g0 g f dp) (k1 : pWd T E ws f → ∀ g', rwS T E g0 g' (pSk T E (pWe T E f)) dp → Q 1 (fI 1) g') (k2 : ¬ pWd T E ws f → ∀ g', rwS T E g0 g' f dp → g' 148 11 = f → Q 1 (fI 0) g') : fx W r 4 274 0 [1186, s, 7, 7] [] g Q := by
  have ok := h.ok
  have w1 := pWe_ge T E f
  have ok1 := ok.1
  exact sp_hasW ws hw h.1 h.2.1 h.2.2.1 h.2.2.2.1 (fun t => k1 t _ (h.to (by omega) (pWe_le ok.2.1))) (fun t => k2 t _ h.id (fu_eq _ _ _ _))
theorem sp_rsign {z : Int} (h : rwS T E g0 g f dp) (hz : fR z) (k1 : pSg T E z f → ∀ g', rwS T E g0 g' f dp → g' 148 11 = f → Q 1 (fI 1) g') (k2 : ¬ pSg T E z f → ∀ g', rwS T E g0 g' f dp → g' 148 11 = f → Q 1 (fI 0) g') : fx W r 2 280 0 [1186, fI z] [] g Q := by
  have e := h.2.2.2.1
  refine sp_isSign h.1 h.2.1 h.2.2.1 hz (fun t => ?_) (fun t => ?_)
  · rw [e] at t ⊢
    exact k1 t _ h.id (fu_eq _ _ _ _)
  · rw [e] at t ⊢
    exact k2 t _ h.id (fu_eq _ _ _ _)
theorem pFact_d {T : Int → Int} {E f : Int} (hE : f ≤ E) (hd : 48 ≤ T f ∧ T f ≤ 57) : pFact T E f = -1 := by
  have n : ∀ (ws : List Nat), 0 < ws.length → ¬ pWd T E ws f := fun ws hn t => by
    have h1 := pWd_lt hn t
    have h2 : pWe T E f = f := prun_no (isLe_f (by omega))
    omega
  unfold pFact
  rw [cif_f (n _ (by decide)), cif_f (n _ (by decide)), cif_f (n _ (by decide)), cif_f (n _ (by decide)), cif_f (n _ (by decide)), cif_f (n _ (by decide)), cif_f (n _ (by decide))]
theorem pN_n {lo hi : Int} (h : ¬ (f < E ∧ 48 ≤ T f ∧ T f ≤ 57)) (hE : f ≤ E) : ¬ pN T E lo hi f := fun t => by
  have h1 := t.1
  by_cases e : f < E
  · have h2 : pDg T E f = f := prun_no (isDi_f (fun u => h ⟨e, u⟩))
    omega
  · have h2 := pDg_le (T := T) hE
    omega
theorem sp_mpart (h : rwS T E g0 g f dp) (k1 : ∀ f1 s g', pPart T E f = Sum.inr (f1, s) → rwS T E g0 g' f1 dp → fR (vS (fF g0) s) → Q 1 (fI (vS (fF g0) s)) g') (k2 : ∀ v g', pPart T E f = Sum.inl f → rwF g0 g' f 400 dp → fR v → Q 1 (fI v) g') : fx W r 5 283 0 [1186, 7] [] g Q := by
  have ok := h.ok
  have ok1 := ok.1
  have ok2 := ok.2.1
  have hE := h.1.2.2.1
  have eE := h.1.1
  have hf := h.2.2.2.2.1
  have h1 := h.id
  have e := h.2.2.2.1
  have hX := h.2.2.2.2.2.2
  -- a word told the fact k
  have fk : ∀ (k : Nat) (g' : Nat → Nat → Int), k ≤ 6 → pFact T E f = 1000 + (k : Int) → rwS T E g0 g' (pSk T E (pWe T E f)) dp → fR (g' 154 k) → Q 1 (fI (g' 154 k)) g' := fun k g' hk ep hS hr => by
    have ev : vS (fF g0) (1000 + (k : Int)) = g' 154 k := by
      unfold vS fF
      rw [if_neg (by omega), show (1000 + (k : Int) - 1000).toNat = k by omega, if_pos hk, hS.2.2.2.2.2.2 154 k (fun t => absurd t.1 (by decide))]
    rw [← ev] at hr ⊢
    exact k1 _ _ g' (by unfold pPart; rw [cif_f (by omega), ep]) hS hr
  refine fx_la 0 1 (v := 1186) (by decide +kernel) rfl (by decide +kernel) ?_
  refine fx_gi 1186 148 12 4 (by decide +kernel) ?_
  refine fx_cn (-1) 5 (by decide +kernel) (fun v4 c4 => ?_)
  refine fx_ieq 10 8 (by decide +kernel) (by first | exact hg 148 12 (by decide) (by decide +kernel) (by decide +kernel) | (unfold fR; omega)) (by unfold fR; omega) (fun h5 => ?_) (fun h5 => ?_)
  · refine fx_la 0 11 (v := 1186) (by decide +kernel) rfl (by decide +kernel) ?_
    refine fx_c1 270 21 14 1 [] (by decide +kernel) (by decide) rfl (by first | decide | omega) ?_
    refine sp_skip h.1 h.2.1 (fK0 ?_)
    rw [e]
    refine fx_la 0 15 (v := 1186) (by decide +kernel) rfl (by decide +kernel) ?_
    refine fx_gi 1186 148 11 18 (by decide +kernel) ?_
    try simp only [fu_app, fcy_app, Nat.reduceEqDiff, and_true, and_false, false_and, true_and, if_true, if_false, ite_true, ite_false, reduceIte, Int.reduceToNat, fx_simp0]
    refine fx_la 0 19 (v := 1186) (by decide +kernel) rfl (by decide +kernel) ?_
    refine fx_gi 1186 148 10 22 (by decide +kernel) ?_
    try simp only [fu_app, fcy_app, Nat.reduceEqDiff, and_true, and_false, false_and, true_and, if_true, if_false, ite_true, ite_false, reduceIte, Int.reduceToNat, fx_simp0]
    refine fx_ige 52 25 (by decide +kernel) (by unfold fR; omega) (by unfold fR; omega) (fun h22 => ?_) (fun h22 => ?_)
    · refine fx_la 0 53 (v := 1186) (by decide +kernel) rfl (by decide +kernel) ?_
      refine fx_lds 453 55 (by decide +kernel) ?_
      refine fx_c2 274 21 58 4 [7, 7] (by decide +kernel) (by decide) (by decide) (by decide) rfl (by first | decide | omega) ?_
      refine sp_rhas [112, 101, 114, 115, 111, 110] (by decide +kernel) h1 (fun t1 g1 s1 => fK1 ?_) (fun t1 g1 s1 _ => fK1 ?_)
      · refine fx_zeq 65 61 (by decide +kernel) (by unfold fR; omega) (fun hc => absurd hc (by decide)) (fun _ => ?_)
        refine fx_ci (0) 62 (by decide +kernel) ?_
        refine fx_go 145 (by decide +kernel) ?_
        refine fx_si 1 146 (by decide +kernel) (Or.inr (f_n4p (v := 1186) rfl (by decide))) rfl ?_
        dsimp only [List.set]
        refine fx_li 1 147 (by decide +kernel) rfl ?_
        refine fx_ci (-1) 148 (by decide +kernel) ?_
        refine fx_ine 161 151 (by decide +kernel) (by unfold fR; omega) (by unfold fR; omega) (fun _ => ?_) (fun hc => absurd hc (by decide))
        refine fx_rg (fun hg => ?_)
        refine fx_la 0 162 (v := 1186) (by decide +kernel) rfl (by decide +kernel) ?_
        refine fx_gp 1186 148 14 1234 165 (by decide +kernel) ?_
        refine fx_li 1 166 (by decide +kernel) rfl ?_
        refine fx_al 1234 154 7 167 (by decide +kernel) rfl (by omega) (by omega) rfl ?_
        try simp only [fu_app, fcy_app, Nat.reduceEqDiff, and_true, and_false, false_and, true_and, if_true, if_false, ite_true, ite_false, reduceIte, Int.reduceToNat, fx_simp0]
        refine fx_ret (by decide +kernel) ?_
        exact fk 0 g1 (by decide) (cif_t t1) s1 (hgA hg 7 (c := 154) (by decide +kernel) (by decide))
      · refine fx_zeq 65 61 (by decide +kernel) (by unfold fR; omega) (fun _ => ?_) (fun hc => absurd hc (by decide))
        refine fx_la 0 66 (v := 1186) (by decide +kernel) rfl (by decide +kernel) ?_
        refine fx_lds 461 68 (by decide +kernel) ?_
        refine fx_c2 274 21 71 4 [7, 7] (by decide +kernel) (by decide) (by decide) (by decide) rfl (by first | decide | omega) ?_
        refine sp_rhas [112, 108, 97, 99, 101] (by decide +kernel) s1 (fun t2 g2 s2 => fK1 ?_) (fun t2 g2 s2 _ => fK1 ?_)
        · refine fx_zeq 78 74 (by decide +kernel) (by unfold fR; omega) (fun hc => absurd hc (by decide)) (fun _ => ?_)
          refine fx_ci (1) 75 (by decide +kernel) ?_
          refine fx_go 145 (by decide +kernel) ?_
          refine fx_si 1 146 (by decide +kernel) (Or.inr (f_n4p (v := 1186) rfl (by decide))) rfl ?_
          dsimp only [List.set]
          refine fx_li 1 147 (by decide +kernel) rfl ?_
          refine fx_ci (-1) 148 (by decide +kernel) ?_
          refine fx_ine 161 151 (by decide +kernel) (by unfold fR; omega) (by unfold fR; omega) (fun _ => ?_) (fun hc => absurd hc (by decide))
          refine fx_rg (fun hg => ?_)
          refine fx_la 0 162 (v := 1186) (by decide +kernel) rfl (by decide +kernel) ?_
          refine fx_gp 1186 148 14 1234 165 (by decide +kernel) ?_
          refine fx_li 1 166 (by decide +kernel) rfl ?_
          refine fx_al 1234 154 7 167 (by decide +kernel) rfl (by omega) (by omega) rfl ?_
          try simp only [fu_app, fcy_app, Nat.reduceEqDiff, and_true, and_false, false_and, true_and, if_true, if_false, ite_true, ite_false, reduceIte, Int.reduceToNat, fx_simp0]
          refine fx_ret (by decide +kernel) ?_
          exact fk 1 g2 (by decide) ((cif_f t1).trans (cif_t t2)) s2 (hgA hg 7 (c := 154) (by decide +kernel) (by decide))
        · refine fx_zeq 78 74 (by decide +kernel) (by unfold fR; omega) (fun _ => ?_) (fun hc => absurd hc (by decide))
          refine fx_la 0 79 (v := 1186) (by decide +kernel) rfl (by decide +kernel) ?_
          refine fx_lds 469 81 (by decide +kernel) ?_
          refine fx_c2 274 21 84 4 [7, 7] (by decide +kernel) (by decide) (by decide) (by decide) rfl (by first | decide | omega) ?_
          refine sp_rhas [100, 105, 115, 104] (by decide +kernel) s2 (fun t3 g3 s3 => fK1 ?_) (fun t3 g3 s3 _ => fK1 ?_)
          · refine fx_zeq 91 87 (by decide +kernel) (by unfold fR; omega) (fun hc => absurd hc (by decide)) (fun _ => ?_)
            refine fx_ci (2) 88 (by decide +kernel) ?_
            refine fx_go 145 (by decide +kernel) ?_
            refine fx_si 1 146 (by decide +kernel) (Or.inr (f_n4p (v := 1186) rfl (by decide))) rfl ?_
            dsimp only [List.set]
            refine fx_li 1 147 (by decide +kernel) rfl ?_
            refine fx_ci (-1) 148 (by decide +kernel) ?_
            refine fx_ine 161 151 (by decide +kernel) (by unfold fR; omega) (by unfold fR; omega) (fun _ => ?_) (fun hc => absurd hc (by decide))
            refine fx_rg (fun hg => ?_)
            refine fx_la 0 162 (v := 1186) (by decide +kernel) rfl (by decide +kernel) ?_
            refine fx_gp 1186 148 14 1234 165 (by decide +kernel) ?_
            refine fx_li 1 166 (by decide +kernel) rfl ?_
            refine fx_al 1234 154 7 167 (by decide +kernel) rfl (by omega) (by omega) rfl ?_
            try simp only [fu_app, fcy_app, Nat.reduceEqDiff, and_true, and_false, false_and, true_and, if_true, if_false, ite_true, ite_false, reduceIte, Int.reduceToNat, fx_simp0]
            refine fx_ret (by decide +kernel) ?_
            exact fk 2 g3 (by decide) ((cif_f t1).trans ((cif_f t2).trans (cif_t t3))) s3 (hgA hg 7 (c := 154) (by decide +kernel) (by decide))
          · refine fx_zeq 91 87 (by decide +kernel) (by unfold fR; omega) (fun _ => ?_) (fun hc => absurd hc (by decide))
            refine fx_la 0 92 (v := 1186) (by decide +kernel) rfl (by decide +kernel) ?_
            refine fx_lds 477 94 (by decide +kernel) ?_
            refine fx_c2 274 21 97 4 [7, 7] (by decide +kernel) (by decide) (by decide) (by decide) rfl (by first | decide | omega) ?_
            refine sp_rhas [99, 111, 108, 100] (by decide +kernel) s3 (fun t4 g4 s4 => fK1 ?_) (fun t4 g4 s4 _ => fK1 ?_)
            · refine fx_zeq 104 100 (by decide +kernel) (by unfold fR; omega) (fun hc => absurd hc (by decide)) (fun _ => ?_)
              refine fx_ci (3) 101 (by decide +kernel) ?_
              refine fx_go 145 (by decide +kernel) ?_
              refine fx_si 1 146 (by decide +kernel) (Or.inr (f_n4p (v := 1186) rfl (by decide))) rfl ?_
              dsimp only [List.set]
              refine fx_li 1 147 (by decide +kernel) rfl ?_
              refine fx_ci (-1) 148 (by decide +kernel) ?_
              refine fx_ine 161 151 (by decide +kernel) (by unfold fR; omega) (by unfold fR; omega) (fun _ => ?_) (fun hc => absurd hc (by decide))
              refine fx_rg (fun hg => ?_)
              refine fx_la 0 162 (v := 1186) (by decide +kernel) rfl (by decide +kernel) ?_
              refine fx_gp 1186 148 14 1234 165 (by decide +kernel) ?_
              refine fx_li 1 166 (by decide +kernel) rfl ?_
              refine fx_al 1234 154 7 167 (by decide +kernel) rfl (by omega) (by omega) rfl ?_
              try simp only [fu_app, fcy_app, Nat.reduceEqDiff, and_true, and_false, false_and, true_and, if_true, if_false, ite_true, ite_false, reduceIte, Int.reduceToNat, fx_simp0]
              refine fx_ret (by decide +kernel) ?_
              exact fk 3 g4 (by decide) ((cif_f t1).trans ((cif_f t2).trans ((cif_f t3).trans (cif_t t4)))) s4 (hgA hg 7 (c := 154) (by decide +kernel) (by decide))
            · refine fx_zeq 104 100 (by decide +kernel) (by unfold fR; omega) (fun _ => ?_) (fun hc => absurd hc (by decide))
              refine fx_la 0 105 (v := 1186) (by decide +kernel) rfl (by decide +kernel) ?_
              refine fx_lds 485 107 (by decide +kernel) ?_
              refine fx_c2 274 21 110 4 [7, 7] (by decide +kernel) (by decide) (by decide) (by decide) rfl (by first | decide | omega) ?_
              refine sp_rhas [118, 111, 116, 101] (by decide +kernel) s4 (fun t5 g5 s5 => fK1 ?_) (fun t5 g5 s5 _ => fK1 ?_)
              · refine fx_zeq 117 113 (by decide +kernel) (by unfold fR; omega) (fun hc => absurd hc (by decide)) (fun _ => ?_)
                refine fx_ci (4) 114 (by decide +kernel) ?_
                refine fx_go 145 (by decide +kernel) ?_
                refine fx_si 1 146 (by decide +kernel) (Or.inr (f_n4p (v := 1186) rfl (by decide))) rfl ?_
                dsimp only [List.set]
                refine fx_li 1 147 (by decide +kernel) rfl ?_
                refine fx_ci (-1) 148 (by decide +kernel) ?_
                refine fx_ine 161 151 (by decide +kernel) (by unfold fR; omega) (by unfold fR; omega) (fun _ => ?_) (fun hc => absurd hc (by decide))
                refine fx_rg (fun hg => ?_)
                refine fx_la 0 162 (v := 1186) (by decide +kernel) rfl (by decide +kernel) ?_
                refine fx_gp 1186 148 14 1234 165 (by decide +kernel) ?_
                refine fx_li 1 166 (by decide +kernel) rfl ?_
                refine fx_al 1234 154 7 167 (by decide +kernel) rfl (by omega) (by omega) rfl ?_
                try simp only [fu_app, fcy_app, Nat.reduceEqDiff, and_true, and_false, false_and, true_and, if_true, if_false, ite_true, ite_false, reduceIte, Int.reduceToNat, fx_simp0]
                refine fx_ret (by decide +kernel) ?_
                exact fk 4 g5 (by decide) ((cif_f t1).trans ((cif_f t2).trans ((cif_f t3).trans ((cif_f t4).trans (cif_t t5))))) s5 (hgA hg 7 (c := 154) (by decide +kernel) (by decide))
              · refine fx_zeq 117 113 (by decide +kernel) (by unfold fR; omega) (fun _ => ?_) (fun hc => absurd hc (by decide))
                refine fx_la 0 118 (v := 1186) (by decide +kernel) rfl (by decide +kernel) ?_
                refine fx_lds 493 120 (by decide +kernel) ?_
                refine fx_c2 274 21 123 4 [7, 7] (by decide +kernel) (by decide) (by decide) (by decide) rfl (by first | decide | omega) ?_
                refine sp_rhas [119, 101, 105, 103, 104, 116] (by decide +kernel) s5 (fun t6 g6 s6 => fK1 ?_) (fun t6 g6 s6 _ => fK1 ?_)
                · refine fx_zeq 130 126 (by decide +kernel) (by unfold fR; omega) (fun hc => absurd hc (by decide)) (fun _ => ?_)
                  refine fx_ci (5) 127 (by decide +kernel) ?_
                  refine fx_go 145 (by decide +kernel) ?_
                  refine fx_si 1 146 (by decide +kernel) (Or.inr (f_n4p (v := 1186) rfl (by decide))) rfl ?_
                  dsimp only [List.set]
                  refine fx_li 1 147 (by decide +kernel) rfl ?_
                  refine fx_ci (-1) 148 (by decide +kernel) ?_
                  refine fx_ine 161 151 (by decide +kernel) (by unfold fR; omega) (by unfold fR; omega) (fun _ => ?_) (fun hc => absurd hc (by decide))
                  refine fx_rg (fun hg => ?_)
                  refine fx_la 0 162 (v := 1186) (by decide +kernel) rfl (by decide +kernel) ?_
                  refine fx_gp 1186 148 14 1234 165 (by decide +kernel) ?_
                  refine fx_li 1 166 (by decide +kernel) rfl ?_
                  refine fx_al 1234 154 7 167 (by decide +kernel) rfl (by omega) (by omega) rfl ?_
                  try simp only [fu_app, fcy_app, Nat.reduceEqDiff, and_true, and_false, false_and, true_and, if_true, if_false, ite_true, ite_false, reduceIte, Int.reduceToNat, fx_simp0]
                  refine fx_ret (by decide +kernel) ?_
                  exact fk 5 g6 (by decide) ((cif_f t1).trans ((cif_f t2).trans ((cif_f t3).trans ((cif_f t4).trans ((cif_f t5).trans (cif_t t6)))))) s6 (hgA hg 7 (c := 154) (by decide +kernel) (by decide))
                · refine fx_zeq 130 126 (by decide +kernel) (by unfold fR; omega) (fun _ => ?_) (fun hc => absurd hc (by decide))
                  refine fx_la 0 131 (v := 1186) (by decide +kernel) rfl (by decide +kernel) ?_
                  refine fx_lds 501 133 (by decide +kernel) ?_
                  refine fx_c2 274 21 136 4 [7, 7] (by decide +kernel) (by decide) (by decide) (by decide) rfl (by first | decide | omega) ?_
                  refine sp_rhas [110, 105, 103, 104, 116] (by decide +kernel) s6 (fun t7 g7 s7 => fK1 ?_) (fun t7 g7 s7 at7 => fK1 ?_)
                  · refine fx_zeq 144 139 (by decide +kernel) (by unfold fR; omega) (fun hc => absurd hc (by decide)) (fun _ => ?_)
                    refine fx_ci (6) 141 (by decide +kernel) ?_
                    refine fx_go 145 (by decide +kernel) ?_
                    refine fx_si 1 146 (by decide +kernel) (Or.inr (f_n4p (v := 1186) rfl (by decide))) rfl ?_
                    dsimp only [List.set]
                    refine fx_li 1 147 (by decide +kernel) rfl ?_
                    refine fx_ci (-1) 148 (by decide +kernel) ?_
                    refine fx_ine 161 151 (by decide +kernel) (by unfold fR; omega) (by unfold fR; omega) (fun _ => ?_) (fun hc => absurd hc (by decide))
                    refine fx_rg (fun hg => ?_)
                    refine fx_la 0 162 (v := 1186) (by decide +kernel) rfl (by decide +kernel) ?_
                    refine fx_gp 1186 148 14 1234 165 (by decide +kernel) ?_
                    refine fx_li 1 166 (by decide +kernel) rfl ?_
                    refine fx_al 1234 154 7 167 (by decide +kernel) rfl (by omega) (by omega) rfl ?_
                    try simp only [fu_app, fcy_app, Nat.reduceEqDiff, and_true, and_false, false_and, true_and, if_true, if_false, ite_true, ite_false, reduceIte, Int.reduceToNat, fx_simp0]
                    refine fx_ret (by decide +kernel) ?_
                    exact fk 6 g7 (by decide) ((cif_f t1).trans ((cif_f t2).trans ((cif_f t3).trans ((cif_f t4).trans ((cif_f t5).trans ((cif_f t6).trans (cif_t t7))))))) s7 (hgA hg 7 (c := 154) (by decide +kernel) (by decide))
                  · refine fx_zeq 144 139 (by decide +kernel) (by unfold fR; omega) (fun _ => ?_) (fun hc => absurd hc (by decide))
                    refine fx_cn (-1) 145 (by decide +kernel) (fun v144 c144 => ?_)
                    refine fx_si 1 146 (by decide +kernel) (Or.inr (f_n4p (v := 1186) rfl (by decide))) rfl ?_
                    dsimp only [List.set]
                    refine fx_li 1 147 (by decide +kernel) rfl ?_
                    refine fx_ci (-1) 148 (by decide +kernel) ?_
                    refine fx_ine 161 151 (by decide +kernel) (by unfold fR; omega) (by unfold fR; omega) (fun h148 => ?_) (fun h148 => ?_)
                    · exfalso; omega
                    · refine fx_la 0 152 (v := 1186) (by decide +kernel) rfl (by decide +kernel) ?_
                      refine fx_la 0 153 (v := 1186) (by decide +kernel) rfl (by decide +kernel) ?_
                      refine fx_gi 1186 148 11 156 (by decide +kernel) ?_
                      try simp only [fu_app, fcy_app, Nat.reduceEqDiff, and_true, and_false, false_and, true_and, if_true, if_false, ite_true, ite_false, reduceIte, Int.reduceToNat, fx_simp0]
                      rw [at7]
                      refine fx_c2 272 21 159 0 [] (by decide +kernel) (by decide) (by decide) (fI_n4 _) rfl (by first | decide | omega) ?_
                      refine sp_wrong s7.2.2.2.2.1 (by unfold fR; omega) (fK0 ?_)
                      refine fx_ci (0) 160 (by decide +kernel) ?_
                      refine fx_ret (by decide +kernel) ?_
                      have eP : pFact T E f = -1 := (cif_f t1).trans ((cif_f t2).trans ((cif_f t3).trans ((cif_f t4).trans ((cif_f t5).trans ((cif_f t6).trans (cif_f t7))))))
                      have nn : ¬ pN T E 0 999 f := by first | exact pN_n (fun u => by omega) ok2 | exact pN_n (fun u => t u.2) ok2
                      exact k2 _ _ (by unfold pPart; rw [cif_t eP, cif_f nn]) ⟨fu_eq _ _ _ _, ok1, s7.2.2.2.2.2.2.f, by rw [fu_nj (by decide), at7]; exact ok1, by rw [fu_nj (by decide), at7]; omega, by rw [fu_nj (by decide)]; exact s7.2.2.2.2.2.1⟩ (by unfold fR; omega)
    · refine fx_la 0 26 (v := 1186) (by decide +kernel) rfl (by decide +kernel) ?_
      refine fx_la 0 27 (v := 1186) (by decide +kernel) rfl (by decide +kernel) ?_
      refine fx_gi 1186 148 11 30 (by decide +kernel) ?_
      try simp only [fu_app, fcy_app, Nat.reduceEqDiff, and_true, and_false, false_and, true_and, if_true, if_false, ite_true, ite_false, reduceIte, Int.reduceToNat, fx_simp0]
      refine fx_c2 271 21 33 0 [] (by decide +kernel) (by decide) (by decide) (fI_n4 _) rfl (by first | decide | omega) ?_
      refine sp_letterT h1.1 ok1 (by omega) (fK1 ?_)
      refine fx_ci (48) 35 (by decide +kernel) ?_
      refine fx_ci (57) 37 (by decide +kernel) ?_
      refine fx_c3 265 22 40 0 [] (f_q22 (by decide +kernel)) (by decide) (fI_n4 _) (fI_n4 _) (fI_n4 _) rfl (by first | decide | omega) ?_
      refine sp_isIn (by have := RT_t h.1 ok1 (by omega); unfold fR; omega) (by unfold fR; omega) (by unfold fR; omega) (fun t => fK1 ?_) (fun t => fK1 ?_)
      · refine fx_zeq 52 43 (by decide +kernel) (by unfold fR; omega) (fun hc => absurd hc (by decide)) (fun _ => ?_)
        refine fx_la 0 44 (v := 1186) (by decide +kernel) rfl (by decide +kernel) ?_
        refine fx_ci (0) 45 (by decide +kernel) ?_
        refine fx_ci (999) 48 (by decide +kernel) ?_
        refine fx_c3 275 21 51 3 [7, 7] (by decide +kernel) (by decide) (by decide) (fI_n4 _) (fI_n4 _) rfl (by first | decide | omega) ?_
        have eP := pFact_d ok2 t
        refine sp_figures h1.1 (by rw [fu_nj (by decide)]; exact hf) (by rw [fu_eq]; exact ok1) (by rw [fu_eq]; exact ok2) (by unfold fR; omega) (by unfold fR; omega) (fun n => fK1 ?_) (fun n a v a0 aE rv => fK1 ?_)
        all_goals rw [fu_eq, ok.2.2] at n ⊢
        · refine fx_ret (by decide +kernel) ?_
          have w1 := pDg_ge T E f
          have vb : vS (fF g0) (pNu T E f) = pNu T E f := if_pos (by have := n.2.2.2; show nv T f _ < 1000; omega)
          have kk := k1 _ _ (fu (fu g 148 11 f) 148 11 (pDg T E f)) (show pPart T E f = Sum.inr (pSk T E (pDg T E f), pNu T E f) by unfold pPart; rw [cif_t eP, cif_t n]) (h1.to (by omega) (pDg_le ok2)) (by rw [vb]; have n3 := n.2.2.1; have n4 := n.2.2.2; unfold fR; show -2147483648 ≤ nv T f _ ∧ nv T f _ < 2147483648; omega)
          rw [vb] at kk
          exact kk
        · refine fx_ret (by decide +kernel) ?_
          exact k2 _ _ (by unfold pPart; rw [cif_t eP, cif_f n]) ⟨fu_eq _ _ _ _, ok1, (h1.2.2.2.2.2.2.a).f, by rw [fu_nj (by decide), fu_eq]; exact a0, by rw [fu_nj (by decide), fu_eq]; omega, by rw [fu_nj (by decide), fu_nj (by decide), fu_nj (by decide)]; exact h.2.2.2.2.2.1⟩ rv
      · refine fx_zeq 52 43 (by decide +kernel) (by unfold fR; omega) (fun _ => ?_) (fun hc => absurd hc (by decide))
        refine fx_la 0 53 (v := 1186) (by decide +kernel) rfl (by decide +kernel) ?_
        refine fx_lds 453 55 (by decide +kernel) ?_
        refine fx_c2 274 21 58 4 [7, 7] (by decide +kernel) (by decide) (by decide) (by decide) rfl (by first | decide | omega) ?_
        refine sp_rhas [112, 101, 114, 115, 111, 110] (by decide +kernel) h1 (fun t1 g1 s1 => fK1 ?_) (fun t1 g1 s1 _ => fK1 ?_)
        · refine fx_zeq 65 61 (by decide +kernel) (by unfold fR; omega) (fun hc => absurd hc (by decide)) (fun _ => ?_)
          refine fx_ci (0) 62 (by decide +kernel) ?_
          refine fx_go 145 (by decide +kernel) ?_
          refine fx_si 1 146 (by decide +kernel) (Or.inr (f_n4p (v := 1186) rfl (by decide))) rfl ?_
          dsimp only [List.set]
          refine fx_li 1 147 (by decide +kernel) rfl ?_
          refine fx_ci (-1) 148 (by decide +kernel) ?_
          refine fx_ine 161 151 (by decide +kernel) (by unfold fR; omega) (by unfold fR; omega) (fun _ => ?_) (fun hc => absurd hc (by decide))
          refine fx_rg (fun hg => ?_)
          refine fx_la 0 162 (v := 1186) (by decide +kernel) rfl (by decide +kernel) ?_
          refine fx_gp 1186 148 14 1234 165 (by decide +kernel) ?_
          refine fx_li 1 166 (by decide +kernel) rfl ?_
          refine fx_al 1234 154 7 167 (by decide +kernel) rfl (by omega) (by omega) rfl ?_
          try simp only [fu_app, fcy_app, Nat.reduceEqDiff, and_true, and_false, false_and, true_and, if_true, if_false, ite_true, ite_false, reduceIte, Int.reduceToNat, fx_simp0]
          refine fx_ret (by decide +kernel) ?_
          exact fk 0 g1 (by decide) (cif_t t1) s1 (hgA hg 7 (c := 154) (by decide +kernel) (by decide))
        · refine fx_zeq 65 61 (by decide +kernel) (by unfold fR; omega) (fun _ => ?_) (fun hc => absurd hc (by decide))
          refine fx_la 0 66 (v := 1186) (by decide +kernel) rfl (by decide +kernel) ?_
          refine fx_lds 461 68 (by decide +kernel) ?_
          refine fx_c2 274 21 71 4 [7, 7] (by decide +kernel) (by decide) (by decide) (by decide) rfl (by first | decide | omega) ?_
          refine sp_rhas [112, 108, 97, 99, 101] (by decide +kernel) s1 (fun t2 g2 s2 => fK1 ?_) (fun t2 g2 s2 _ => fK1 ?_)
          · refine fx_zeq 78 74 (by decide +kernel) (by unfold fR; omega) (fun hc => absurd hc (by decide)) (fun _ => ?_)
            refine fx_ci (1) 75 (by decide +kernel) ?_
            refine fx_go 145 (by decide +kernel) ?_
            refine fx_si 1 146 (by decide +kernel) (Or.inr (f_n4p (v := 1186) rfl (by decide))) rfl ?_
            dsimp only [List.set]
            refine fx_li 1 147 (by decide +kernel) rfl ?_
            refine fx_ci (-1) 148 (by decide +kernel) ?_
            refine fx_ine 161 151 (by decide +kernel) (by unfold fR; omega) (by unfold fR; omega) (fun _ => ?_) (fun hc => absurd hc (by decide))
            refine fx_rg (fun hg => ?_)
            refine fx_la 0 162 (v := 1186) (by decide +kernel) rfl (by decide +kernel) ?_
            refine fx_gp 1186 148 14 1234 165 (by decide +kernel) ?_
            refine fx_li 1 166 (by decide +kernel) rfl ?_
            refine fx_al 1234 154 7 167 (by decide +kernel) rfl (by omega) (by omega) rfl ?_
            try simp only [fu_app, fcy_app, Nat.reduceEqDiff, and_true, and_false, false_and, true_and, if_true, if_false, ite_true, ite_false, reduceIte, Int.reduceToNat, fx_simp0]
            refine fx_ret (by decide +kernel) ?_
            exact fk 1 g2 (by decide) ((cif_f t1).trans (cif_t t2)) s2 (hgA hg 7 (c := 154) (by decide +kernel) (by decide))
          · refine fx_zeq 78 74 (by decide +kernel) (by unfold fR; omega) (fun _ => ?_) (fun hc => absurd hc (by decide))
            refine fx_la 0 79 (v := 1186) (by decide +kernel) rfl (by decide +kernel) ?_
            refine fx_lds 469 81 (by decide +kernel) ?_
            refine fx_c2 274 21 84 4 [7, 7] (by decide +kernel) (by decide) (by decide) (by decide) rfl (by first | decide | omega) ?_
            refine sp_rhas [100, 105, 115, 104] (by decide +kernel) s2 (fun t3 g3 s3 => fK1 ?_) (fun t3 g3 s3 _ => fK1 ?_)
            · refine fx_zeq 91 87 (by decide +kernel) (by unfold fR; omega) (fun hc => absurd hc (by decide)) (fun _ => ?_)
              refine fx_ci (2) 88 (by decide +kernel) ?_
              refine fx_go 145 (by decide +kernel) ?_
              refine fx_si 1 146 (by decide +kernel) (Or.inr (f_n4p (v := 1186) rfl (by decide))) rfl ?_
              dsimp only [List.set]
              refine fx_li 1 147 (by decide +kernel) rfl ?_
              refine fx_ci (-1) 148 (by decide +kernel) ?_
              refine fx_ine 161 151 (by decide +kernel) (by unfold fR; omega) (by unfold fR; omega) (fun _ => ?_) (fun hc => absurd hc (by decide))
              refine fx_rg (fun hg => ?_)
              refine fx_la 0 162 (v := 1186) (by decide +kernel) rfl (by decide +kernel) ?_
              refine fx_gp 1186 148 14 1234 165 (by decide +kernel) ?_
              refine fx_li 1 166 (by decide +kernel) rfl ?_
              refine fx_al 1234 154 7 167 (by decide +kernel) rfl (by omega) (by omega) rfl ?_
              try simp only [fu_app, fcy_app, Nat.reduceEqDiff, and_true, and_false, false_and, true_and, if_true, if_false, ite_true, ite_false, reduceIte, Int.reduceToNat, fx_simp0]
              refine fx_ret (by decide +kernel) ?_
              exact fk 2 g3 (by decide) ((cif_f t1).trans ((cif_f t2).trans (cif_t t3))) s3 (hgA hg 7 (c := 154) (by decide +kernel) (by decide))
            · refine fx_zeq 91 87 (by decide +kernel) (by unfold fR; omega) (fun _ => ?_) (fun hc => absurd hc (by decide))
              refine fx_la 0 92 (v := 1186) (by decide +kernel) rfl (by decide +kernel) ?_
              refine fx_lds 477 94 (by decide +kernel) ?_
              refine fx_c2 274 21 97 4 [7, 7] (by decide +kernel) (by decide) (by decide) (by decide) rfl (by first | decide | omega) ?_
              refine sp_rhas [99, 111, 108, 100] (by decide +kernel) s3 (fun t4 g4 s4 => fK1 ?_) (fun t4 g4 s4 _ => fK1 ?_)
              · refine fx_zeq 104 100 (by decide +kernel) (by unfold fR; omega) (fun hc => absurd hc (by decide)) (fun _ => ?_)
                refine fx_ci (3) 101 (by decide +kernel) ?_
                refine fx_go 145 (by decide +kernel) ?_
                refine fx_si 1 146 (by decide +kernel) (Or.inr (f_n4p (v := 1186) rfl (by decide))) rfl ?_
                dsimp only [List.set]
                refine fx_li 1 147 (by decide +kernel) rfl ?_
                refine fx_ci (-1) 148 (by decide +kernel) ?_
                refine fx_ine 161 151 (by decide +kernel) (by unfold fR; omega) (by unfold fR; omega) (fun _ => ?_) (fun hc => absurd hc (by decide))
                refine fx_rg (fun hg => ?_)
                refine fx_la 0 162 (v := 1186) (by decide +kernel) rfl (by decide +kernel) ?_
                refine fx_gp 1186 148 14 1234 165 (by decide +kernel) ?_
                refine fx_li 1 166 (by decide +kernel) rfl ?_
                refine fx_al 1234 154 7 167 (by decide +kernel) rfl (by omega) (by omega) rfl ?_
                try simp only [fu_app, fcy_app, Nat.reduceEqDiff, and_true, and_false, false_and, true_and, if_true, if_false, ite_true, ite_false, reduceIte, Int.reduceToNat, fx_simp0]
                refine fx_ret (by decide +kernel) ?_
                exact fk 3 g4 (by decide) ((cif_f t1).trans ((cif_f t2).trans ((cif_f t3).trans (cif_t t4)))) s4 (hgA hg 7 (c := 154) (by decide +kernel) (by decide))
              · refine fx_zeq 104 100 (by decide +kernel) (by unfold fR; omega) (fun _ => ?_) (fun hc => absurd hc (by decide))
                refine fx_la 0 105 (v := 1186) (by decide +kernel) rfl (by decide +kernel) ?_
                refine fx_lds 485 107 (by decide +kernel) ?_
                refine fx_c2 274 21 110 4 [7, 7] (by decide +kernel) (by decide) (by decide) (by decide) rfl (by first | decide | omega) ?_
                refine sp_rhas [118, 111, 116, 101] (by decide +kernel) s4 (fun t5 g5 s5 => fK1 ?_) (fun t5 g5 s5 _ => fK1 ?_)
                · refine fx_zeq 117 113 (by decide +kernel) (by unfold fR; omega) (fun hc => absurd hc (by decide)) (fun _ => ?_)
                  refine fx_ci (4) 114 (by decide +kernel) ?_
                  refine fx_go 145 (by decide +kernel) ?_
                  refine fx_si 1 146 (by decide +kernel) (Or.inr (f_n4p (v := 1186) rfl (by decide))) rfl ?_
                  dsimp only [List.set]
                  refine fx_li 1 147 (by decide +kernel) rfl ?_
                  refine fx_ci (-1) 148 (by decide +kernel) ?_
                  refine fx_ine 161 151 (by decide +kernel) (by unfold fR; omega) (by unfold fR; omega) (fun _ => ?_) (fun hc => absurd hc (by decide))
                  refine fx_rg (fun hg => ?_)
                  refine fx_la 0 162 (v := 1186) (by decide +kernel) rfl (by decide +kernel) ?_
                  refine fx_gp 1186 148 14 1234 165 (by decide +kernel) ?_
                  refine fx_li 1 166 (by decide +kernel) rfl ?_
                  refine fx_al 1234 154 7 167 (by decide +kernel) rfl (by omega) (by omega) rfl ?_
                  try simp only [fu_app, fcy_app, Nat.reduceEqDiff, and_true, and_false, false_and, true_and, if_true, if_false, ite_true, ite_false, reduceIte, Int.reduceToNat, fx_simp0]
                  refine fx_ret (by decide +kernel) ?_
                  exact fk 4 g5 (by decide) ((cif_f t1).trans ((cif_f t2).trans ((cif_f t3).trans ((cif_f t4).trans (cif_t t5))))) s5 (hgA hg 7 (c := 154) (by decide +kernel) (by decide))
                · refine fx_zeq 117 113 (by decide +kernel) (by unfold fR; omega) (fun _ => ?_) (fun hc => absurd hc (by decide))
                  refine fx_la 0 118 (v := 1186) (by decide +kernel) rfl (by decide +kernel) ?_
                  refine fx_lds 493 120 (by decide +kernel) ?_
                  refine fx_c2 274 21 123 4 [7, 7] (by decide +kernel) (by decide) (by decide) (by decide) rfl (by first | decide | omega) ?_
                  refine sp_rhas [119, 101, 105, 103, 104, 116] (by decide +kernel) s5 (fun t6 g6 s6 => fK1 ?_) (fun t6 g6 s6 _ => fK1 ?_)
                  · refine fx_zeq 130 126 (by decide +kernel) (by unfold fR; omega) (fun hc => absurd hc (by decide)) (fun _ => ?_)
                    refine fx_ci (5) 127 (by decide +kernel) ?_
                    refine fx_go 145 (by decide +kernel) ?_
                    refine fx_si 1 146 (by decide +kernel) (Or.inr (f_n4p (v := 1186) rfl (by decide))) rfl ?_
                    dsimp only [List.set]
                    refine fx_li 1 147 (by decide +kernel) rfl ?_
                    refine fx_ci (-1) 148 (by decide +kernel) ?_
                    refine fx_ine 161 151 (by decide +kernel) (by unfold fR; omega) (by unfold fR; omega) (fun _ => ?_) (fun hc => absurd hc (by decide))
                    refine fx_rg (fun hg => ?_)
                    refine fx_la 0 162 (v := 1186) (by decide +kernel) rfl (by decide +kernel) ?_
                    refine fx_gp 1186 148 14 1234 165 (by decide +kernel) ?_
                    refine fx_li 1 166 (by decide +kernel) rfl ?_
                    refine fx_al 1234 154 7 167 (by decide +kernel) rfl (by omega) (by omega) rfl ?_
                    try simp only [fu_app, fcy_app, Nat.reduceEqDiff, and_true, and_false, false_and, true_and, if_true, if_false, ite_true, ite_false, reduceIte, Int.reduceToNat, fx_simp0]
                    refine fx_ret (by decide +kernel) ?_
                    exact fk 5 g6 (by decide) ((cif_f t1).trans ((cif_f t2).trans ((cif_f t3).trans ((cif_f t4).trans ((cif_f t5).trans (cif_t t6)))))) s6 (hgA hg 7 (c := 154) (by decide +kernel) (by decide))
                  · refine fx_zeq 130 126 (by decide +kernel) (by unfold fR; omega) (fun _ => ?_) (fun hc => absurd hc (by decide))
                    refine fx_la 0 131 (v := 1186) (by decide +kernel) rfl (by decide +kernel) ?_
                    refine fx_lds 501 133 (by decide +kernel) ?_
                    refine fx_c2 274 21 136 4 [7, 7] (by decide +kernel) (by decide) (by decide) (by decide) rfl (by first | decide | omega) ?_
                    refine sp_rhas [110, 105, 103, 104, 116] (by decide +kernel) s6 (fun t7 g7 s7 => fK1 ?_) (fun t7 g7 s7 at7 => fK1 ?_)
                    · refine fx_zeq 144 139 (by decide +kernel) (by unfold fR; omega) (fun hc => absurd hc (by decide)) (fun _ => ?_)
                      refine fx_ci (6) 141 (by decide +kernel) ?_
                      refine fx_go 145 (by decide +kernel) ?_
                      refine fx_si 1 146 (by decide +kernel) (Or.inr (f_n4p (v := 1186) rfl (by decide))) rfl ?_
                      dsimp only [List.set]
                      refine fx_li 1 147 (by decide +kernel) rfl ?_
                      refine fx_ci (-1) 148 (by decide +kernel) ?_
                      refine fx_ine 161 151 (by decide +kernel) (by unfold fR; omega) (by unfold fR; omega) (fun _ => ?_) (fun hc => absurd hc (by decide))
                      refine fx_rg (fun hg => ?_)
                      refine fx_la 0 162 (v := 1186) (by decide +kernel) rfl (by decide +kernel) ?_
                      refine fx_gp 1186 148 14 1234 165 (by decide +kernel) ?_
                      refine fx_li 1 166 (by decide +kernel) rfl ?_
                      refine fx_al 1234 154 7 167 (by decide +kernel) rfl (by omega) (by omega) rfl ?_
                      try simp only [fu_app, fcy_app, Nat.reduceEqDiff, and_true, and_false, false_and, true_and, if_true, if_false, ite_true, ite_false, reduceIte, Int.reduceToNat, fx_simp0]
                      refine fx_ret (by decide +kernel) ?_
                      exact fk 6 g7 (by decide) ((cif_f t1).trans ((cif_f t2).trans ((cif_f t3).trans ((cif_f t4).trans ((cif_f t5).trans ((cif_f t6).trans (cif_t t7))))))) s7 (hgA hg 7 (c := 154) (by decide +kernel) (by decide))
                    · refine fx_zeq 144 139 (by decide +kernel) (by unfold fR; omega) (fun _ => ?_) (fun hc => absurd hc (by decide))
                      refine fx_cn (-1) 145 (by decide +kernel) (fun v144 c144 => ?_)
                      refine fx_si 1 146 (by decide +kernel) (Or.inr (f_n4p (v := 1186) rfl (by decide))) rfl ?_
                      dsimp only [List.set]
                      refine fx_li 1 147 (by decide +kernel) rfl ?_
                      refine fx_ci (-1) 148 (by decide +kernel) ?_
                      refine fx_ine 161 151 (by decide +kernel) (by unfold fR; omega) (by unfold fR; omega) (fun h148 => ?_) (fun h148 => ?_)
                      · exfalso; omega
                      · refine fx_la 0 152 (v := 1186) (by decide +kernel) rfl (by decide +kernel) ?_
                        refine fx_la 0 153 (v := 1186) (by decide +kernel) rfl (by decide +kernel) ?_
                        refine fx_gi 1186 148 11 156 (by decide +kernel) ?_
                        try simp only [fu_app, fcy_app, Nat.reduceEqDiff, and_true, and_false, false_and, true_and, if_true, if_false, ite_true, ite_false, reduceIte, Int.reduceToNat, fx_simp0]
                        rw [at7]
                        refine fx_c2 272 21 159 0 [] (by decide +kernel) (by decide) (by decide) (fI_n4 _) rfl (by first | decide | omega) ?_
                        refine sp_wrong s7.2.2.2.2.1 (by unfold fR; omega) (fK0 ?_)
                        refine fx_ci (0) 160 (by decide +kernel) ?_
                        refine fx_ret (by decide +kernel) ?_
                        have eP : pFact T E f = -1 := (cif_f t1).trans ((cif_f t2).trans ((cif_f t3).trans ((cif_f t4).trans ((cif_f t5).trans ((cif_f t6).trans (cif_f t7))))))
                        have nn : ¬ pN T E 0 999 f := by first | exact pN_n (fun u => by omega) ok2 | exact pN_n (fun u => t u.2) ok2
                        exact k2 _ _ (by unfold pPart; rw [cif_t eP, cif_f nn]) ⟨fu_eq _ _ _ _, ok1, s7.2.2.2.2.2.2.f, by rw [fu_nj (by decide), at7]; exact ok1, by rw [fu_nj (by decide), at7]; omega, by rw [fu_nj (by decide)]; exact s7.2.2.2.2.2.1⟩ (by unfold fR; omega)
  · refine fx_ci (0) 9 (by decide +kernel) ?_
    refine fx_ret (by decide +kernel) ?_
    exfalso; omega
end G5G
end
section
/-! fx: the reference reads the law: sums, what is compared -/
theorem nv_fR : fR 0 ∧ fR 1 := ⟨by unfold fR; decide, by unfold fR; decide⟩
section G5H
variable {W : ax_W} {r : Nat} {g g0 : Nat → Nat → Int} {Q : Nat → Nat → (Nat → Nat → Int) → Prop} {T : Int → Int} {E f dp : Int} {c : List Int}
theorem sp_msum_1 {st : List Int} {R : Int ⊕ (Int × List Int)} (k1 : ∀ f1 c1 n g', R = Sum.inr (f1, c1) → rwS T E g0 g' f1 dp → evS (fF g0) c1 = n :: st → fR n → Q 1 (fI n) g') (k2 : ∀ q n g', R = Sum.inl q → rwF g0 g' q 400 dp → fR n → Q 1 (fI n) g') : ∀ (l : Nat) (f n : Int) (c : List Int) (g : Nat → Nat → Int), rwS T E g0 g f dp → evS (fF g0) c = n :: st → fR n → E - f ≤ l → cif (pSg T E 43 f) (pSum T E l (pSk T E (f + 1)) c true) (Sum.inr (f, c)) = R → fx W r 6 282 5 [1186, fI n] [] g Q
  | l, f, n, c, g, h, hv, hn, hl, eR => by
    have ok := h.ok
    have ok1 := ok.1
    have ok2 := ok.2.1
    have hE := h.1.2.2.1
    have hf := h.2.2.2.2.1
    refine fx_la 0 6 (v := 1186) (by decide +kernel) rfl (by decide +kernel) ?_
    refine fx_gi 1186 148 12 9 (by decide +kernel) ?_
    refine fx_cn (-1) 10 (by decide +kernel) (fun v9 c9 => ?_)
    refine fx_ine 42 13 (by decide +kernel) (by first | exact hg 148 12 (by decide) (by decide +kernel) (by decide +kernel) | (unfold fR; omega)) (by unfold fR; omega) (fun h10 => ?_) (fun h10 => ?_)
    · exfalso; omega
    · refine fx_la 0 14 (v := 1186) (by decide +kernel) rfl (by decide +kernel) ?_
      refine fx_ci (43) 16 (by decide +kernel) ?_
      refine fx_c2 280 21 19 2 [] (by decide +kernel) (by decide) (by decide) (fI_n4 _) rfl (by first | decide | omega) ?_
      refine sp_rsign h (by unfold fR; omega) (fun t g1 s1 a1 => fK1 ?_) (fun t g1 s1 a1 => fK1 ?_)
      · refine fx_zeq 42 22 (by decide +kernel) (by unfold fR; omega) (fun hc => absurd hc (by decide)) (fun _ => ?_)
        refine fx_la 0 23 (v := 1186) (by decide +kernel) rfl (by decide +kernel) ?_
        refine fx_dup 24 (by decide +kernel) rfl (by decide) ?_
        refine fx_gi 1186 148 11 27 (by decide +kernel) ?_
        try simp only [fu_app, fcy_app, Nat.reduceEqDiff, and_true, and_false, false_and, true_and, if_true, if_false, ite_true, ite_false, reduceIte, Int.reduceToNat, fx_simp0]
        rw [a1]
        refine fx_ci (1) 28 (by decide +kernel) ?_
        refine fx_add 29 (by decide +kernel) rfl ?_
        refine fx_pi 1186 148 11 32 (by decide +kernel) (by unfold fR; omega) ?_
        refine fx_li 1 33 (by decide +kernel) rfl ?_
        refine fx_la 0 34 (v := 1186) (by decide +kernel) rfl (by decide +kernel) ?_
        refine fx_c1 283 21 37 5 [7] (by decide +kernel) (by decide) rfl (by first | decide | omega) ?_
        have g0' := pSk_ge T E (f + 1)
        have fE := t.1
        have s2 := s1.to (a := f + 1) (by omega) (by omega)
        refine sp_mpart s2 (fun f2 s g2 p1 h2 hr2 => fK1 ?_) (fun v g2 p1 h2 hr2 => fK1 ?_)
        have o := pPart_ok p1 (pOk_s1 ok t)
        · refine fx_add 38 (by decide +kernel) rfl ?_
          refine fx_si 1 39 (by decide +kernel) (Or.inr (f_n4p (v := 1186) rfl (by decide))) rfl ?_
          dsimp only [List.set]
          refine fx_go 5 (by decide +kernel) ?_
          rw [cif_t t] at eR
          match l, hl, eR with
          | 0, hl, eR => exfalso; omega
          | l + 1, hl, eR =>
            have e2 : cif (pSg T E 43 f2) (pSum T E l (pSk T E (f2 + 1)) (c ++ [s, 2000]) true) (Sum.inr (f2, c ++ [s, 2000])) = R := by
              rw [← eR]
              show _ = bS (pPart T E (pSk T E (f + 1))) _
              rw [p1, bS_r]
              rfl
            have ev : evS (fF g0) (c ++ [s, 2000]) = fop 0 n (vS (fF g0) s) :: st := by
              rw [evS_2, hv, stp_v (s := s) _ (by omega)]
              rfl
            rw [← fI_add]
            exact sp_msum_1 k1 k2 l f2 (fop 0 n (vS (fF g0) s)) (c ++ [s, 2000]) g2 h2 ev (fop_R _ _ _) (by omega) e2
        · refine fx_add 38 (by decide +kernel) rfl ?_
          refine fx_si 1 39 (by decide +kernel) (Or.inr (f_n4p (v := 1186) rfl (by decide))) rfl ?_
          dsimp only [List.set]
          refine fx_go 5 (by decide +kernel) ?_
          rw [cif_t t] at eR
          have eq : R = Sum.inl (pSk T E (f + 1)) := by
            match l, hl, eR with
            | 0, hl, eR => exact eR.symm
            | l + 1, hl, eR =>
              rw [← eR]
              show bS (pPart T E (pSk T E (f + 1))) _ = _
              rw [p1, bS_l]
          have q1 := h2.1
          have q2 := h2.2.1
          rw [← fI_add]
          have hz := fop_R 0 n v
          generalize fop 0 n v = z at hz ⊢
          refine fx_rg (fun hg => ?_)
          refine fx_la 0 6 (v := 1186) (by decide +kernel) rfl (by decide +kernel) ?_
          refine fx_gi 1186 148 12 9 (by decide +kernel) ?_
          refine fx_cn (-1) 10 (by decide +kernel) (fun v9 c9 => ?_)
          refine fx_ine 42 13 (by decide +kernel) (by first | exact hg 148 12 (by decide) (by decide +kernel) (by decide +kernel) | (unfold fR; omega)) (by unfold fR; omega) (fun h10 => ?_) (fun h10 => ?_)
          · refine fx_li 1 43 (by decide +kernel) rfl ?_
            refine fx_ret (by decide +kernel) ?_
            exact k2 _ z g2 eq h2 hz
          · exfalso; omega
      · refine fx_zeq 42 22 (by decide +kernel) (by unfold fR; omega) (fun _ => ?_) (fun hc => absurd hc (by decide))
        refine fx_li 1 43 (by decide +kernel) rfl ?_
        refine fx_ret (by decide +kernel) ?_
        rw [cif_f t] at eR
        exact k1 f c n g1 eR.symm s1 hv hn
theorem sp_msum (h : rwS T E g0 g f dp) (k1 : ∀ f1 c1 n g', pSum T E 401 f c false = Sum.inr (f1, c1) → rwS T E g0 g' f1 dp → evS (fF g0) c1 = n :: evS (fF g0) c → fR n → Q 1 (fI n) g') (k2 : ∀ q n g', pSum T E 401 f c false = Sum.inl q → rwF g0 g' q 400 dp → fR n → Q 1 (fI n) g') : fx W r 6 282 0 [1186, 7] [] g Q := by
  have ok := h.ok
  have hE := h.1.2.2.1
  refine fx_la 0 1 (v := 1186) (by decide +kernel) rfl (by decide +kernel) ?_
  refine fx_c1 283 21 4 5 [7] (by decide +kernel) (by decide) rfl (by first | decide | omega) ?_
  refine sp_mpart h (fun f2 s g2 p1 h2 hr2 => fK1 ?_) (fun v g2 p1 h2 hr2 => fK1 ?_)
  have o := pPart_ok p1 ok
  have ok1 := ok.1
  · refine fx_si 1 5 (by decide +kernel) (Or.inr (f_n4p (v := 1186) rfl (by decide))) rfl ?_
    dsimp only [List.set]
    have e2 : cif (pSg T E 43 f2) (pSum T E 400 (pSk T E (f2 + 1)) (c ++ [s]) true) (Sum.inr (f2, c ++ [s])) = pSum T E 401 f c false := by
      show _ = bS (pPart T E f) _
      rw [p1, bS_r]
      rfl
    have ev : evS (fF g0) (c ++ [s]) = vS (fF g0) s :: evS (fF g0) c := by
      rw [evS_1, stp_v _ (by omega)]
    exact sp_msum_1 k1 k2 400 f2 _ (c ++ [s]) g2 h2 ev hr2 (by omega) e2
  · refine fx_si 1 5 (by decide +kernel) (Or.inr (f_n4p (v := 1186) rfl (by decide))) rfl ?_
    dsimp only [List.set]
    have eq : pSum T E 401 f c false = Sum.inl f := by
      show bS (pPart T E f) _ = _
      rw [p1, bS_l]
    have q1 := h2.1
    have q2 := h2.2.1
    refine fx_rg (fun hg => ?_)
    refine fx_la 0 6 (v := 1186) (by decide +kernel) rfl (by decide +kernel) ?_
    refine fx_gi 1186 148 12 9 (by decide +kernel) ?_
    refine fx_cn (-1) 10 (by decide +kernel) (fun v9 c9 => ?_)
    refine fx_ine 42 13 (by decide +kernel) (by first | exact hg 148 12 (by decide) (by decide +kernel) (by decide +kernel) | (unfold fR; omega)) (by unfold fR; omega) (fun h10 => ?_) (fun h10 => ?_)
    · refine fx_li 1 43 (by decide +kernel) rfl ?_
      refine fx_ret (by decide +kernel) ?_
      exact k2 _ v g2 eq h2 hr2
    · exfalso; omega
/-- promised, three, or two sums -/
noncomputable def pPl (T : Int → Int) (E f : Int) (c : List Int) : Int ⊕ (Int × List Int) := cif (pWd T E [112, 114, 111, 109, 105, 115, 101, 100] f) (Sum.inr (pSk T E (pWe T E f), c ++ [1007])) (cif (pWd T E [116, 104, 114, 101, 101] f) (Sum.inr (pSk T E (pWe T E f), c ++ [1008])) (pCmp T E f c))
theorem sp_mplain (hP : g0 148 15 = 0 ∨ g0 148 15 = 1) (hT : g0 148 16 = 0 ∨ g0 148 16 = 1) (h : rwS T E g0 g f dp) (k1 : ∀ f1 c1 b g', pPl T E f c = Sum.inr (f1, c1) → rwS T E g0 g' f1 dp → evS (fF g0) c1 = b :: evS (fF g0) c → (b = 0 ∨ b = 1) → Q 1 (fI b) g') (k2 : ∀ q b g', pPl T E f c = Sum.inl q → rwF g0 g' q 400 dp → (b = 0 ∨ b = 1) → Q 1 (fI b) g') : fx W r 7 281 0 [1186, 7, 7, 7] [] g Q := by
  refine fx_la 0 1 (v := 1186) (by decide +kernel) rfl (by decide +kernel) ?_
  refine fx_lds 437 3 (by decide +kernel) ?_
  refine fx_c2 274 21 6 4 [7, 7] (by decide +kernel) (by decide) (by decide) (by decide) rfl (by first | decide | omega) ?_
  refine sp_rhas [112, 114, 111, 109, 105, 115, 101, 100] (by decide +kernel) h (fun t1 g1 s1 => fK1 ?_) (fun t1 g1 s1 _ => fK1 ?_)
  · refine fx_zeq 14 9 (by decide +kernel) (by unfold fR; omega) (fun hc => absurd hc (by decide)) (fun _ => ?_)
    refine fx_la 0 10 (v := 1186) (by decide +kernel) rfl (by decide +kernel) ?_
    refine fx_gi 1186 148 15 13 (by decide +kernel) ?_
    try simp only [fu_app, fcy_app, Nat.reduceEqDiff, and_true, and_false, false_and, true_and, if_true, if_false, ite_true, ite_false, reduceIte, Int.reduceToNat, fx_simp0]
    rw [s1.2.2.2.2.2.2 148 15 (by decide)]
    refine fx_retb (by decide +kernel) (by first | exact Or.inl rfl | exact Or.inr rfl | omega) ?_
    refine k1 _ _ _ g1 (cif_t t1) s1 ?_ hP
    rw [evS_1]
    exact stp_v _ (by decide)
  · refine fx_zeq 14 9 (by decide +kernel) (by unfold fR; omega) (fun _ => ?_) (fun hc => absurd hc (by decide))
    refine fx_la 0 15 (v := 1186) (by decide +kernel) rfl (by decide +kernel) ?_
    refine fx_lds 445 17 (by decide +kernel) ?_
    refine fx_c2 274 21 20 4 [7, 7] (by decide +kernel) (by decide) (by decide) (by decide) rfl (by first | decide | omega) ?_
    refine sp_rhas [116, 104, 114, 101, 101] (by decide +kernel) s1 (fun t2 g2 s2 => fK1 ?_) (fun t2 g2 s2 _ => fK1 ?_)
    · refine fx_zeq 28 23 (by decide +kernel) (by unfold fR; omega) (fun hc => absurd hc (by decide)) (fun _ => ?_)
      refine fx_la 0 24 (v := 1186) (by decide +kernel) rfl (by decide +kernel) ?_
      refine fx_gi 1186 148 16 27 (by decide +kernel) ?_
      try simp only [fu_app, fcy_app, Nat.reduceEqDiff, and_true, and_false, false_and, true_and, if_true, if_false, ite_true, ite_false, reduceIte, Int.reduceToNat, fx_simp0]
      rw [s2.2.2.2.2.2.2 148 16 (by decide)]
      refine fx_retb (by decide +kernel) (by first | exact Or.inl rfl | exact Or.inr rfl | omega) ?_
      refine k1 _ _ _ g2 ((cif_f t1).trans (cif_t t2)) s2 ?_ hT
      rw [evS_1]
      exact stp_v _ (by decide)
    · refine fx_zeq 28 23 (by decide +kernel) (by unfold fR; omega) (fun _ => ?_) (fun hc => absurd hc (by decide))
      refine fx_la 0 29 (v := 1186) (by decide +kernel) rfl (by decide +kernel) ?_
      refine fx_c1 282 21 32 6 [7] (by decide +kernel) (by decide) rfl (by first | decide | omega) ?_
      have eP : pPl T E f c = pCmp T E f c := (cif_f t1).trans (cif_f t2)
      rw [eP] at k1 k2
      refine sp_msum (c := c) s2 (fun f3 c3 n g3 p3 h3 v3 r3 => fK1 ?_) (fun q n g3 p3 h3 r3 => fK1 ?_)
      have r3' := r3
      unfold fR at r3'
      have ok3 := h3.ok
      have q1 := h3.2.2.2.2.1
      have ok3a := ok3.1
      have ok3b := ok3.2.1
      have hE3 := h3.1.2.2.1
      · refine fx_si 1 33 (by decide +kernel) (Or.inr (f_n4p (v := 1186) rfl (by decide))) rfl ?_
        dsimp only [List.set]
        refine fx_la 0 34 (v := 1186) (by decide +kernel) rfl (by decide +kernel) ?_
        refine fx_gi 1186 148 12 37 (by decide +kernel) ?_
        try simp only [fu_app, fcy_app, Nat.reduceEqDiff, and_true, and_false, false_and, true_and, if_true, if_false, ite_true, ite_false, reduceIte, Int.reduceToNat, fx_simp0]
        refine fx_rg (fun hg => ?_)
        have rf := hg 148 12 (by decide) (by decide +kernel) (by decide +kernel)
        unfold fR at rf
        refine fx_cn (-1) 38 (by decide +kernel) (fun v37 c37 => ?_)
        refine fx_ieq 43 41 (by decide +kernel) (by unfold fR; omega) (by unfold fR; omega) (fun h38 => ?_) (fun h38 => ?_)
        · refine fx_la 0 44 (v := 1186) (by decide +kernel) rfl (by decide +kernel) ?_
          refine fx_ci (60) 46 (by decide +kernel) ?_
          refine fx_c2 280 21 49 2 [] (by decide +kernel) (by decide) (by decide) (fI_n4 _) rfl (by first | decide | omega) ?_
          refine sp_rsign h3 (by unfold fR; omega) (fun t4 g4 s4 a4 => fK1 ?_) (fun t4 g4 s4 a4 => fK1 ?_)
          · refine fx_si 2 50 (by decide +kernel) (Or.inr (fI_n4 _)) rfl ?_
            dsimp only [List.set]
            refine fx_li 2 51 (by decide +kernel) rfl ?_
            refine fx_zne 73 54 (by decide +kernel) (by unfold fR; omega) (fun _ => ?_) (fun hc => absurd hc (by decide))
            refine fx_la 0 74 (v := 1186) (by decide +kernel) rfl (by decide +kernel) ?_
            refine fx_dup 75 (by decide +kernel) rfl (by decide) ?_
            refine fx_gi 1186 148 11 78 (by decide +kernel) ?_
            try simp only [fu_app, fcy_app, Nat.reduceEqDiff, and_true, and_false, false_and, true_and, if_true, if_false, ite_true, ite_false, reduceIte, Int.reduceToNat, fx_simp0]
            rw [a4]
            refine fx_ci (1) 79 (by decide +kernel) ?_
            refine fx_add 80 (by decide +kernel) rfl ?_
            refine fx_pi 1186 148 11 83 (by decide +kernel) (by unfold fR; omega) ?_
            refine fx_la 0 84 (v := 1186) (by decide +kernel) rfl (by decide +kernel) ?_
            refine fx_c1 282 21 87 6 [7] (by decide +kernel) (by decide) rfl (by first | decide | omega) ?_
            have s6 := s4.to (a := f3 + 1) (by omega) (by have := t4.1; omega)
            refine sp_msum (c := c3) s6 (fun f7 c7 n7 g7 p7 h7 v7 r7 => fK1 ?_) (fun q7 n7 g7 p7 h7 r7 => fK1 ?_)
            all_goals have r7' := r7
            all_goals unfold fR at r7'
            · refine fx_si 3 88 (by decide +kernel) (Or.inr (fI_n4 _)) rfl ?_
              dsimp only [List.set]
              refine fx_li 2 89 (by decide +kernel) rfl ?_
              refine fx_zeq 105 92 (by decide +kernel) (by unfold fR; omega) (fun hc => absurd hc (by decide)) (fun _ => ?_)
              refine fx_li 1 93 (by decide +kernel) rfl ?_
              refine fx_li 3 94 (by decide +kernel) rfl ?_
              refine fx_ige 101 97 (by decide +kernel) (by unfold fR; omega) (by unfold fR; omega) (fun h94 => ?_) (fun h94 => ?_)
              · refine fx_ci (0) 102 (by decide +kernel) ?_
                refine fx_go 115 (by decide +kernel) ?_
                refine fx_retb (by decide +kernel) (by first | exact Or.inl rfl | exact Or.inr rfl | omega) ?_
                refine k1 _ _ _ g7 (by rw [pCmp_l p3 t4, p7, bS_r]) h7 ?_ (by first | exact Or.inl rfl | exact Or.inr rfl)
                rw [evS_1, v7, v3]
                show (if n < n7 then (1 : Int) else 0) :: evS (fF g0) c = _
                first | rw [if_pos (by omega)] | rw [if_neg (by omega)]
              · refine fx_ci (1) 98 (by decide +kernel) ?_
                refine fx_go 115 (by decide +kernel) ?_
                refine fx_retb (by decide +kernel) (by first | exact Or.inl rfl | exact Or.inr rfl | omega) ?_
                refine k1 _ _ _ g7 (by rw [pCmp_l p3 t4, p7, bS_r]) h7 ?_ (by first | exact Or.inl rfl | exact Or.inr rfl)
                rw [evS_1, v7, v3]
                show (if n < n7 then (1 : Int) else 0) :: evS (fF g0) c = _
                first | rw [if_pos (by omega)] | rw [if_neg (by omega)]
            · refine fx_si 3 88 (by decide +kernel) (Or.inr (fI_n4 _)) rfl ?_
              dsimp only [List.set]
              refine fx_li 2 89 (by decide +kernel) rfl ?_
              refine fx_zeq 105 92 (by decide +kernel) (by unfold fR; omega) (fun hc => absurd hc (by decide)) (fun _ => ?_)
              refine fx_li 1 93 (by decide +kernel) rfl ?_
              refine fx_li 3 94 (by decide +kernel) rfl ?_
              refine fx_ige 101 97 (by decide +kernel) (by unfold fR; omega) (by unfold fR; omega) (fun h94 => ?_) (fun h94 => ?_)
              · refine fx_ci (0) 102 (by decide +kernel) ?_
                refine fx_go 115 (by decide +kernel) ?_
                refine fx_retb (by decide +kernel) (by first | exact Or.inl rfl | exact Or.inr rfl | omega) ?_
                exact k2 q7 _ g7 (by rw [pCmp_l p3 t4, p7, bS_l]) h7 (by first | exact Or.inl rfl | exact Or.inr rfl)
              · refine fx_ci (1) 98 (by decide +kernel) ?_
                refine fx_go 115 (by decide +kernel) ?_
                refine fx_retb (by decide +kernel) (by first | exact Or.inl rfl | exact Or.inr rfl | omega) ?_
                exact k2 q7 _ g7 (by rw [pCmp_l p3 t4, p7, bS_l]) h7 (by first | exact Or.inl rfl | exact Or.inr rfl)
          · refine fx_si 2 50 (by decide +kernel) (Or.inr (fI_n4 _)) rfl ?_
            dsimp only [List.set]
            refine fx_li 2 51 (by decide +kernel) rfl ?_
            refine fx_zne 73 54 (by decide +kernel) (by unfold fR; omega) (fun hc => absurd hc (by decide)) (fun _ => ?_)
            refine fx_la 0 55 (v := 1186) (by decide +kernel) rfl (by decide +kernel) ?_
            refine fx_ci (62) 57 (by decide +kernel) ?_
            refine fx_c2 280 21 60 2 [] (by decide +kernel) (by decide) (by decide) (fI_n4 _) rfl (by first | decide | omega) ?_
            refine sp_rsign s4 (by unfold fR; omega) (fun t5 g5 s5 a5 => fK1 ?_) (fun t5 g5 s5 a5 => fK1 ?_)
            · refine fx_zne 73 63 (by decide +kernel) (by unfold fR; omega) (fun _ => ?_) (fun hc => absurd hc (by decide))
              refine fx_la 0 74 (v := 1186) (by decide +kernel) rfl (by decide +kernel) ?_
              refine fx_dup 75 (by decide +kernel) rfl (by decide) ?_
              refine fx_gi 1186 148 11 78 (by decide +kernel) ?_
              try simp only [fu_app, fcy_app, Nat.reduceEqDiff, and_true, and_false, false_and, true_and, if_true, if_false, ite_true, ite_false, reduceIte, Int.reduceToNat, fx_simp0]
              rw [a5]
              refine fx_ci (1) 79 (by decide +kernel) ?_
              refine fx_add 80 (by decide +kernel) rfl ?_
              refine fx_pi 1186 148 11 83 (by decide +kernel) (by unfold fR; omega) ?_
              refine fx_la 0 84 (v := 1186) (by decide +kernel) rfl (by decide +kernel) ?_
              refine fx_c1 282 21 87 6 [7] (by decide +kernel) (by decide) rfl (by first | decide | omega) ?_
              have s6 := s5.to (a := f3 + 1) (by omega) (by have := t5.1; omega)
              refine sp_msum (c := c3) s6 (fun f7 c7 n7 g7 p7 h7 v7 r7 => fK1 ?_) (fun q7 n7 g7 p7 h7 r7 => fK1 ?_)
              all_goals have r7' := r7
              all_goals unfold fR at r7'
              · refine fx_si 3 88 (by decide +kernel) (Or.inr (fI_n4 _)) rfl ?_
                dsimp only [List.set]
                refine fx_li 2 89 (by decide +kernel) rfl ?_
                refine fx_zeq 105 92 (by decide +kernel) (by unfold fR; omega) (fun _ => ?_) (fun hc => absurd hc (by decide))
                refine fx_li 1 106 (by decide +kernel) rfl ?_
                refine fx_li 3 107 (by decide +kernel) rfl ?_
                refine fx_ile 114 110 (by decide +kernel) (by unfold fR; omega) (by unfold fR; omega) (fun h107 => ?_) (fun h107 => ?_)
                · refine fx_ci (0) 115 (by decide +kernel) ?_
                  refine fx_retb (by decide +kernel) (by first | exact Or.inl rfl | exact Or.inr rfl | omega) ?_
                  refine k1 _ _ _ g7 (by rw [pCmp_g p3 t4 t5, p7, bS_r]) h7 ?_ (by first | exact Or.inl rfl | exact Or.inr rfl)
                  rw [evS_1, v7, v3]
                  show (if n7 < n then (1 : Int) else 0) :: evS (fF g0) c = _
                  first | rw [if_pos (by omega)] | rw [if_neg (by omega)]
                · refine fx_ci (1) 111 (by decide +kernel) ?_
                  refine fx_go 115 (by decide +kernel) ?_
                  refine fx_retb (by decide +kernel) (by first | exact Or.inl rfl | exact Or.inr rfl | omega) ?_
                  refine k1 _ _ _ g7 (by rw [pCmp_g p3 t4 t5, p7, bS_r]) h7 ?_ (by first | exact Or.inl rfl | exact Or.inr rfl)
                  rw [evS_1, v7, v3]
                  show (if n7 < n then (1 : Int) else 0) :: evS (fF g0) c = _
                  first | rw [if_pos (by omega)] | rw [if_neg (by omega)]
              · refine fx_si 3 88 (by decide +kernel) (Or.inr (fI_n4 _)) rfl ?_
                dsimp only [List.set]
                refine fx_li 2 89 (by decide +kernel) rfl ?_
                refine fx_zeq 105 92 (by decide +kernel) (by unfold fR; omega) (fun _ => ?_) (fun hc => absurd hc (by decide))
                refine fx_li 1 106 (by decide +kernel) rfl ?_
                refine fx_li 3 107 (by decide +kernel) rfl ?_
                refine fx_ile 114 110 (by decide +kernel) (by unfold fR; omega) (by unfold fR; omega) (fun h107 => ?_) (fun h107 => ?_)
                · refine fx_ci (0) 115 (by decide +kernel) ?_
                  refine fx_retb (by decide +kernel) (by first | exact Or.inl rfl | exact Or.inr rfl | omega) ?_
                  exact k2 q7 _ g7 (by rw [pCmp_g p3 t4 t5, p7, bS_l]) h7 (by first | exact Or.inl rfl | exact Or.inr rfl)
                · refine fx_ci (1) 111 (by decide +kernel) ?_
                  refine fx_go 115 (by decide +kernel) ?_
                  refine fx_retb (by decide +kernel) (by first | exact Or.inl rfl | exact Or.inr rfl | omega) ?_
                  exact k2 q7 _ g7 (by rw [pCmp_g p3 t4 t5, p7, bS_l]) h7 (by first | exact Or.inl rfl | exact Or.inr rfl)
            · refine fx_zne 73 63 (by decide +kernel) (by unfold fR; omega) (fun hc => absurd hc (by decide)) (fun _ => ?_)
              refine fx_la 0 64 (v := 1186) (by decide +kernel) rfl (by decide +kernel) ?_
              refine fx_la 0 65 (v := 1186) (by decide +kernel) rfl (by decide +kernel) ?_
              refine fx_gi 1186 148 11 68 (by decide +kernel) ?_
              try simp only [fu_app, fcy_app, Nat.reduceEqDiff, and_true, and_false, false_and, true_and, if_true, if_false, ite_true, ite_false, reduceIte, Int.reduceToNat, fx_simp0]
              rw [a5]
              refine fx_c2 272 21 71 0 [] (by decide +kernel) (by decide) (by decide) (fI_n4 _) rfl (by first | decide | omega) ?_
              refine sp_wrong s5.2.2.2.2.1 (by unfold fR; omega) (fK0 ?_)
              refine fx_ci (0) 72 (by decide +kernel) ?_
              refine fx_retb (by decide +kernel) (by first | exact Or.inl rfl | exact Or.inr rfl | omega) ?_
              exact k2 f3 0 _ (pCmp_w p3 t4 t5) ⟨fu_eq _ _ _ _, ok3a, s5.2.2.2.2.2.2.f, by rw [fu_nj (by decide), a5]; exact ok3a, by rw [fu_nj (by decide), a5]; omega, by rw [fu_nj (by decide)]; exact s5.2.2.2.2.2.1⟩ (Or.inl rfl)
        · refine fx_ci (0) 42 (by decide +kernel) ?_
          refine fx_retb (by decide +kernel) (by first | exact Or.inl rfl | exact Or.inr rfl | omega) ?_
          exfalso; omega
      · refine fx_si 1 33 (by decide +kernel) (Or.inr (f_n4p (v := 1186) rfl (by decide))) rfl ?_
        dsimp only [List.set]
        refine fx_la 0 34 (v := 1186) (by decide +kernel) rfl (by decide +kernel) ?_
        refine fx_gi 1186 148 12 37 (by decide +kernel) ?_
        try simp only [fu_app, fcy_app, Nat.reduceEqDiff, and_true, and_false, false_and, true_and, if_true, if_false, ite_true, ite_false, reduceIte, Int.reduceToNat, fx_simp0]
        refine fx_rg (fun hg => ?_)
        have rf := hg 148 12 (by decide) (by decide +kernel) (by decide +kernel)
        unfold fR at rf
        refine fx_cn (-1) 38 (by decide +kernel) (fun v37 c37 => ?_)
        refine fx_ieq 43 41 (by decide +kernel) (by unfold fR; omega) (by unfold fR; omega) (fun h38 => ?_) (fun h38 => ?_)
        · have q1 := h3.1
          have q2 := h3.2.1
          exfalso; omega
        · refine fx_ci (0) 42 (by decide +kernel) ?_
          refine fx_retb (by decide +kernel) (by first | exact Or.inl rfl | exact Or.inr rfl | omega) ?_
          exact k2 q 0 g3 (pCmp_f p3) h3 (Or.inl rfl)
end G5H
end
section
/-! fx: the reference reads the law: atoms, and, or -/
theorem pWd_0 {T : Int → Int} {E f : Int} {ws : List Nat} (hn : 0 < ws.length) (h : pWd T E ws f) : T f = (ws.getD 0 0 : Nat) := by
  have := h.2 0 hn
  rw [show f + ((0 : Nat) : Int) = f by omega] at this
  exact this
theorem pA_pl {T : Int → Int} {E f d : Int} {c : List Int} {j : Bool} {n : Nat} (t : ¬ pSg T E 40 f) (t1 : ¬ pWd T E [110, 111, 116] f) : pCd T E (n + 1) 0 d f c j = pPl T E f c := (cif_f t).trans (cif_f t1)
theorem b01_and {a b : Int} (ha : a = 0 ∨ a = 1) (hb : b = 0 ∨ b = 1) : fop 3 a b = if a = 0 ∨ b = 0 then 0 else 1 := by
  rcases ha with rfl | rfl <;> rcases hb with rfl | rfl <;> decide +kernel
theorem b01_or {a b : Int} (ha : a = 0 ∨ a = 1) (hb : b = 0 ∨ b = 1) : fop 4 a b = if a = 0 ∧ b = 0 then 0 else 1 := by
  rcases ha with rfl | rfl <;> rcases hb with rfl | rfl <;> decide +kernel
/-- how the reference reads an atom (k = 0), what is joined by and (1), by or (2) -/
def ReS (T : Int → Int) (E : Int) (k : Nat) (mi ml : Nat) (dp : Int) (dd : Nat) : Prop := ∀ (W : ax_W) (r : Nat) (g g0 : Nat → Nat → Int) (Q : Nat → Nat → (Nat → Nat → Int) → Prop) (f : Int) (c : List Int) (n : Nat), (g0 148 15 = 0 ∨ g0 148 15 = 1) → (g0 148 16 = 0 ∨ g0 148 16 = 1) → rwS T E g0 g f dp → 3 * (E - f) + 1 + k ≤ n → (∀ f1 c1 b g', pCd T E n k dp f c false = Sum.inr (f1, c1) → rwS T E g0 g' f1 dp → evS (fF g0) c1 = b :: evS (fF g0) c → (b = 0 ∨ b = 1) → Q 1 (fI b) g') → (∀ q b g', pCd T E n k dp f c false = Sum.inl q → rwF g0 g' q (408 - dp) dp → (b = 0 ∨ b = 1) → Q 1 (fI b) g') → fx W r dd mi 0 (1186 :: List.replicate ml 7) [] g Q
def AtR (T : Int → Int) (E dp : Int) (dd : Nat) : Prop := ReS T E 0 279 3 dp dd
def EvR (T : Int → Int) (E dp : Int) (dd : Nat) : Prop := ReS T E 1 278 2 dp dd
def SoR (T : Int → Int) (E dp : Int) (dd : Nat) : Prop := ReS T E 2 277 2 dp dd
theorem ReS.up {T : Int → Int} {E dp : Int} {k mi ml dd dd' : Nat} (h : ReS T E k mi ml dp dd) (hd : dd ≤ dd') : ReS T E k mi ml dp dd' := fun W r g g0 Q f c n h1 h2 h3 h4 k1 k2 => fx.up (h W r g g0 Q f c n h1 h2 h3 h4 k1 k2) (Nat.le_refl _) hd
theorem rwS.dp {T : Int → Int} {E f dp d2 : Int} {g0 g : Nat → Nat → Int} (h : rwS T E g0 g f dp) : rwS T E g0 (fu g 148 13 d2) f d2 := by
  obtain ⟨h0, h1, h2, h3, h4, h5, h6⟩ := h
  refine ⟨RT_fu h0 (by decide) (by decide), by rw [fu_nj (by decide)]; exact h1, by rw [fu_nj (by decide)]; exact h2, by rw [fu_nj (by decide)]; exact h3, by rw [fu_nj (by decide)]; exact h4, fu_eq _ _ _ _, h6.d⟩
section G5I
variable {T : Int → Int} {E : Int}
theorem sp_ratom {dp : Int} {dd e : Nat} (hd0 : 0 ≤ dp) (hd6 : dp ≤ 6) (hS : dp < 6 → SoR T E (dp + 1) e) (hA : dp < 6 → AtR T E (dp + 1) e) (he : e + 1 ≤ dd) (hdd : 12 ≤ dd) : AtR T E dp dd := fun W r g g0 Q f c n hP hT h hn k1 k2 => by
  have ok := h.ok
  have ok1 := ok.1
  have ok2 := ok.2.1
  have hE := h.1.2.2.1
  have hf := h.2.2.2.2.1
  match n, hn, k1, k2 with
  | 0, hn, k1, k2 => exfalso; omega
  | n + 1, hn, k1, k2 =>
    show fx W r dd 279 0 [1186, 7, 7, 7] [] g Q
    refine fx_la 0 1 (v := 1186) (by decide +kernel) rfl (by decide +kernel) ?_
    refine fx_gi 1186 148 12 4 (by decide +kernel) ?_
    refine fx_cn (-1) 5 (by decide +kernel) (fun v4 c4 => ?_)
    refine fx_ieq 10 8 (by decide +kernel) (by first | exact hg 148 12 (by decide) (by decide +kernel) (by decide +kernel) | (unfold fR; omega)) (by unfold fR; omega) (fun h5 => ?_) (fun h5 => ?_)
    · refine fx_la 0 11 (v := 1186) (by decide +kernel) rfl (by decide +kernel) ?_
      refine fx_c1 276 21 14 2 [] (by decide +kernel) (by decide) rfl (by first | decide | omega) ?_
      refine sp_here h.1 h.2.1 (fK1 ?_)
      rw [h.2.2.2.1]
      refine fx_si 1 15 (by decide +kernel) (Or.inr (f_n4p (v := 1186) rfl (by decide))) rfl ?_
      dsimp only [List.set]
      refine fx_la 0 16 (v := 1186) (by decide +kernel) rfl (by decide +kernel) ?_
      refine fx_lds 429 18 (by decide +kernel) ?_
      refine fx_c2 274 21 21 4 [7, 7] (by decide +kernel) (by decide) (by decide) (by decide) rfl (by first | decide | omega) ?_
      refine sp_rhas [110, 111, 116] (by decide +kernel) h.id (fun t1 g1 s1 => fK1 ?_) (fun t1 g1 s1 _ => fK1 ?_)
      · refine fx_si 2 22 (by decide +kernel) (Or.inr (fI_n4 _)) rfl ?_
        dsimp only [List.set]
        refine fx_li 2 23 (by decide +kernel) rfl ?_
        refine fx_zne 40 26 (by decide +kernel) (by unfold fR; omega) (fun _ => ?_) (fun hc => absurd hc (by decide))
        refine fx_la 0 41 (v := 1186) (by decide +kernel) rfl (by decide +kernel) ?_
        refine fx_gi 1186 148 13 44 (by decide +kernel) ?_
        try simp only [fu_app, fcy_app, Nat.reduceEqDiff, and_true, and_false, false_and, true_and, if_true, if_false, ite_true, ite_false, reduceIte, Int.reduceToNat, fx_simp0]
        rw [s1.2.2.2.2.2.1]
        refine fx_ci (6) 46 (by decide +kernel) ?_
        refine fx_ine 56 49 (by decide +kernel) (by unfold fR; omega) (by unfold fR; omega) (fun h46 => ?_) (fun h46 => ?_)
        · refine fx_la 0 57 (v := 1186) (by decide +kernel) rfl (by decide +kernel) ?_
          refine fx_dup 58 (by decide +kernel) rfl (by decide) ?_
          refine fx_gi 1186 148 13 61 (by decide +kernel) ?_
          try simp only [fu_app, fcy_app, Nat.reduceEqDiff, and_true, and_false, false_and, true_and, if_true, if_false, ite_true, ite_false, reduceIte, Int.reduceToNat, fx_simp0]
          rw [s1.2.2.2.2.2.1]
          refine fx_ci (1) 62 (by decide +kernel) ?_
          refine fx_add 63 (by decide +kernel) rfl ?_
          refine fx_pi 1186 148 13 66 (by decide +kernel) (by unfold fR; omega) ?_
          refine fx_ci (0) 67 (by decide +kernel) ?_
          refine fx_si 3 68 (by decide +kernel) (Or.inr (fI_n4 _)) rfl ?_
          dsimp only [List.set]
          refine fx_li 2 69 (by decide +kernel) rfl ?_
          refine fx_zeq 88 72 (by decide +kernel) (by unfold fR; omega) (fun hc => absurd hc (by decide)) (fun _ => ?_)
          refine fx_la 0 73 (v := 1186) (by decide +kernel) rfl (by decide +kernel) ?_
          refine fx_c1 279 21 76 e [7, 7, 7] (by decide +kernel) (by decide) rfl (by first | decide | omega) ?_
          have tn : ¬ pSg T E 40 f := fun u => by have := pWd_0 (by decide) t1; have := u.2; simp at *; omega
          have g0' := pSk_ge T E (pWe T E f)
          have g1' : pWe T E f - f = 3 := t1.1
          have g2' := pWe_le (T := T) (E := E) (i := f) ok2
          refine hA (by omega) _ _ _ g0 _ _ c n hP hT s1.dp (by omega) (fun f3 c3 b g3 p3 s3 v3 b3 => fK1 ?_) (fun q b g3 p3 s3 b3 => fK1 ?_)
          · refine fx_zne 83 79 (by decide +kernel) (by unfold fR; omega) (fun h76 => ?_) (fun h76 => ?_)
            · refine fx_ci (0) 84 (by decide +kernel) ?_
              refine fx_si 3 85 (by decide +kernel) (Or.inr (fI_n4 _)) rfl ?_
              dsimp only [List.set]
              refine fx_go 138 (by decide +kernel) ?_
              refine fx_la 0 139 (v := 1186) (by decide +kernel) rfl (by decide +kernel) ?_
              refine fx_dup 140 (by decide +kernel) rfl (by decide) ?_
              refine fx_gi 1186 148 13 143 (by decide +kernel) ?_
              try simp only [fu_app, fcy_app, Nat.reduceEqDiff, and_true, and_false, false_and, true_and, if_true, if_false, ite_true, ite_false, reduceIte, Int.reduceToNat, fx_simp0]
              rw [s3.2.2.2.2.2.1]
              refine fx_ci (1) 144 (by decide +kernel) ?_
              refine fx_sub 145 (by decide +kernel) rfl ?_
              refine fx_pi 1186 148 13 148 (by decide +kernel) (by unfold fR; omega) ?_
              refine fx_li 3 149 (by decide +kernel) rfl ?_
              refine fx_retb (by decide +kernel) (by first | exact Or.inl rfl | exact Or.inr rfl | omega) ?_
              have e1 : dp + 1 - 1 = dp := by omega
              rw [e1]
              refine k1 _ _ _ _ (by rw [pA_n tn t1 (by omega), p3, bS_r]) s3.dp ?_ (by first | exact Or.inl rfl | exact Or.inr rfl)
              rw [evS_1, v3]
              show (1 - b) :: evS (fF g0) c = _
              first | rw [show (1 : Int) - b = 0 by omega] | rw [show (1 : Int) - b = 1 by omega]
            · refine fx_ci (1) 80 (by decide +kernel) ?_
              refine fx_go 84 (by decide +kernel) ?_
              refine fx_si 3 85 (by decide +kernel) (Or.inr (fI_n4 _)) rfl ?_
              dsimp only [List.set]
              refine fx_go 138 (by decide +kernel) ?_
              refine fx_la 0 139 (v := 1186) (by decide +kernel) rfl (by decide +kernel) ?_
              refine fx_dup 140 (by decide +kernel) rfl (by decide) ?_
              refine fx_gi 1186 148 13 143 (by decide +kernel) ?_
              try simp only [fu_app, fcy_app, Nat.reduceEqDiff, and_true, and_false, false_and, true_and, if_true, if_false, ite_true, ite_false, reduceIte, Int.reduceToNat, fx_simp0]
              rw [s3.2.2.2.2.2.1]
              refine fx_ci (1) 144 (by decide +kernel) ?_
              refine fx_sub 145 (by decide +kernel) rfl ?_
              refine fx_pi 1186 148 13 148 (by decide +kernel) (by unfold fR; omega) ?_
              refine fx_li 3 149 (by decide +kernel) rfl ?_
              refine fx_retb (by decide +kernel) (by first | exact Or.inl rfl | exact Or.inr rfl | omega) ?_
              have e1 : dp + 1 - 1 = dp := by omega
              rw [e1]
              refine k1 _ _ _ _ (by rw [pA_n tn t1 (by omega), p3, bS_r]) s3.dp ?_ (by first | exact Or.inl rfl | exact Or.inr rfl)
              rw [evS_1, v3]
              show (1 - b) :: evS (fF g0) c = _
              first | rw [show (1 : Int) - b = 0 by omega] | rw [show (1 : Int) - b = 1 by omega]
          · refine fx_zne 83 79 (by decide +kernel) (by unfold fR; omega) (fun h76 => ?_) (fun h76 => ?_)
            · refine fx_ci (0) 84 (by decide +kernel) ?_
              refine fx_si 3 85 (by decide +kernel) (Or.inr (fI_n4 _)) rfl ?_
              dsimp only [List.set]
              refine fx_go 138 (by decide +kernel) ?_
              refine fx_la 0 139 (v := 1186) (by decide +kernel) rfl (by decide +kernel) ?_
              refine fx_dup 140 (by decide +kernel) rfl (by decide) ?_
              refine fx_gi 1186 148 13 143 (by decide +kernel) ?_
              try simp only [fu_app, fcy_app, Nat.reduceEqDiff, and_true, and_false, false_and, true_and, if_true, if_false, ite_true, ite_false, reduceIte, Int.reduceToNat, fx_simp0]
              rw [s3.2.2.2.2.2]
              refine fx_ci (1) 144 (by decide +kernel) ?_
              refine fx_sub 145 (by decide +kernel) rfl ?_
              refine fx_pi 1186 148 13 148 (by decide +kernel) (by unfold fR; omega) ?_
              refine fx_li 3 149 (by decide +kernel) rfl ?_
              refine fx_retb (by decide +kernel) (by first | exact Or.inl rfl | exact Or.inr rfl | omega) ?_
              have e1 : dp + 1 - 1 = dp := by omega
              rw [e1]
              exact k2 q _ _ (by rw [pA_n tn t1 (by omega), p3, bS_l]) ⟨by rw [fu_nj (by decide)]; exact s3.1, s3.2.1, s3.2.2.1.d, by rw [fu_nj (by decide)]; exact s3.2.2.2.1, by rw [fu_nj (by decide)]; have := s3.2.2.2.2.1; omega, fu_eq _ _ _ _⟩ (by first | exact Or.inl rfl | exact Or.inr rfl)
            · refine fx_ci (1) 80 (by decide +kernel) ?_
              refine fx_go 84 (by decide +kernel) ?_
              refine fx_si 3 85 (by decide +kernel) (Or.inr (fI_n4 _)) rfl ?_
              dsimp only [List.set]
              refine fx_go 138 (by decide +kernel) ?_
              refine fx_la 0 139 (v := 1186) (by decide +kernel) rfl (by decide +kernel) ?_
              refine fx_dup 140 (by decide +kernel) rfl (by decide) ?_
              refine fx_gi 1186 148 13 143 (by decide +kernel) ?_
              try simp only [fu_app, fcy_app, Nat.reduceEqDiff, and_true, and_false, false_and, true_and, if_true, if_false, ite_true, ite_false, reduceIte, Int.reduceToNat, fx_simp0]
              rw [s3.2.2.2.2.2]
              refine fx_ci (1) 144 (by decide +kernel) ?_
              refine fx_sub 145 (by decide +kernel) rfl ?_
              refine fx_pi 1186 148 13 148 (by decide +kernel) (by unfold fR; omega) ?_
              refine fx_li 3 149 (by decide +kernel) rfl ?_
              refine fx_retb (by decide +kernel) (by first | exact Or.inl rfl | exact Or.inr rfl | omega) ?_
              have e1 : dp + 1 - 1 = dp := by omega
              rw [e1]
              exact k2 q _ _ (by rw [pA_n tn t1 (by omega), p3, bS_l]) ⟨by rw [fu_nj (by decide)]; exact s3.1, s3.2.1, s3.2.2.1.d, by rw [fu_nj (by decide)]; exact s3.2.2.2.1, by rw [fu_nj (by decide)]; have := s3.2.2.2.2.1; omega, fu_eq _ _ _ _⟩ (by first | exact Or.inl rfl | exact Or.inr rfl)
        · refine fx_la 0 50 (v := 1186) (by decide +kernel) rfl (by decide +kernel) ?_
          refine fx_li 1 51 (by decide +kernel) rfl ?_
          refine fx_c2 272 21 54 0 [] (by decide +kernel) (by decide) (by decide) (fI_n4 _) rfl (by first | decide | omega) ?_
          refine sp_wrong s1.2.2.2.2.1 (by unfold fR; omega) (fK0 ?_)
          refine fx_ci (0) 55 (by decide +kernel) ?_
          refine fx_retb (by decide +kernel) (by first | exact Or.inl rfl | exact Or.inr rfl | omega) ?_
          have tn : ¬ pSg T E 40 f := fun u => by have := pWd_0 (by decide) t1; have := u.2; simp at *; omega
          have b0 := s1.2.1
          have b1 := s1.2.2.1
          exact k2 f 0 _ (pA_n6 tn t1 (by omega)) ⟨fu_eq _ _ _ _, ok1, s1.2.2.2.2.2.2.f, by rw [fu_nj (by decide)]; exact b0, by rw [fu_nj (by decide)]; omega, by rw [fu_nj (by decide)]; exact s1.2.2.2.2.2.1⟩ (Or.inl rfl)
      · refine fx_si 2 22 (by decide +kernel) (Or.inr (fI_n4 _)) rfl ?_
        dsimp only [List.set]
        refine fx_li 2 23 (by decide +kernel) rfl ?_
        refine fx_zne 40 26 (by decide +kernel) (by unfold fR; omega) (fun hc => absurd hc (by decide)) (fun _ => ?_)
        refine fx_la 0 27 (v := 1186) (by decide +kernel) rfl (by decide +kernel) ?_
        refine fx_ci (40) 29 (by decide +kernel) ?_
        refine fx_c2 280 21 32 2 [] (by decide +kernel) (by decide) (by decide) (fI_n4 _) rfl (by first | decide | omega) ?_
        refine sp_rsign s1 (by unfold fR; omega) (fun t g2 s2 a2 => fK1 ?_) (fun t g2 s2 a2 => fK1 ?_)
        · refine fx_zne 40 35 (by decide +kernel) (by unfold fR; omega) (fun _ => ?_) (fun hc => absurd hc (by decide))
          refine fx_la 0 41 (v := 1186) (by decide +kernel) rfl (by decide +kernel) ?_
          refine fx_gi 1186 148 13 44 (by decide +kernel) ?_
          try simp only [fu_app, fcy_app, Nat.reduceEqDiff, and_true, and_false, false_and, true_and, if_true, if_false, ite_true, ite_false, reduceIte, Int.reduceToNat, fx_simp0]
          rw [s2.2.2.2.2.2.1]
          refine fx_ci (6) 46 (by decide +kernel) ?_
          refine fx_ine 56 49 (by decide +kernel) (by unfold fR; omega) (by unfold fR; omega) (fun h46 => ?_) (fun h46 => ?_)
          · refine fx_la 0 57 (v := 1186) (by decide +kernel) rfl (by decide +kernel) ?_
            refine fx_dup 58 (by decide +kernel) rfl (by decide) ?_
            refine fx_gi 1186 148 13 61 (by decide +kernel) ?_
            try simp only [fu_app, fcy_app, Nat.reduceEqDiff, and_true, and_false, false_and, true_and, if_true, if_false, ite_true, ite_false, reduceIte, Int.reduceToNat, fx_simp0]
            rw [s2.2.2.2.2.2.1]
            refine fx_ci (1) 62 (by decide +kernel) ?_
            refine fx_add 63 (by decide +kernel) rfl ?_
            refine fx_pi 1186 148 13 66 (by decide +kernel) (by unfold fR; omega) ?_
            refine fx_ci (0) 67 (by decide +kernel) ?_
            refine fx_si 3 68 (by decide +kernel) (Or.inr (fI_n4 _)) rfl ?_
            dsimp only [List.set]
            refine fx_li 2 69 (by decide +kernel) rfl ?_
            refine fx_zeq 88 72 (by decide +kernel) (by unfold fR; omega) (fun _ => ?_) (fun hc => absurd hc (by decide))
            refine fx_la 0 89 (v := 1186) (by decide +kernel) rfl (by decide +kernel) ?_
            refine fx_dup 90 (by decide +kernel) rfl (by decide) ?_
            refine fx_gi 1186 148 11 93 (by decide +kernel) ?_
            try simp only [fu_app, fcy_app, Nat.reduceEqDiff, and_true, and_false, false_and, true_and, if_true, if_false, ite_true, ite_false, reduceIte, Int.reduceToNat, fx_simp0]
            rw [a2]
            refine fx_ci (1) 94 (by decide +kernel) ?_
            refine fx_add 95 (by decide +kernel) rfl ?_
            refine fx_pi 1186 148 11 98 (by decide +kernel) (by unfold fR; omega) ?_
            refine fx_la 0 99 (v := 1186) (by decide +kernel) rfl (by decide +kernel) ?_
            refine fx_c1 277 21 102 e [7, 7] (by decide +kernel) (by decide) rfl (by first | decide | omega) ?_
            have g0' := pSk_ge T E (f + 1)
            have fE := t.1
            have s4 := (s2.dp (d2 := dp + 1)).to (a := f + 1) (by omega) (by omega)
            refine hS (by omega) _ _ _ g0 _ _ c n hP hT s4 (by omega) (fun f3 c3 b g3 p3 s3 v3 b3 => fK1 ?_) (fun q b g3 p3 s3 b3 => fK1 ?_)
            have o31 := s3.ok.1
            have o32 := s3.ok.2.1
            · refine fx_si 3 103 (by decide +kernel) (Or.inr (fI_n4 _)) rfl ?_
              dsimp only [List.set]
              refine fx_la 0 104 (v := 1186) (by decide +kernel) rfl (by decide +kernel) ?_
              refine fx_gi 1186 148 12 107 (by decide +kernel) ?_
              try simp only [fu_app, fcy_app, Nat.reduceEqDiff, and_true, and_false, false_and, true_and, if_true, if_false, ite_true, ite_false, reduceIte, Int.reduceToNat, fx_simp0]
              refine fx_rg (fun hg => ?_)
              have rf := hg 148 12 (by decide) (by decide +kernel) (by decide +kernel)
              unfold fR at rf
              refine fx_cn (-1) 108 (by decide +kernel) (fun v107 c107 => ?_)
              refine fx_ine 128 111 (by decide +kernel) (by unfold fR; omega) (by unfold fR; omega) (fun h108 => ?_) (fun h108 => ?_)
              · have q1 := s3.2.2.2.2.1
                exfalso; omega
              · refine fx_la 0 112 (v := 1186) (by decide +kernel) rfl (by decide +kernel) ?_
                refine fx_ci (41) 114 (by decide +kernel) ?_
                refine fx_c2 280 21 117 2 [] (by decide +kernel) (by decide) (by decide) (fI_n4 _) rfl (by first | decide | omega) ?_
                refine sp_rsign s3 (by unfold fR; omega) (fun t5 g5 s5 a5 => fK1 ?_) (fun t5 g5 s5 a5 => fK1 ?_)
                · refine fx_zne 128 120 (by decide +kernel) (by unfold fR; omega) (fun _ => ?_) (fun hc => absurd hc (by decide))
                  refine fx_la 0 129 (v := 1186) (by decide +kernel) rfl (by decide +kernel) ?_
                  refine fx_dup 130 (by decide +kernel) rfl (by decide) ?_
                  refine fx_gi 1186 148 11 133 (by decide +kernel) ?_
                  try simp only [fu_app, fcy_app, Nat.reduceEqDiff, and_true, and_false, false_and, true_and, if_true, if_false, ite_true, ite_false, reduceIte, Int.reduceToNat, fx_simp0]
                  rw [a5]
                  refine fx_ci (1) 134 (by decide +kernel) ?_
                  refine fx_add 135 (by decide +kernel) rfl ?_
                  refine fx_pi 1186 148 11 138 (by decide +kernel) (by unfold fR; omega) ?_
                  refine fx_la 0 139 (v := 1186) (by decide +kernel) rfl (by decide +kernel) ?_
                  refine fx_dup 140 (by decide +kernel) rfl (by decide) ?_
                  refine fx_gi 1186 148 13 143 (by decide +kernel) ?_
                  try simp only [fu_app, fcy_app, Nat.reduceEqDiff, and_true, and_false, false_and, true_and, if_true, if_false, ite_true, ite_false, reduceIte, Int.reduceToNat, fx_simp0]
                  rw [s5.2.2.2.2.2.1]
                  refine fx_ci (1) 144 (by decide +kernel) ?_
                  refine fx_sub 145 (by decide +kernel) rfl ?_
                  refine fx_pi 1186 148 13 148 (by decide +kernel) (by unfold fR; omega) ?_
                  refine fx_li 3 149 (by decide +kernel) rfl ?_
                  refine fx_retb (by decide +kernel) (by first | exact Or.inl rfl | exact Or.inr rfl | omega) ?_
                  have e1 : dp + 1 - 1 = dp := by omega
                  rw [e1]
                  have f3E := t5.1
                  exact k1 _ _ b _ (by rw [pA_p t (by omega), p3, bS_r]; exact cif_t t5) (s5.to (a := f3 + 1) (by omega) (by omega)).dp v3 b3
                · refine fx_zne 128 120 (by decide +kernel) (by unfold fR; omega) (fun hc => absurd hc (by decide)) (fun _ => ?_)
                  refine fx_la 0 121 (v := 1186) (by decide +kernel) rfl (by decide +kernel) ?_
                  refine fx_la 0 122 (v := 1186) (by decide +kernel) rfl (by decide +kernel) ?_
                  refine fx_gi 1186 148 11 125 (by decide +kernel) ?_
                  try simp only [fu_app, fcy_app, Nat.reduceEqDiff, and_true, and_false, false_and, true_and, if_true, if_false, ite_true, ite_false, reduceIte, Int.reduceToNat, fx_simp0]
                  rw [a5]
                  refine fx_c2 272 21 128 0 [] (by decide +kernel) (by decide) (by decide) (fI_n4 _) rfl (by first | decide | omega) ?_
                  refine sp_wrong s5.2.2.2.2.1 (by unfold fR; omega) (fK0 ?_)
                  refine fx_la 0 129 (v := 1186) (by decide +kernel) rfl (by decide +kernel) ?_
                  refine fx_dup 130 (by decide +kernel) rfl (by decide) ?_
                  refine fx_gi 1186 148 11 133 (by decide +kernel) ?_
                  try simp only [fu_app, fcy_app, Nat.reduceEqDiff, and_true, and_false, false_and, true_and, if_true, if_false, ite_true, ite_false, reduceIte, Int.reduceToNat, fx_simp0]
                  rw [a5]
                  refine fx_ci (1) 134 (by decide +kernel) ?_
                  refine fx_add 135 (by decide +kernel) rfl ?_
                  refine fx_pi 1186 148 11 138 (by decide +kernel) (by unfold fR; omega) ?_
                  refine fx_la 0 139 (v := 1186) (by decide +kernel) rfl (by decide +kernel) ?_
                  refine fx_dup 140 (by decide +kernel) rfl (by decide) ?_
                  refine fx_gi 1186 148 13 143 (by decide +kernel) ?_
                  try simp only [fu_app, fcy_app, Nat.reduceEqDiff, and_true, and_false, false_and, true_and, if_true, if_false, ite_true, ite_false, reduceIte, Int.reduceToNat, fx_simp0]
                  rw [s5.2.2.2.2.2.1]
                  refine fx_ci (1) 144 (by decide +kernel) ?_
                  refine fx_sub 145 (by decide +kernel) rfl ?_
                  refine fx_pi 1186 148 13 148 (by decide +kernel) (by unfold fR; omega) ?_
                  refine fx_li 3 149 (by decide +kernel) rfl ?_
                  refine fx_retb (by decide +kernel) (by first | exact Or.inl rfl | exact Or.inr rfl | omega) ?_
                  have e1 : dp + 1 - 1 = dp := by omega
                  rw [e1]
                  exact k2 f3 b _ (by rw [pA_p t (by omega), p3, bS_r]; exact cif_f t5) ⟨by rw [fu_nj (by decide), fu_nj (by decide), fu_eq], o31, (s5.2.2.2.2.2.2.f.a).d, by rw [fu_nj (by decide), fu_eq]; omega, by rw [fu_nj (by decide), fu_eq]; omega, fu_eq _ _ _ _⟩ b3
            · refine fx_si 3 103 (by decide +kernel) (Or.inr (fI_n4 _)) rfl ?_
              dsimp only [List.set]
              refine fx_la 0 104 (v := 1186) (by decide +kernel) rfl (by decide +kernel) ?_
              refine fx_gi 1186 148 12 107 (by decide +kernel) ?_
              try simp only [fu_app, fcy_app, Nat.reduceEqDiff, and_true, and_false, false_and, true_and, if_true, if_false, ite_true, ite_false, reduceIte, Int.reduceToNat, fx_simp0]
              refine fx_rg (fun hg => ?_)
              have rf := hg 148 12 (by decide) (by decide +kernel) (by decide +kernel)
              unfold fR at rf
              refine fx_cn (-1) 108 (by decide +kernel) (fun v107 c107 => ?_)
              refine fx_ine 128 111 (by decide +kernel) (by unfold fR; omega) (by unfold fR; omega) (fun h108 => ?_) (fun h108 => ?_)
              · refine fx_la 0 129 (v := 1186) (by decide +kernel) rfl (by decide +kernel) ?_
                refine fx_dup 130 (by decide +kernel) rfl (by decide) ?_
                refine fx_gi 1186 148 11 133 (by decide +kernel) ?_
                try simp only [fu_app, fcy_app, Nat.reduceEqDiff, and_true, and_false, false_and, true_and, if_true, if_false, ite_true, ite_false, reduceIte, Int.reduceToNat, fx_simp0]
                have b1 := s3.2.2.2.1
                have b2 := s3.2.2.2.2.1
                refine fx_ci (1) 134 (by decide +kernel) ?_
                refine fx_add 135 (by decide +kernel) rfl ?_
                refine fx_pi 1186 148 11 138 (by decide +kernel) (by unfold fR; omega) ?_
                refine fx_la 0 139 (v := 1186) (by decide +kernel) rfl (by decide +kernel) ?_
                refine fx_dup 140 (by decide +kernel) rfl (by decide) ?_
                refine fx_gi 1186 148 13 143 (by decide +kernel) ?_
                try simp only [fu_app, fcy_app, Nat.reduceEqDiff, and_true, and_false, false_and, true_and, if_true, if_false, ite_true, ite_false, reduceIte, Int.reduceToNat, fx_simp0]
                rw [s3.2.2.2.2.2]
                refine fx_ci (1) 144 (by decide +kernel) ?_
                refine fx_sub 145 (by decide +kernel) rfl ?_
                refine fx_pi 1186 148 13 148 (by decide +kernel) (by unfold fR; omega) ?_
                refine fx_li 3 149 (by decide +kernel) rfl ?_
                refine fx_retb (by decide +kernel) (by first | exact Or.inl rfl | exact Or.inr rfl | omega) ?_
                have e1 : dp + 1 - 1 = dp := by omega
                rw [e1]
                exact k2 q b _ (by rw [pA_p t (by omega), p3, bS_l]) ⟨by rw [fu_nj (by decide), fu_nj (by decide)]; exact s3.1, s3.2.1, (s3.2.2.1.a).d, by rw [fu_nj (by decide), fu_eq]; omega, by rw [fu_nj (by decide), fu_eq]; omega, fu_eq _ _ _ _⟩ b3
              · have q1 := s3.1
                have q2 := s3.2.1
                exfalso; omega
          · refine fx_la 0 50 (v := 1186) (by decide +kernel) rfl (by decide +kernel) ?_
            refine fx_li 1 51 (by decide +kernel) rfl ?_
            refine fx_c2 272 21 54 0 [] (by decide +kernel) (by decide) (by decide) (fI_n4 _) rfl (by first | decide | omega) ?_
            refine sp_wrong s2.2.2.2.2.1 (by unfold fR; omega) (fK0 ?_)
            refine fx_ci (0) 55 (by decide +kernel) ?_
            refine fx_retb (by decide +kernel) (by first | exact Or.inl rfl | exact Or.inr rfl | omega) ?_
            exact k2 f 0 _ (pA_p6 t (by omega)) ⟨fu_eq _ _ _ _, ok1, s2.2.2.2.2.2.2.f, by rw [fu_nj (by decide), a2]; exact ok1, by rw [fu_nj (by decide), a2]; omega, by rw [fu_nj (by decide)]; exact s2.2.2.2.2.2.1⟩ (Or.inl rfl)
        · refine fx_zne 40 35 (by decide +kernel) (by unfold fR; omega) (fun hc => absurd hc (by decide)) (fun _ => ?_)
          refine fx_la 0 36 (v := 1186) (by decide +kernel) rfl (by decide +kernel) ?_
          refine fx_c1 281 21 39 7 [7, 7, 7] (by decide +kernel) (by decide) rfl (by first | decide | omega) ?_
          refine sp_mplain (c := c) hP hT s2 (fun f1 c1 b g3 p3 s3 v3 b3 => fK1 ?_) (fun q b g3 p3 s3 b3 => fK1 ?_)
          · refine fx_retb (by decide +kernel) b3 ?_
            exact k1 f1 c1 b g3 ((pA_pl t t1).trans p3) s3 v3 b3
          · refine fx_retb (by decide +kernel) b3 ?_
            exact k2 q b g3 ((pA_pl t t1).trans p3) ⟨s3.1, s3.2.1, s3.2.2.1, s3.2.2.2.1, by have := s3.2.2.2.2.1; omega, s3.2.2.2.2.2⟩ b3
    · refine fx_ci (0) 9 (by decide +kernel) ?_
      refine fx_retb (by decide +kernel) (by first | exact Or.inl rfl | exact Or.inr rfl | omega) ?_
      exfalso; omega
end G5I
end
section
/-! fx: the reference reads the law: what is joined by and, by or -/
theorem pSum_mn {T : Int → Int} {E : Int} : ∀ (n : Nat) (f : Int) (c : List Int) (j : Bool) (f1 : Int) (c1 : List Int), pSum T E n f c j = Sum.inr (f1, c1) → pOk T E f → pOk T E f1 ∧ f ≤ f1
  | 0, f, c, j, f1, c1, h, _ => by cases h
  | n + 1, f, c, j, f1, c1, h, hf => by
    obtain ⟨⟨f2, v⟩, h1, h2⟩ := bS_inr h
    obtain ⟨o1, o2, -, -⟩ := pPart_ok h1 hf
    have h2 : cif (pSg T E 43 f2) (pSum T E n (pSk T E (f2 + 1)) (c ++ (v :: cond j [2000] [])) true) (Sum.inr (f2, c ++ (v :: cond j [2000] []))) = Sum.inr (f1, c1) := h2
    by_cases s : pSg T E 43 f2
    · rw [cif_t s] at h2
      have h3 := pSk_ge T E (f2 + 1)
      obtain ⟨q1, q2⟩ := pSum_mn n _ _ _ _ _ h2 (pOk_s1 o1 s)
      exact ⟨q1, by omega⟩
    · rw [cif_f s] at h2
      cases h2
      exact ⟨o1, by omega⟩
theorem pCd_mn2 {T : Int → Int} {E : Int} : ∀ (n k : Nat) (d f : Int) (c : List Int) (j : Bool) (f1 : Int) (c1 : List Int), pCd T E n k d f c j = Sum.inr (f1, c1) → pOk T E f → pOk T E f1 ∧ f ≤ f1
  | 0, _, _, _, _, _, _, _, h, _ => by cases h
  | n + 1, 0, d, f, c, j, f1, c1, h, hf => by
    by_cases s0 : pSg T E 40 f
    · have g0 := pSk_ge T E (f + 1)
      by_cases d6 : 6 ≤ d
      · rw [pA_p6 s0 d6] at h; cases h
      · rw [pA_p s0 d6] at h
        obtain ⟨⟨f2, c2⟩, h1, h2⟩ := bS_inr h
        obtain ⟨o1, o2⟩ := pCd_mn2 n 2 _ _ _ _ _ _ h1 (pOk_s1 hf s0)
        have h2 : cif (pSg T E 41 f2) (Sum.inr (pSk T E (f2 + 1), c2)) (Sum.inl f2) = Sum.inr (f1, c1) := h2
        by_cases s1 : pSg T E 41 f2
        · rw [cif_t s1] at h2
          cases h2
          have g1 := pSk_ge T E (f2 + 1)
          exact ⟨pOk_s1 o1 s1, by omega⟩
        · rw [cif_f s1] at h2; cases h2
    · have g0 := pSk_ge T E (pWe T E f)
      have g1 := pWe_ge T E f
      by_cases w1 : pWd T E [110, 111, 116] f
      · by_cases d6 : 6 ≤ d
        · rw [pA_n6 s0 w1 d6] at h; cases h
        · rw [pA_n s0 w1 d6] at h
          obtain ⟨⟨f2, c2⟩, h1, h2⟩ := bS_inr h
          obtain ⟨o1, o2⟩ := pCd_mn2 n 0 _ _ _ _ _ _ h1 (pOk_we hf)
          cases h2
          exact ⟨o1, by show f ≤ f2; omega⟩
      · by_cases w2 : pWd T E [112, 114, 111, 109, 105, 115, 101, 100] f
        · rw [pA_pr s0 w1 w2] at h
          cases h
          exact ⟨pOk_we hf, by omega⟩
        · by_cases w3 : pWd T E [116, 104, 114, 101, 101] f
          · rw [pA_th s0 w1 w2 w3] at h
            cases h
            exact ⟨pOk_we hf, by omega⟩
          · rw [pA_s s0 w1 w2 w3] at h
            unfold pCmp at h
            obtain ⟨⟨f2, c2⟩, h1, h2⟩ := bS_inr h
            obtain ⟨o1, o2⟩ := pSum_mn _ _ _ _ _ _ h1 hf
            have h2 : cif (pSg T E 60 f2) (bS (pSum T E 401 (pSk T E (f2 + 1)) c2 false) (fun b => Sum.inr (b.1, b.2 ++ [2001]))) (cif (pSg T E 62 f2) (bS (pSum T E 401 (pSk T E (f2 + 1)) c2 false) (fun b => Sum.inr (b.1, b.2 ++ [2002]))) (Sum.inl f2)) = Sum.inr (f1, c1) := h2
            have g2 := pSk_ge T E (f2 + 1)
            have nxt : ∀ (z x : Int), pSg T E z f2 → bS (pSum T E 401 (pSk T E (f2 + 1)) c2 false) (fun b => Sum.inr (b.1, b.2 ++ [x])) = Sum.inr (f1, c1) → pOk T E f1 ∧ f ≤ f1 := fun z x s h2 => by
              obtain ⟨⟨f3, c3⟩, h3, h4⟩ := bS_inr h2
              obtain ⟨q1, q2⟩ := pSum_mn _ _ _ _ _ _ h3 (pOk_s1 o1 s)
              cases h4
              exact ⟨q1, by show f ≤ f3; omega⟩
            by_cases s1 : pSg T E 60 f2
            · rw [cif_t s1] at h2
              exact nxt _ _ s1 h2
            · rw [cif_f s1] at h2
              by_cases s2 : pSg T E 62 f2
              · rw [cif_t s2] at h2
                exact nxt _ _ s2 h2
              · rw [cif_f s2] at h2; cases h2
  | n + 1, 1, d, f, c, j, f1, c1, h, hf => by
    rw [pCd_1] at h
    obtain ⟨⟨f2, c2⟩, h1, h2⟩ := bS_inr h
    obtain ⟨o1, o2⟩ := pCd_mn2 n 0 _ _ _ _ _ _ h1 hf
    have h2 : rE T E d n f2 (c2 ++ cond j [2004] []) = Sum.inr (f1, c1) := h2
    unfold rE at h2
    have g0 := pSk_ge T E (pWe T E f2)
    have g1 := pWe_ge T E f2
    by_cases w : pWd T E [97, 110, 100] f2
    · rw [cif_t w] at h2
      obtain ⟨q1, q2⟩ := pCd_mn2 n 1 _ _ _ _ _ _ h2 (pOk_we o1)
      exact ⟨q1, by omega⟩
    · rw [cif_f w] at h2
      cases h2
      exact ⟨o1, o2⟩
  | n + 1, k + 2, d, f, c, j, f1, c1, h, hf => by
    obtain ⟨⟨f2, c2⟩, h1, h2⟩ := bS_inr h
    obtain ⟨o1, o2⟩ := pCd_mn2 n 1 _ _ _ _ _ _ h1 hf
    have h2 : rO T E d n f2 (c2 ++ cond j [2005] []) = Sum.inr (f1, c1) := h2
    unfold rO at h2
    have g0 := pSk_ge T E (pWe T E f2)
    have g1 := pWe_ge T E f2
    by_cases w : pWd T E [111, 114] f2
    · rw [cif_t w] at h2
      obtain ⟨q1, q2⟩ := pCd_mn2 n 2 _ _ _ _ _ _ h2 (pOk_we o1)
      exact ⟨q1, by omega⟩
    · rw [cif_f w] at h2
      cases h2
      exact ⟨o1, o2⟩
theorem pCd_mono {T : Int → Int} {E : Int} (n k : Nat) (d f : Int) (c : List Int) (j : Bool) (f1 : Int) (c1 : List Int) (h : pCd T E n k d f c j = Sum.inr (f1, c1)) (hf : pOk T E f) : f ≤ f1 := (pCd_mn2 n k d f c j f1 c1 h hf).2
section G5J
variable {T : Int → Int} {E : Int}
theorem sp_revery_1 {dp : Int} {dd e : Nat} (hA : AtR T E dp e) (he : e + 1 ≤ dd) (hdd : 8 ≤ dd) {W : ax_W} {r : Nat} {g0 : Nat → Nat → Int} {Q : Nat → Nat → (Nat → Nat → Int) → Prop} {st : List Int} {R : Int ⊕ (Int × List Int)} (hP : g0 148 15 = 0 ∨ g0 148 15 = 1) (hT : g0 148 16 = 0 ∨ g0 148 16 = 1) (k1 : ∀ f1 c1 b g', R = Sum.inr (f1, c1) → rwS T E g0 g' f1 dp → evS (fF g0) c1 = b :: st → (b = 0 ∨ b = 1) → Q 1 (fI b) g') (k2 : ∀ q b g', R = Sum.inl q → rwF g0 g' q (408 - dp) dp → (b = 0 ∨ b = 1) → Q 1 (fI b) g') : ∀ (n : Nat) (f v : Int) (c : List Int) (x2 : Nat) (g : Nat → Nat → Int), rwS T E g0 g f dp → evS (fF g0) c = v :: st → (v = 0 ∨ v = 1) → 3 * (E - f) ≤ n → rE T E dp n f c = R → fx W r dd 278 5 [1186, fI v, x2] [] g Q
  | n, f, v, c, x2, g, h, hv, hb, hn, eR => by
    have ok := h.ok
    have ok1 := ok.1
    have ok2 := ok.2.1
    have hE := h.1.2.2.1
    have hf := h.2.2.2.2.1
    refine fx_la 0 6 (v := 1186) (by decide +kernel) rfl (by decide +kernel) ?_
    refine fx_gi 1186 148 12 9 (by decide +kernel) ?_
    refine fx_cn (-1) 10 (by decide +kernel) (fun v9 c9 => ?_)
    refine fx_ine 44 13 (by decide +kernel) (by first | exact hg 148 12 (by decide) (by decide +kernel) (by decide +kernel) | (unfold fR; omega)) (by unfold fR; omega) (fun h10 => ?_) (fun h10 => ?_)
    · exfalso; omega
    · refine fx_la 0 14 (v := 1186) (by decide +kernel) rfl (by decide +kernel) ?_
      refine fx_lds 509 16 (by decide +kernel) ?_
      refine fx_c2 274 21 19 4 [7, 7] (by decide +kernel) (by decide) (by decide) (by decide) rfl (by first | decide | omega) ?_
      refine sp_rhas [97, 110, 100] (by decide +kernel) h (fun t g1 s1 => fK1 ?_) (fun t g1 s1 _ => fK1 ?_)
      · refine fx_zeq 44 22 (by decide +kernel) (by unfold fR; omega) (fun hc => absurd hc (by decide)) (fun _ => ?_)
        have g0' := pSk_ge T E (pWe T E f)
        have g1' : pWe T E f - f = 3 := t.1
        have g2' := pWe_le (T := T) (E := E) (i := f) ok2
        have eR1 : pCd T E n 1 dp (pSk T E (pWe T E f)) c true = R := (cif_t t).symm.trans eR
        match n, hn, eR1 with
        | 0, hn, eR1 => exfalso; omega
        | n + 1, hn, eR1 =>
          rw [pCd_1] at eR1
          refine fx_la 0 23 (v := 1186) (by decide +kernel) rfl (by decide +kernel) ?_
          refine fx_c1 279 21 26 e [7, 7, 7] (by decide +kernel) (by decide) rfl (by first | decide | omega) ?_
          refine hA _ _ _ g0 _ _ c n hP hT s1 (by omega) (fun f3 c3 b g3 p3 s3 v3 b3 => fK1 ?_) (fun q b g3 p3 s3 b3 => fK1 ?_)
          rw [p3, bS_r] at eR1
          have ev : evS (fF g0) (c3 ++ [2004]) = fop 3 v b :: st := by
            rw [evS_1, v3, hv]
            rfl
          rw [b01_and hb b3] at ev
          have f3f := pCd_mono n 0 dp _ c false f3 c3 p3 (pOk_we ok)
          · refine fx_si 2 27 (by decide +kernel) (Or.inr (fI_n4 _)) rfl ?_
            dsimp only [List.set]
            refine fx_li 1 28 (by decide +kernel) rfl ?_
            refine fx_zeq 39 31 (by decide +kernel) (by unfold fR; omega) (fun h28 => ?_) (fun h28 => ?_)
            · refine fx_ci (0) 40 (by decide +kernel) ?_
              refine fx_si 1 41 (by decide +kernel) (Or.inr (f_n4p (v := 1186) rfl (by decide))) rfl ?_
              dsimp only [List.set]
              refine fx_go 5 (by decide +kernel) ?_
              first
                | exact sp_revery_1 hA he hdd hP hT k1 k2 n f3 1 (c3 ++ [2004]) _ g3 s3 (ev.trans (by first | rw [if_neg (by omega)] | rw [if_pos (by omega)])) (Or.inr rfl) (by have := s3.ok.2.1; omega) eR1
                | exact sp_revery_1 hA he hdd hP hT k1 k2 n f3 0 (c3 ++ [2004]) _ g3 s3 (ev.trans (by first | rw [if_pos (by omega)] | rw [if_neg (by omega)])) (Or.inl rfl) (by have := s3.ok.2.1; omega) eR1
            · refine fx_li 2 32 (by decide +kernel) rfl ?_
              refine fx_zeq 39 35 (by decide +kernel) (by unfold fR; omega) (fun h32 => ?_) (fun h32 => ?_)
              · refine fx_ci (0) 40 (by decide +kernel) ?_
                refine fx_si 1 41 (by decide +kernel) (Or.inr (f_n4p (v := 1186) rfl (by decide))) rfl ?_
                dsimp only [List.set]
                refine fx_go 5 (by decide +kernel) ?_
                first
                  | exact sp_revery_1 hA he hdd hP hT k1 k2 n f3 1 (c3 ++ [2004]) _ g3 s3 (ev.trans (by first | rw [if_neg (by omega)] | rw [if_pos (by omega)])) (Or.inr rfl) (by have := s3.ok.2.1; omega) eR1
                  | exact sp_revery_1 hA he hdd hP hT k1 k2 n f3 0 (c3 ++ [2004]) _ g3 s3 (ev.trans (by first | rw [if_pos (by omega)] | rw [if_neg (by omega)])) (Or.inl rfl) (by have := s3.ok.2.1; omega) eR1
              · refine fx_ci (1) 36 (by decide +kernel) ?_
                refine fx_go 40 (by decide +kernel) ?_
                refine fx_si 1 41 (by decide +kernel) (Or.inr (f_n4p (v := 1186) rfl (by decide))) rfl ?_
                dsimp only [List.set]
                refine fx_go 5 (by decide +kernel) ?_
                first
                  | exact sp_revery_1 hA he hdd hP hT k1 k2 n f3 1 (c3 ++ [2004]) _ g3 s3 (ev.trans (by first | rw [if_neg (by omega)] | rw [if_pos (by omega)])) (Or.inr rfl) (by have := s3.ok.2.1; omega) eR1
                  | exact sp_revery_1 hA he hdd hP hT k1 k2 n f3 0 (c3 ++ [2004]) _ g3 s3 (ev.trans (by first | rw [if_pos (by omega)] | rw [if_neg (by omega)])) (Or.inl rfl) (by have := s3.ok.2.1; omega) eR1
          · refine fx_si 2 27 (by decide +kernel) (Or.inr (fI_n4 _)) rfl ?_
            dsimp only [List.set]
            refine fx_li 1 28 (by decide +kernel) rfl ?_
            refine fx_zeq 39 31 (by decide +kernel) (by unfold fR; omega) (fun h28 => ?_) (fun h28 => ?_)
            · refine fx_ci (0) 40 (by decide +kernel) ?_
              refine fx_si 1 41 (by decide +kernel) (Or.inr (f_n4p (v := 1186) rfl (by decide))) rfl ?_
              dsimp only [List.set]
              refine fx_go 5 (by decide +kernel) ?_
              have q1 := s3.1
              have q2 := s3.2.1
              refine fx_rg (fun hg => ?_)
              have eq : R = Sum.inl q := by rw [← eR1, p3, bS_l]
              refine fx_la 0 6 (v := 1186) (by decide +kernel) rfl (by decide +kernel) ?_
              refine fx_gi 1186 148 12 9 (by decide +kernel) ?_
              refine fx_cn (-1) 10 (by decide +kernel) (fun v9 c9 => ?_)
              refine fx_ine 44 13 (by decide +kernel) (by first | exact hg 148 12 (by decide) (by decide +kernel) (by decide +kernel) | (unfold fR; omega)) (by unfold fR; omega) (fun h10 => ?_) (fun h10 => ?_)
              · refine fx_li 1 45 (by decide +kernel) rfl ?_
                refine fx_retb (by decide +kernel) (by first | exact Or.inl rfl | exact Or.inr rfl | omega) ?_
                exact k2 q _ g3 eq s3 (by first | exact Or.inl rfl | exact Or.inr rfl)
              · exfalso; omega
            · refine fx_li 2 32 (by decide +kernel) rfl ?_
              refine fx_zeq 39 35 (by decide +kernel) (by unfold fR; omega) (fun h32 => ?_) (fun h32 => ?_)
              · refine fx_ci (0) 40 (by decide +kernel) ?_
                refine fx_si 1 41 (by decide +kernel) (Or.inr (f_n4p (v := 1186) rfl (by decide))) rfl ?_
                dsimp only [List.set]
                refine fx_go 5 (by decide +kernel) ?_
                have q1 := s3.1
                have q2 := s3.2.1
                refine fx_rg (fun hg => ?_)
                have eq : R = Sum.inl q := by rw [← eR1, p3, bS_l]
                refine fx_la 0 6 (v := 1186) (by decide +kernel) rfl (by decide +kernel) ?_
                refine fx_gi 1186 148 12 9 (by decide +kernel) ?_
                refine fx_cn (-1) 10 (by decide +kernel) (fun v9 c9 => ?_)
                refine fx_ine 44 13 (by decide +kernel) (by first | exact hg 148 12 (by decide) (by decide +kernel) (by decide +kernel) | (unfold fR; omega)) (by unfold fR; omega) (fun h10 => ?_) (fun h10 => ?_)
                · refine fx_li 1 45 (by decide +kernel) rfl ?_
                  refine fx_retb (by decide +kernel) (by first | exact Or.inl rfl | exact Or.inr rfl | omega) ?_
                  exact k2 q _ g3 eq s3 (by first | exact Or.inl rfl | exact Or.inr rfl)
                · exfalso; omega
              · refine fx_ci (1) 36 (by decide +kernel) ?_
                refine fx_go 40 (by decide +kernel) ?_
                refine fx_si 1 41 (by decide +kernel) (Or.inr (f_n4p (v := 1186) rfl (by decide))) rfl ?_
                dsimp only [List.set]
                refine fx_go 5 (by decide +kernel) ?_
                have q1 := s3.1
                have q2 := s3.2.1
                refine fx_rg (fun hg => ?_)
                have eq : R = Sum.inl q := by rw [← eR1, p3, bS_l]
                refine fx_la 0 6 (v := 1186) (by decide +kernel) rfl (by decide +kernel) ?_
                refine fx_gi 1186 148 12 9 (by decide +kernel) ?_
                refine fx_cn (-1) 10 (by decide +kernel) (fun v9 c9 => ?_)
                refine fx_ine 44 13 (by decide +kernel) (by first | exact hg 148 12 (by decide) (by decide +kernel) (by decide +kernel) | (unfold fR; omega)) (by unfold fR; omega) (fun h10 => ?_) (fun h10 => ?_)
                · refine fx_li 1 45 (by decide +kernel) rfl ?_
                  refine fx_retb (by decide +kernel) (by first | exact Or.inl rfl | exact Or.inr rfl | omega) ?_
                  exact k2 q _ g3 eq s3 (by first | exact Or.inl rfl | exact Or.inr rfl)
                · exfalso; omega
      · refine fx_zeq 44 22 (by decide +kernel) (by unfold fR; omega) (fun _ => ?_) (fun hc => absurd hc (by decide))
        refine fx_li 1 45 (by decide +kernel) rfl ?_
        refine fx_retb (by decide +kernel) (by first | exact Or.inl rfl | exact Or.inr rfl | omega) ?_
        refine k1 f c v g1 ?_ s1 hv hb
        rw [← eR]
        exact cif_f t
theorem sp_revery {dp : Int} {dd e : Nat} (hA : AtR T E dp e) (he : e + 1 ≤ dd) (hdd : 8 ≤ dd) : EvR T E dp dd := fun W r g g0 Q f c n hP hT h hn k1 k2 => by
  have ok := h.ok
  match n, hn, k1, k2 with
  | 0, hn, k1, k2 => exfalso; have := ok.2.1; omega
  | n + 1, hn, k1, k2 =>
    show fx W r dd 278 0 [1186, 7, 7] [] g Q
    refine fx_la 0 1 (v := 1186) (by decide +kernel) rfl (by decide +kernel) ?_
    refine fx_c1 279 21 4 e [7, 7, 7] (by decide +kernel) (by decide) rfl (by first | decide | omega) ?_
    refine hA _ _ _ g0 _ _ c n hP hT h (by omega) (fun f3 c3 b g3 p3 s3 v3 b3 => fK1 ?_) (fun q b g3 p3 s3 b3 => fK1 ?_)
    have f3f : f ≤ f3 := by
      have o := pCd_mono n 0 dp _ c false f3 c3 p3 ok
      omega
    · refine fx_si 1 5 (by decide +kernel) (Or.inr (f_n4p (v := 1186) rfl (by decide))) rfl ?_
      dsimp only [List.set]
      refine sp_revery_1 hA he hdd hP hT (R := pCd T E (n + 1) 1 dp f c false) k1 k2 n f3 b c3 _ g3 s3 v3 b3 (by omega) ?_
      rw [pCd_1, p3, bS_r]
      show _ = rE T E dp n f3 (c3 ++ [])
      rw [List.append_nil]
    · refine fx_si 1 5 (by decide +kernel) (Or.inr (f_n4p (v := 1186) rfl (by decide))) rfl ?_
      dsimp only [List.set]
      have q1 := s3.1
      have q2 := s3.2.1
      refine fx_rg (fun hg => ?_)
      refine fx_la 0 6 (v := 1186) (by decide +kernel) rfl (by decide +kernel) ?_
      refine fx_gi 1186 148 12 9 (by decide +kernel) ?_
      refine fx_cn (-1) 10 (by decide +kernel) (fun v9 c9 => ?_)
      refine fx_ine 44 13 (by decide +kernel) (by first | exact hg 148 12 (by decide) (by decide +kernel) (by decide +kernel) | (unfold fR; omega)) (by unfold fR; omega) (fun h10 => ?_) (fun h10 => ?_)
      · refine fx_li 1 45 (by decide +kernel) rfl ?_
        refine fx_retb (by decide +kernel) (by first | exact Or.inl rfl | exact Or.inr rfl | omega) ?_
        exact k2 q _ g3 (by rw [pCd_1, p3, bS_l]) s3 b3
      · exfalso; omega
theorem sp_rsome_1 {dp : Int} {dd e : Nat} (hA : EvR T E dp e) (he : e + 1 ≤ dd) (hdd : 8 ≤ dd) {W : ax_W} {r : Nat} {g0 : Nat → Nat → Int} {Q : Nat → Nat → (Nat → Nat → Int) → Prop} {st : List Int} {R : Int ⊕ (Int × List Int)} (hP : g0 148 15 = 0 ∨ g0 148 15 = 1) (hT : g0 148 16 = 0 ∨ g0 148 16 = 1) (k1 : ∀ f1 c1 b g', R = Sum.inr (f1, c1) → rwS T E g0 g' f1 dp → evS (fF g0) c1 = b :: st → (b = 0 ∨ b = 1) → Q 1 (fI b) g') (k2 : ∀ q b g', R = Sum.inl q → rwF g0 g' q (408 - dp) dp → (b = 0 ∨ b = 1) → Q 1 (fI b) g') : ∀ (n : Nat) (f v : Int) (c : List Int) (x2 : Nat) (g : Nat → Nat → Int), rwS T E g0 g f dp → evS (fF g0) c = v :: st → (v = 0 ∨ v = 1) → 3 * (E - f) ≤ n → rO T E dp n f c = R → fx W r dd 277 5 [1186, fI v, x2] [] g Q
  | n, f, v, c, x2, g, h, hv, hb, hn, eR => by
    have ok := h.ok
    have ok1 := ok.1
    have ok2 := ok.2.1
    have hE := h.1.2.2.1
    have hf := h.2.2.2.2.1
    refine fx_la 0 6 (v := 1186) (by decide +kernel) rfl (by decide +kernel) ?_
    refine fx_gi 1186 148 12 9 (by decide +kernel) ?_
    refine fx_cn (-1) 10 (by decide +kernel) (fun v9 c9 => ?_)
    refine fx_ine 44 13 (by decide +kernel) (by first | exact hg 148 12 (by decide) (by decide +kernel) (by decide +kernel) | (unfold fR; omega)) (by unfold fR; omega) (fun h10 => ?_) (fun h10 => ?_)
    · exfalso; omega
    · refine fx_la 0 14 (v := 1186) (by decide +kernel) rfl (by decide +kernel) ?_
      refine fx_lds 517 16 (by decide +kernel) ?_
      refine fx_c2 274 21 19 4 [7, 7] (by decide +kernel) (by decide) (by decide) (by decide) rfl (by first | decide | omega) ?_
      refine sp_rhas [111, 114] (by decide +kernel) h (fun t g1 s1 => fK1 ?_) (fun t g1 s1 _ => fK1 ?_)
      · refine fx_zeq 44 22 (by decide +kernel) (by unfold fR; omega) (fun hc => absurd hc (by decide)) (fun _ => ?_)
        have g0' := pSk_ge T E (pWe T E f)
        have g1' : pWe T E f - f = 2 := t.1
        have g2' := pWe_le (T := T) (E := E) (i := f) ok2
        have eR1 : pCd T E n 2 dp (pSk T E (pWe T E f)) c true = R := (cif_t t).symm.trans eR
        match n, hn, eR1 with
        | 0, hn, eR1 => exfalso; omega
        | n + 1, hn, eR1 =>
          rw [pCd_2] at eR1
          refine fx_la 0 23 (v := 1186) (by decide +kernel) rfl (by decide +kernel) ?_
          refine fx_c1 278 21 26 e [7, 7] (by decide +kernel) (by decide) rfl (by first | decide | omega) ?_
          refine hA _ _ _ g0 _ _ c n hP hT s1 (by omega) (fun f3 c3 b g3 p3 s3 v3 b3 => fK1 ?_) (fun q b g3 p3 s3 b3 => fK1 ?_)
          rw [p3, bS_r] at eR1
          have ev : evS (fF g0) (c3 ++ [2005]) = fop 4 v b :: st := by
            rw [evS_1, v3, hv]
            rfl
          rw [b01_or hb b3] at ev
          have f3f := pCd_mono n 1 dp _ c false f3 c3 p3 (pOk_we ok)
          · refine fx_si 2 27 (by decide +kernel) (Or.inr (fI_n4 _)) rfl ?_
            dsimp only [List.set]
            refine fx_li 1 28 (by decide +kernel) rfl ?_
            refine fx_zne 35 31 (by decide +kernel) (by unfold fR; omega) (fun h28 => ?_) (fun h28 => ?_)
            · refine fx_ci (1) 36 (by decide +kernel) ?_
              refine fx_go 40 (by decide +kernel) ?_
              refine fx_si 1 41 (by decide +kernel) (Or.inr (f_n4p (v := 1186) rfl (by decide))) rfl ?_
              dsimp only [List.set]
              refine fx_go 5 (by decide +kernel) ?_
              first
                | exact sp_rsome_1 hA he hdd hP hT k1 k2 n f3 1 (c3 ++ [2005]) _ g3 s3 (ev.trans (by first | rw [if_neg (by omega)] | rw [if_pos (by omega)])) (Or.inr rfl) (by have := s3.ok.2.1; omega) eR1
                | exact sp_rsome_1 hA he hdd hP hT k1 k2 n f3 0 (c3 ++ [2005]) _ g3 s3 (ev.trans (by first | rw [if_pos (by omega)] | rw [if_neg (by omega)])) (Or.inl rfl) (by have := s3.ok.2.1; omega) eR1
            · refine fx_li 2 32 (by decide +kernel) rfl ?_
              refine fx_zeq 39 35 (by decide +kernel) (by unfold fR; omega) (fun h32 => ?_) (fun h32 => ?_)
              · refine fx_ci (0) 40 (by decide +kernel) ?_
                refine fx_si 1 41 (by decide +kernel) (Or.inr (f_n4p (v := 1186) rfl (by decide))) rfl ?_
                dsimp only [List.set]
                refine fx_go 5 (by decide +kernel) ?_
                first
                  | exact sp_rsome_1 hA he hdd hP hT k1 k2 n f3 1 (c3 ++ [2005]) _ g3 s3 (ev.trans (by first | rw [if_neg (by omega)] | rw [if_pos (by omega)])) (Or.inr rfl) (by have := s3.ok.2.1; omega) eR1
                  | exact sp_rsome_1 hA he hdd hP hT k1 k2 n f3 0 (c3 ++ [2005]) _ g3 s3 (ev.trans (by first | rw [if_pos (by omega)] | rw [if_neg (by omega)])) (Or.inl rfl) (by have := s3.ok.2.1; omega) eR1
              · refine fx_ci (1) 36 (by decide +kernel) ?_
                refine fx_go 40 (by decide +kernel) ?_
                refine fx_si 1 41 (by decide +kernel) (Or.inr (f_n4p (v := 1186) rfl (by decide))) rfl ?_
                dsimp only [List.set]
                refine fx_go 5 (by decide +kernel) ?_
                first
                  | exact sp_rsome_1 hA he hdd hP hT k1 k2 n f3 1 (c3 ++ [2005]) _ g3 s3 (ev.trans (by first | rw [if_neg (by omega)] | rw [if_pos (by omega)])) (Or.inr rfl) (by have := s3.ok.2.1; omega) eR1
                  | exact sp_rsome_1 hA he hdd hP hT k1 k2 n f3 0 (c3 ++ [2005]) _ g3 s3 (ev.trans (by first | rw [if_pos (by omega)] | rw [if_neg (by omega)])) (Or.inl rfl) (by have := s3.ok.2.1; omega) eR1
          · refine fx_si 2 27 (by decide +kernel) (Or.inr (fI_n4 _)) rfl ?_
            dsimp only [List.set]
            refine fx_li 1 28 (by decide +kernel) rfl ?_
            refine fx_zne 35 31 (by decide +kernel) (by unfold fR; omega) (fun h28 => ?_) (fun h28 => ?_)
            · refine fx_ci (1) 36 (by decide +kernel) ?_
              refine fx_go 40 (by decide +kernel) ?_
              refine fx_si 1 41 (by decide +kernel) (Or.inr (f_n4p (v := 1186) rfl (by decide))) rfl ?_
              dsimp only [List.set]
              refine fx_go 5 (by decide +kernel) ?_
              have q1 := s3.1
              have q2 := s3.2.1
              refine fx_rg (fun hg => ?_)
              have eq : R = Sum.inl q := by rw [← eR1, p3, bS_l]
              refine fx_la 0 6 (v := 1186) (by decide +kernel) rfl (by decide +kernel) ?_
              refine fx_gi 1186 148 12 9 (by decide +kernel) ?_
              refine fx_cn (-1) 10 (by decide +kernel) (fun v9 c9 => ?_)
              refine fx_ine 44 13 (by decide +kernel) (by first | exact hg 148 12 (by decide) (by decide +kernel) (by decide +kernel) | (unfold fR; omega)) (by unfold fR; omega) (fun h10 => ?_) (fun h10 => ?_)
              · refine fx_li 1 45 (by decide +kernel) rfl ?_
                refine fx_retb (by decide +kernel) (by first | exact Or.inl rfl | exact Or.inr rfl | omega) ?_
                exact k2 q _ g3 eq s3 (by first | exact Or.inl rfl | exact Or.inr rfl)
              · exfalso; omega
            · refine fx_li 2 32 (by decide +kernel) rfl ?_
              refine fx_zeq 39 35 (by decide +kernel) (by unfold fR; omega) (fun h32 => ?_) (fun h32 => ?_)
              · refine fx_ci (0) 40 (by decide +kernel) ?_
                refine fx_si 1 41 (by decide +kernel) (Or.inr (f_n4p (v := 1186) rfl (by decide))) rfl ?_
                dsimp only [List.set]
                refine fx_go 5 (by decide +kernel) ?_
                have q1 := s3.1
                have q2 := s3.2.1
                refine fx_rg (fun hg => ?_)
                have eq : R = Sum.inl q := by rw [← eR1, p3, bS_l]
                refine fx_la 0 6 (v := 1186) (by decide +kernel) rfl (by decide +kernel) ?_
                refine fx_gi 1186 148 12 9 (by decide +kernel) ?_
                refine fx_cn (-1) 10 (by decide +kernel) (fun v9 c9 => ?_)
                refine fx_ine 44 13 (by decide +kernel) (by first | exact hg 148 12 (by decide) (by decide +kernel) (by decide +kernel) | (unfold fR; omega)) (by unfold fR; omega) (fun h10 => ?_) (fun h10 => ?_)
                · refine fx_li 1 45 (by decide +kernel) rfl ?_
                  refine fx_retb (by decide +kernel) (by first | exact Or.inl rfl | exact Or.inr rfl | omega) ?_
                  exact k2 q _ g3 eq s3 (by first | exact Or.inl rfl | exact Or.inr rfl)
                · exfalso; omega
              · refine fx_ci (1) 36 (by decide +kernel) ?_
                refine fx_go 40 (by decide +kernel) ?_
                refine fx_si 1 41 (by decide +kernel) (Or.inr (f_n4p (v := 1186) rfl (by decide))) rfl ?_
                dsimp only [List.set]
                refine fx_go 5 (by decide +kernel) ?_
                have q1 := s3.1
                have q2 := s3.2.1
                refine fx_rg (fun hg => ?_)
                have eq : R = Sum.inl q := by rw [← eR1, p3, bS_l]
                refine fx_la 0 6 (v := 1186) (by decide +kernel) rfl (by decide +kernel) ?_
                refine fx_gi 1186 148 12 9 (by decide +kernel) ?_
                refine fx_cn (-1) 10 (by decide +kernel) (fun v9 c9 => ?_)
                refine fx_ine 44 13 (by decide +kernel) (by first | exact hg 148 12 (by decide) (by decide +kernel) (by decide +kernel) | (unfold fR; omega)) (by unfold fR; omega) (fun h10 => ?_) (fun h10 => ?_)
                · refine fx_li 1 45 (by decide +kernel) rfl ?_
                  refine fx_retb (by decide +kernel) (by first | exact Or.inl rfl | exact Or.inr rfl | omega) ?_
                  exact k2 q _ g3 eq s3 (by first | exact Or.inl rfl | exact Or.inr rfl)
                · exfalso; omega
      · refine fx_zeq 44 22 (by decide +kernel) (by unfold fR; omega) (fun _ => ?_) (fun hc => absurd hc (by decide))
        refine fx_li 1 45 (by decide +kernel) rfl ?_
        refine fx_retb (by decide +kernel) (by first | exact Or.inl rfl | exact Or.inr rfl | omega) ?_
        refine k1 f c v g1 ?_ s1 hv hb
        rw [← eR]
        exact cif_f t
theorem sp_rsome {dp : Int} {dd e : Nat} (hA : EvR T E dp e) (he : e + 1 ≤ dd) (hdd : 8 ≤ dd) : SoR T E dp dd := fun W r g g0 Q f c n hP hT h hn k1 k2 => by
  have ok := h.ok
  match n, hn, k1, k2 with
  | 0, hn, k1, k2 => exfalso; have := ok.2.1; omega
  | n + 1, hn, k1, k2 =>
    show fx W r dd 277 0 [1186, 7, 7] [] g Q
    refine fx_la 0 1 (v := 1186) (by decide +kernel) rfl (by decide +kernel) ?_
    refine fx_c1 278 21 4 e [7, 7] (by decide +kernel) (by decide) rfl (by first | decide | omega) ?_
    refine hA _ _ _ g0 _ _ c n hP hT h (by omega) (fun f3 c3 b g3 p3 s3 v3 b3 => fK1 ?_) (fun q b g3 p3 s3 b3 => fK1 ?_)
    have f3f : f ≤ f3 := by
      have o := pCd_mono n 1 dp _ c false f3 c3 p3 ok
      omega
    · refine fx_si 1 5 (by decide +kernel) (Or.inr (f_n4p (v := 1186) rfl (by decide))) rfl ?_
      dsimp only [List.set]
      refine sp_rsome_1 hA he hdd hP hT (R := pCd T E (n + 1) 2 dp f c false) k1 k2 n f3 b c3 _ g3 s3 v3 b3 (by omega) ?_
      rw [pCd_2, p3, bS_r]
      show _ = rO T E dp n f3 (c3 ++ [])
      rw [List.append_nil]
    · refine fx_si 1 5 (by decide +kernel) (Or.inr (f_n4p (v := 1186) rfl (by decide))) rfl ?_
      dsimp only [List.set]
      have q1 := s3.1
      have q2 := s3.2.1
      refine fx_rg (fun hg => ?_)
      refine fx_la 0 6 (v := 1186) (by decide +kernel) rfl (by decide +kernel) ?_
      refine fx_gi 1186 148 12 9 (by decide +kernel) ?_
      refine fx_cn (-1) 10 (by decide +kernel) (fun v9 c9 => ?_)
      refine fx_ine 44 13 (by decide +kernel) (by first | exact hg 148 12 (by decide) (by decide +kernel) (by decide +kernel) | (unfold fR; omega)) (by unfold fR; omega) (fun h10 => ?_) (fun h10 => ?_)
      · refine fx_li 1 45 (by decide +kernel) rfl ?_
        refine fx_retb (by decide +kernel) (by first | exact Or.inl rfl | exact Or.inr rfl | omega) ?_
        exact k2 q _ g3 (by rw [pCd_2, p3, bS_l]) s3 b3
      · exfalso; omega
theorem sp_rAll : ∀ k : Nat, k ≤ 6 → AtR T E (6 - k) (12 + 3 * k) ∧ SoR T E (6 - k) (14 + 3 * k)
  | 0, _ => by
    have a : AtR T E (6 - ((0 : Nat) : Int)) (12 + 3 * 0) := sp_ratom (e := 11) (by decide) (by decide) (fun t => absurd t (by decide)) (fun t => absurd t (by decide)) (by decide) (by decide)
    have v : EvR T E (6 - ((0 : Nat) : Int)) 13 := sp_revery a (by decide) (by decide)
    exact ⟨a, sp_rsome v (by decide) (by decide)⟩
  | k + 1, hk => by
    obtain ⟨a, c⟩ := sp_rAll k (by omega)
    have e : 6 - ((k + 1 : Nat) : Int) + 1 = 6 - (k : Int) := by omega
    have a' : AtR T E (6 - ((k + 1 : Nat) : Int)) (12 + 3 * (k + 1)) := sp_ratom (e := 14 + 3 * k) (by omega) (by omega) (fun _ => by rw [e]; exact c) (fun _ => by rw [e]; exact a.up (by omega)) (by omega) (by omega)
    have v : EvR T E (6 - ((k + 1 : Nat) : Int)) (13 + 3 * (k + 1)) := sp_revery a' (by omega) (by omega)
    exact ⟨a', sp_rsome v (by omega) (by omega)⟩
theorem sp_rS0 : SoR T E 0 32 := (sp_rAll (T := T) (E := E) 6 (Nat.le_refl _)).2
end G5J
end
