/-! fx: what is eaten by the law, what may be taken off: the reference -/
theorem fop_0 {x y : Int} (h : fR (x + y)) : fop 0 x y = x + y := fI_inj (fop_R _ _ _) h (fI_add x y)
/-- the law of the reference's row: its lines -/
def LwR (t : Nat → Int) (segs : List (List Int × Int × Int)) : Prop := (∀ k : Nat, k < 400 → 0 ≤ t (364 + k) ∧ t (364 + k) ≤ 255) ∧ (0 ≤ t 2 ∧ t 2 ≤ 400) ∧ ((t 1 = -1 ∧ segs = []) ∨ (pLawR (tTx t) (t 2) = Sum.inr segs ∧ t 1 = (segs.length : Int))) ∧ segs.length ≤ 12
theorem RLw_2 {g : Nat → Nat → Int} {t : Nat → Int} (h : RLw 8 g t) : ∃ segs, LwR t segs ∧ LwL g segs := by
  obtain ⟨h1, h2, h3⟩ := h
  rcases h3 with ⟨a1, a2⟩ | ⟨segs, a1, a2, a3, a4, a5⟩
  · exact ⟨[], ⟨h1, h2, Or.inl ⟨a1, rfl⟩, by decide⟩, Or.inr ⟨rfl, a2⟩, by decide, fun i hi => absurd hi (Nat.not_lt_zero _)⟩
  · exact ⟨segs, ⟨h1, h2, Or.inr ⟨a1, a2⟩, a4⟩, Or.inl a3, a4, a5⟩
theorem LwR.ok {t : Nat → Int} {segs : List (List Int × Int × Int)} (h : LwR t segs) {F : Nat → Int} (hF : (F 7 = 0 ∨ F 7 = 1) ∧ (F 8 = 0 ∨ F 8 = 1)) : SgOK F segs := by
  rcases h.2.2.1 with ⟨-, e⟩ | ⟨e, -⟩
  · subst e
    intro s hs
    cases hs
  · exact pLawR_W hF h.2.1.1 e
/-- the facts of a person of the row t -/
def mFv (t : Nat → Int) (p : Nat) (pl d : Int) (k : Nat) : Int := [(p : Int), pl, d, t (18 + 7 * p), t (13 + 7 * p), t (14 + 7 * p), t 9, if t (16 + 7 * p) = -1 then 0 else 1, if t (15 + 7 * p) = 3 then 1 else 0].getD (min k 8) 0
theorem if_01 {P : Prop} [d : Decidable P] : (if P then (1 : Int) else 0) = 0 ∨ (if P then (1 : Int) else 0) = 1 := by
  split
  · exact Or.inr rfl
  · exact Or.inl rfl
theorem if_10 {P : Prop} [d : Decidable P] : (if P then (0 : Int) else 1) = 0 ∨ (if P then (0 : Int) else 1) = 1 := by
  split
  · exact Or.inl rfl
  · exact Or.inr rfl
theorem mFv_7 (t : Nat → Int) (p : Nat) (pl d : Int) : mFv t p pl d 7 = if t (16 + 7 * p) = -1 then 0 else 1 := rfl
theorem mFv_8 (t : Nat → Int) (p : Nat) (pl d : Int) : mFv t p pl d 8 = if t (15 + 7 * p) = 3 then 1 else 0 := rfl
theorem mFv_78 (t : Nat → Int) (p : Nat) (pl d : Int) : (mFv t p pl d 7 = 0 ∨ mFv t p pl d 7 = 1) ∧ (mFv t p pl d 8 = 0 ∨ mFv t p pl d 8 = 1) := by
  rw [mFv_7, mFv_8]
  exact ⟨if_10, if_01⟩
/-- what all lines say -/
theorem fSg_all {F : Nat → Int} (l : List (List Int × Int × Int)) : ∀ (g : Nat → Nat → Int), (∀ s ∈ l, (s.2.1 = 0 ∨ s.2.1 = 1 ∨ s.2.1 = 2) ∧ 0 ≤ s.2.2 ∧ s.2.2 ≤ 30) → l.length ≤ 12 → (g 148 18 = 0 ∨ g 148 18 = 1) → (g 148 19 = 0 ∨ g 148 19 = 1) → -1000 + 30 * l.length ≤ g 148 17 → g 148 17 ≤ 1000 - 30 * l.length → fSg F l g 148 17 = lwM F l (g 148 17) ∧ fSg F l g 148 18 = (if g 148 18 = 1 ∨ lwH l = true then 1 else 0) ∧ fSg F l g 148 19 = (if g 148 19 = 1 ∨ lwO F l = true then 1 else 0) := by
  induction l with
  | nil =>
    intro g _ _ h1 h2 _ _
    have f0 : ∀ z : Int, (z = 0 ∨ z = 1) → z = if z = 1 ∨ false = true then 1 else 0 := fun z hz => by
      rcases hz with rfl | rfl
      · rw [if_neg (by decide)]
      · rw [if_pos (Or.inl rfl)]
    exact ⟨rfl, f0 _ h1, f0 _ h2⟩
  | cons s l ih =>
    intro g hS hl h1 h2 m0 m1
    obtain ⟨k1, k2, k3⟩ := hS s (List.mem_cons_self ..)
    have ll : (s :: l).length = l.length + 1 := rfl
    rw [ll] at hl m0 m1
    have vb := vM_b (F := F) (s := s) ⟨k2, k3⟩
    have e17 : fLn s.2.1 s.2.2 (lnV F s.1) g 148 17 = g 148 17 + vM F s := by
      unfold fLn vM
      by_cases b : lnV F s.1 = 0
      · rw [if_pos b, if_pos b, fu_nj (by decide), Int.add_zero]
      · rw [if_neg b, if_neg b, fu_eq]
        have e : (if s.2.1 = 0 then s.2.2 else if s.2.1 = 1 then -s.2.2 else 0) = vM F s := by
          unfold vM
          rw [if_neg b]
        rw [e]
        exact fop_0 (by unfold fR; omega)
    have e18 : fLn s.2.1 s.2.2 (lnV F s.1) g 148 18 = if g 148 18 = 1 ∨ s.2.1 = 2 then 1 else 0 := by
      have c : (g 148 18 ≠ 0 ∨ s.2.1 = 2) ↔ (g 148 18 = 1 ∨ s.2.1 = 2) := by omega
      unfold fLn
      by_cases b : lnV F s.1 = 0
      · rw [if_pos b, fu_eq]
        simp only [c]
      · rw [if_neg b, fu_nj (by decide), fu_nj (by decide), fu_eq]
        simp only [c]
    have e19 : fLn s.2.1 s.2.2 (lnV F s.1) g 148 19 = if g 148 19 = 1 ∨ (s.2.1 = 2 ∧ lnV F s.1 ≠ 0) then 1 else 0 := by
      unfold fLn
      by_cases b : lnV F s.1 = 0
      · rw [if_pos b, fu_nj (by decide)]
        have c : (g 148 19 = 1 ∨ (s.2.1 = 2 ∧ lnV F s.1 ≠ 0)) ↔ g 148 19 = 1 := ⟨fun t => t.elim id (fun u => absurd b u.2), Or.inl⟩
        simp only [c]
        rcases h2 with e | e <;> rw [e] <;> rfl
      · rw [if_neg b, fu_nj (by decide), fu_eq]
        have c : (g 148 19 ≠ 0 ∨ s.2.1 = 2) ↔ (g 148 19 = 1 ∨ (s.2.1 = 2 ∧ lnV F s.1 ≠ 0)) := by
          refine ⟨fun t => ?_, fun t => ?_⟩
          · rcases t with t | t
            · exact Or.inl (by omega)
            · exact Or.inr ⟨t, b⟩
          · rcases t with t | t
            · exact Or.inl (by omega)
            · exact Or.inr t.1
        simp only [c]
    obtain ⟨i1, i2, i3⟩ := ih (fLn s.2.1 s.2.2 (lnV F s.1) g) (fun q hq => hS q (List.mem_cons_of_mem _ hq)) (by omega) (by rw [e18]; split <;> simp) (by rw [e19]; split <;> simp) (by rw [e17]; omega) (by rw [e17]; omega)
    have ef : fSg F (s :: l) g = fSg F l (fLn s.2.1 s.2.2 (lnV F s.1) g) := rfl
    rw [ef]
    refine ⟨?_, ?_, ?_⟩
    · rw [i1, e17]; rfl
    · rw [i2, e18]
      have c : ((if g 148 18 = 1 ∨ s.2.1 = 2 then (1 : Int) else 0) = 1 ∨ lwH l = true) ↔ (g 148 18 = 1 ∨ lwH (s :: l) = true) := by
        have e : lwH (s :: l) = (decide (s.2.1 = 2) || lwH l) := rfl
        rw [e, Bool.or_eq_true, decide_eq_true_eq]
        by_cases a : g 148 18 = 1 ∨ s.2.1 = 2
        · rw [if_pos a]
          exact ⟨fun _ => by rcases a with a | a; exact Or.inl a; exact Or.inr (Or.inl a), fun _ => Or.inl rfl⟩
        · rw [if_neg a]
          exact ⟨fun t => t.elim (fun t => absurd t (by decide)) (fun t => Or.inr (Or.inr t)), fun t => by rcases t with t | t | t; exact absurd (Or.inl t) a; exact absurd (Or.inr t) a; exact Or.inr t⟩
      simp only [c]
    · rw [i3, e19]
      have c : ((if g 148 19 = 1 ∨ (s.2.1 = 2 ∧ lnV F s.1 ≠ 0) then (1 : Int) else 0) = 1 ∨ lwO F l = true) ↔ (g 148 19 = 1 ∨ lwO F (s :: l) = true) := by
        have e : lwO F (s :: l) = (decide (s.2.1 = 2 ∧ lnV F s.1 ≠ 0) || lwO F l) := rfl
        rw [e, Bool.or_eq_true, decide_eq_true_eq]
        by_cases a : g 148 19 = 1 ∨ (s.2.1 = 2 ∧ lnV F s.1 ≠ 0)
        · rw [if_pos a]
          exact ⟨fun _ => by rcases a with a | a; exact Or.inl a; exact Or.inr (Or.inl a), fun _ => Or.inl rfl⟩
        · rw [if_neg a]
          exact ⟨fun t => t.elim (fun t => absurd t (by decide)) (fun t => Or.inr (Or.inr t)), fun t => by rcases t with t | t | t; exact absurd (Or.inl t) a; exact absurd (Or.inr t) a; exact Or.inr t⟩
      simp only [c]
/-- what asking writes -/
def rA (g g' : Nat → Nat → Int) : Prop := ∀ c j, c ≠ 154 → ¬ (c = 148 ∧ (j = 9 ∨ j = 10 ∨ j = 11 ∨ j = 13 ∨ (15 ≤ j ∧ j ≤ 19))) → g' c j = g c j
theorem rA.rf {g : Nat → Nat → Int} : rA g g := fun _ _ _ _ => rfl
theorem rA.tr {g g1 g2 : Nat → Nat → Int} (h : rA g g1) (h2 : rA g1 g2) : rA g g2 := fun c j a b => by rw [h2 c j a b, h c j a b]
section FIF
variable {W : ax_W} {r : Nat} {g : Nat → Nat → Int} {Q : Nat → Nat → (Nat → Nat → Int) → Prop} {segs : List (List Int × Int × Int)}
theorem sp_masks {p : Nat} {pl d : Int} (h : LwR (g 149) segs) (hp : p < 8) (hpl : fR pl) (hd : fR d) (kq : ∀ g', rA g g' → g' 148 17 = lwM (mFv (g 149) p pl d) segs 0 → g' 148 18 = (if lwH segs = true then 1 else 0) → g' 148 19 = (if lwO (mFv (g 149) p pl d) segs = true then 1 else 0) → Q 0 0 g') : fx W r 35 303 0 [1186, fI (p : Int), fI pl, fI d, 7, 7] [] g Q := by
  refine fx_rg (fun hg => ?_)
  have rm : ∀ j : Nat, j < 764 → fR (g 149 j) := fun j hj => hgA hg 764 (c := 149) (j := j) (by decide +kernel) hj
  have rf := hg 148 12 (by decide) (by decide +kernel) (by decide +kernel)
  have r1 := rm 1 (by decide)
  have r2 := rm 2 (by decide)
  have r9 := rm 9 (by decide)
  have rc := rm (18 + 7 * p) (by omega)
  have rv := rm (13 + 7 * p) (by omega)
  have rw' := rm (14 + 7 * p) (by omega)
  have rp := rm (16 + 7 * p) (by omega)
  have rl := rm (15 + 7 * p) (by omega)
  unfold fR at rf r1 r2 r9 rc rv rw' rp rl hpl hd
  have hok := h.ok (mFv_78 (g 149) p pl d)
  obtain ⟨hb, h2, h3, h12⟩ := h
  have fin : ∀ (a b : Int) (G : Nat → Nat → Int), a = (if g 149 (16 + 7 * p) = -1 then 0 else 1) → b = (if g 149 (15 + 7 * p) = 3 then 1 else 0) → pLawR (tTx (g 149)) (g 149 2) = Sum.inr segs → G = fu (fu (fu (fu (fu (fu (fu (fu (fu (fu (fu (fu g 148 17 0) 148 18 0) 148 19 0) 154 0 (p : Int)) 154 1 pl) 154 2 d) 154 3 (g 149 (18 + 7 * p))) 154 4 (g 149 (13 + 7 * p))) 154 5 (g 149 (14 + 7 * p))) 154 6 (g 149 9)) 148 15 a) 148 16 b → fx W r 35 303 136 [1186, fI (p : Int), fI pl, fI d, 7, 7] [] G Q := fun a b G ha hb' hlr hG => by
    have gm : ∀ j, G 149 j = g 149 j := fun j => by
      rw [hG, fu_nc (by decide), fu_nc (by decide), fu_nc (by decide), fu_nc (by decide), fu_nc (by decide), fu_nc (by decide), fu_nc (by decide), fu_nc (by decide), fu_nc (by decide), fu_nc (by decide), fu_nc (by decide), fu_nc (by decide)]
    have gf : G 148 12 = g 148 12 := by
      rw [hG]; simp only [fu_app]; rfl
    have g17 : G 148 17 = 0 := by rw [hG]; simp only [fu_app]; rfl
    have g18 : G 148 18 = 0 := by rw [hG]; simp only [fu_app]; rfl
    have g19 : G 148 19 = 0 := by rw [hG]; simp only [fu_app]; rfl
    have gF : fF G = mFv (g 149) p pl d := by
      funext k
      unfold fF mFv
      by_cases k6 : k ≤ 6
      · rw [if_pos k6, Nat.min_eq_left (by omega), hG]
        rcases (by omega : k = 0 ∨ k = 1 ∨ k = 2 ∨ k = 3 ∨ k = 4 ∨ k = 5 ∨ k = 6) with rfl | rfl | rfl | rfl | rfl | rfl | rfl
        all_goals (simp only [fu_app]; rfl)
      · rw [if_neg k6]
        by_cases k7 : k = 7
        · subst k7
          rw [if_pos rfl, hG, fu_nj (by decide), fu_eq, ha]
          rfl
        · rw [if_neg k7, Nat.min_eq_right (by omega), hG, fu_eq, hb']
          rfl
    have g15 : G 148 15 = 0 ∨ G 148 15 = 1 := by
      have e : G 148 15 = a := by rw [hG, fu_nj (by decide), fu_eq]
      rw [e, ha]; split <;> simp
    have g16 : G 148 16 = 0 ∨ G 148 16 = 1 := by
      have e : G 148 16 = b := by rw [hG, fu_eq]
      rw [e, hb']; split <;> simp
    have gx : ∀ c j, c ≠ 154 → ¬ (c = 148 ∧ (15 ≤ j ∧ j ≤ 19)) → G c j = g c j := fun c j h1 h2 => by
      rw [hG, fu_ne (by omega), fu_ne (by omega), fu_nc h1, fu_nc h1, fu_nc h1, fu_nc h1, fu_nc h1, fu_nc h1, fu_nc h1, fu_ne (by omega), fu_ne (by omega), fu_ne (by omega)]
    clear hG
    refine fx_la 0 137 (v := 1186) (by decide +kernel) rfl (by decide +kernel) ?_
    refine fx_gi 1186 148 12 140 (by decide +kernel) ?_
    rw [gf]
    refine fx_si 4 142 (by decide +kernel) (Or.inr (fI_n4 _)) rfl ?_
    dsimp only [List.set]
    refine fx_la 0 143 (v := 1186) (by decide +kernel) rfl (by decide +kernel) ?_
    refine fx_cn (-1) 144 (by decide +kernel) (fun v143 c143 => ?_)
    refine fx_pi 1186 148 12 147 (by decide +kernel) (by unfold fR; omega) ?_
    refine fx_la 0 148 (v := 1186) (by decide +kernel) rfl (by decide +kernel) ?_
    refine fx_ci (364) 151 (by decide +kernel) ?_
    refine fx_pi 1186 148 9 154 (by decide +kernel) (by unfold fR; omega) ?_
    refine fx_la 0 155 (v := 1186) (by decide +kernel) rfl (by decide +kernel) ?_
    refine fx_la 0 156 (v := 1186) (by decide +kernel) rfl (by decide +kernel) ?_
    refine fx_gp 1186 148 1 1194 159 (by decide +kernel) ?_
    refine fx_ci (2) 160 (by decide +kernel) ?_
    refine fx_al 1194 149 764 161 (by decide +kernel) rfl (by omega) (by omega) rfl ?_
    try simp only [fu_app, fcy_app, Nat.reduceEqDiff, and_true, and_false, false_and, true_and, if_true, if_false, ite_true, ite_false, reduceIte, Int.reduceToNat, fx_simp0]
    rw [gm]
    refine fx_pi 1186 148 10 164 (by decide +kernel) (by unfold fR; omega) ?_
    refine fx_la 0 165 (v := 1186) (by decide +kernel) rfl (by decide +kernel) ?_
    refine fx_ci (0) 166 (by decide +kernel) ?_
    refine fx_pi 1186 148 11 169 (by decide +kernel) (by unfold fR; omega) ?_
    refine fx_la 0 170 (v := 1186) (by decide +kernel) rfl (by decide +kernel) ?_
    refine fx_ci (0) 171 (by decide +kernel) ?_
    refine fx_pi 1186 148 13 174 (by decide +kernel) (by unfold fR; omega) ?_
    refine fx_la 0 175 (v := 1186) (by decide +kernel) rfl (by decide +kernel) ?_
    refine fx_ci (1) 176 (by decide +kernel) ?_
    refine fx_c2 270 21 179 34 [7, 7] (by decide +kernel) (by decide) (by decide) (fI_n4 _) rfl (by first | decide | omega) ?_
    refine fx_rg (fun hg2 => ?_)
    have gs : rwS (tTx (g 149)) (g 149 2) (fu (fu (fu (fu (fu G 148 12 v143) 148 9 364) 148 10 (g 149 2)) 148 11 0) 148 13 0) (fu (fu (fu (fu (fu G 148 12 v143) 148 9 364) 148 10 (g 149 2)) 148 11 0) 148 13 0) (pSk (tTx (g 149)) (g 149 2) 0) 0 := by
      refine ⟨⟨by rw [fu_nj (by decide), fu_nj (by decide), fu_eq], h2.1, h2.2, Or.inr (by rw [fu_nj (by decide), fu_nj (by decide), fu_nj (by decide), fu_eq]), fun k k0 k1 => ?_⟩, by rw [fu_nj (by decide), fu_eq]; decide, by rw [fu_nj (by decide), fu_eq]; exact h2.1, by rw [fu_nj (by decide), fu_eq], by rw [fu_nj (by decide), fu_nj (by decide), fu_nj (by decide), fu_nj (by decide), fu_eq, c143], fu_eq _ _ _ _, rX.rf⟩
      have e : flt (fu (fu (fu (fu (fu G 148 12 v143) 148 9 364) 148 10 (g 149 2)) 148 11 0) 148 13 0) k = tTx (g 149) k := by
        unfold flt tTx
        have eb : fu (fu (fu (fu (fu G 148 12 v143) 148 9 364) 148 10 (g 149 2)) 148 11 0) 148 13 0 148 9 = 364 := by rw [fu_nj (by decide), fu_nj (by decide), fu_nj (by decide), fu_eq]
        rw [eb, if_neg (by decide), fu_nc (by decide), fu_nc (by decide), fu_nc (by decide), fu_nc (by decide), fu_nc (by decide), gm, show (364 + k).toNat = 364 + k.toNat by omega]
      rw [e]
      have := hb k.toNat (by omega)
      exact ⟨rfl, this⟩
    generalize eH : fu (fu (fu (fu (fu G 148 12 v143) 148 9 364) 148 10 (g 149 2)) 148 11 0) 148 13 0 = H at gs ⊢
    have hx : ∀ c j, ¬ (c = 148 ∧ (j = 9 ∨ j = 10 ∨ j = 11 ∨ j = 12 ∨ j = 13)) → H c j = G c j := fun c j h => by
      rw [← eH, fu_ne (by omega), fu_ne (by omega), fu_ne (by omega), fu_ne (by omega), fu_ne (by omega)]
    have hF : fF H = mFv (g 149) p pl d := by
      rw [← gF]
      funext k
      unfold fF
      by_cases k6 : k ≤ 6
      · rw [if_pos k6, if_pos k6]
        exact hx 154 k (fun t => absurd t.1 (by decide))
      · rw [if_neg k6, if_neg k6, hx _ _ (by decide), hx _ _ (by decide)]
    refine sp_mreadL (by rw [hx _ _ (by decide)]; exact g15) (by rw [hx _ _ (by decide)]; exact g16) gs (fun sg e g' x1 x2 => fK1 ?_) (fun q e => absurd (hlr.symm.trans e) (fun t => nomatch t))
    have e2 : sg = segs := by
      have := hlr.symm.trans e
      cases this
      rfl
    subst e2
    rw [hF] at x1
    obtain ⟨q1, q2, q3⟩ := fSg_all (F := mFv (g 149) p pl d) sg H (fun s hs => (hok s hs).2) h12 (by rw [hx _ _ (by decide), g18]; exact Or.inl rfl) (by rw [hx _ _ (by decide), g19]; exact Or.inl rfl) (by rw [hx _ _ (by decide), g17]; omega) (by rw [hx _ _ (by decide), g17]; omega)
    have e17 : H 148 17 = 0 := by rw [hx _ _ (by decide), g17]
    have e18 : H 148 18 = 0 := by rw [hx _ _ (by decide), g18]
    have e19 : H 148 19 = 0 := by rw [hx _ _ (by decide), g19]
    rw [e17] at q1
    rw [e18] at q2
    rw [e19] at q3
    simp only [show ((0 : Int) = 1) = False from eq_false (by decide), false_or] at q2 q3
    have xr : ∀ c j, ¬ (c = 148 ∧ (j = 9 ∨ j = 10 ∨ j = 11 ∨ j = 12 ∨ j = 13 ∨ j = 17 ∨ j = 18 ∨ j = 19)) → g' c j = G c j := fun c j h => by
      rw [x1 c j (by omega), fSg_Y sg H c j (by omega), hx c j (by omega)]
    have y17 : g' 148 17 = lwM (mFv (g 149) p pl d) sg 0 := by rw [x1 _ _ (by decide), q1]
    have y18 : g' 148 18 = (if lwH sg = true then 1 else 0) := by rw [x1 _ _ (by decide), q2]
    have y19 : g' 148 19 = (if lwO (mFv (g 149) p pl d) sg = true then 1 else 0) := by rw [x1 _ _ (by decide), q3]
    refine fx_si 5 181 (by decide +kernel) (Or.inr (fI_n4 _)) rfl ?_
    dsimp only [List.set]
    refine fx_la 0 182 (v := 1186) (by decide +kernel) rfl (by decide +kernel) ?_
    refine fx_li 4 184 (by decide +kernel) rfl ?_
    refine fx_pi 1186 148 12 187 (by decide +kernel) (by first | exact hg 148 12 (by decide) (by decide +kernel) (by decide +kernel) | (unfold fR; omega)) ?_
    refine fx_vret (by decide +kernel) ?_
    refine kq _ (fun c j a b => ?_) ?_ ?_ ?_
    · by_cases f12 : c = 148 ∧ j = 12
      · obtain ⟨rfl, rfl⟩ := f12
        rw [fu_eq]
      · rw [fu_ne f12, xr c j (by omega), gx c j a (by omega)]
    · rw [fu_nj (by decide)]; exact y17
    · rw [fu_nj (by decide)]; exact y18
    · rw [fu_nj (by decide)]; exact y19
  refine fx_la 0 1 (v := 1186) (by decide +kernel) rfl (by decide +kernel) ?_
  refine fx_ci (0) 2 (by decide +kernel) ?_
  refine fx_pi 1186 148 17 5 (by decide +kernel) (by unfold fR; omega) ?_
  refine fx_la 0 6 (v := 1186) (by decide +kernel) rfl (by decide +kernel) ?_
  refine fx_ci (0) 7 (by decide +kernel) ?_
  refine fx_pb 1186 148 18 10 (by decide +kernel) (by first | exact Or.inl rfl | exact Or.inr rfl | omega) ?_
  refine fx_la 0 11 (v := 1186) (by decide +kernel) rfl (by decide +kernel) ?_
  refine fx_ci (0) 12 (by decide +kernel) ?_
  refine fx_pb 1186 148 19 15 (by decide +kernel) (by first | exact Or.inl rfl | exact Or.inr rfl | omega) ?_
  refine fx_la 0 16 (v := 1186) (by decide +kernel) rfl (by decide +kernel) ?_
  refine fx_gp 1186 148 1 1194 19 (by decide +kernel) ?_
  refine fx_ci (1) 20 (by decide +kernel) ?_
  refine fx_al 1194 149 764 21 (by decide +kernel) rfl (by omega) (by omega) rfl ?_
  try simp only [fu_app, fcy_app, Nat.reduceEqDiff, and_true, and_false, false_and, true_and, if_true, if_false, ite_true, ite_false, reduceIte, Int.reduceToNat, fx_simp0]
  refine fx_ci (1) 22 (by decide +kernel) ?_
  refine fx_ige 26 25 (by decide +kernel) (by unfold fR; omega) (by unfold fR; omega) (fun h22 => ?_) (fun h22 => ?_)
  · have hlr : pLawR (tTx (g 149)) (g 149 2) = Sum.inr segs := by
      rcases h3 with ⟨e, -⟩ | ⟨e, -⟩
      · exfalso; omega
      · exact e
    refine fx_la 0 27 (v := 1186) (by decide +kernel) rfl (by decide +kernel) ?_
    refine fx_gp 1186 148 14 1234 30 (by decide +kernel) ?_
    refine fx_ci (0) 31 (by decide +kernel) ?_
    refine fx_li 1 32 (by decide +kernel) rfl ?_
    refine fx_as 1234 154 7 33 (by decide +kernel) rfl (by omega) (by omega) rfl (by unfold fR; omega) ?_
    refine fx_la 0 34 (v := 1186) (by decide +kernel) rfl (by decide +kernel) ?_
    refine fx_gp 1186 148 14 1234 37 (by decide +kernel) ?_
    refine fx_ci (1) 38 (by decide +kernel) ?_
    refine fx_li 2 39 (by decide +kernel) rfl ?_
    refine fx_as 1234 154 7 40 (by decide +kernel) rfl (by omega) (by omega) rfl (by unfold fR; omega) ?_
    refine fx_la 0 41 (v := 1186) (by decide +kernel) rfl (by decide +kernel) ?_
    refine fx_gp 1186 148 14 1234 44 (by decide +kernel) ?_
    refine fx_ci (2) 45 (by decide +kernel) ?_
    refine fx_li 3 46 (by decide +kernel) rfl ?_
    refine fx_as 1234 154 7 47 (by decide +kernel) rfl (by omega) (by omega) rfl (by unfold fR; omega) ?_
    refine fx_la 0 48 (v := 1186) (by decide +kernel) rfl (by decide +kernel) ?_
    refine fx_gp 1186 148 14 1234 51 (by decide +kernel) ?_
    refine fx_ci (3) 52 (by decide +kernel) ?_
    refine fx_la 0 53 (v := 1186) (by decide +kernel) rfl (by decide +kernel) ?_
    refine fx_li 1 54 (by decide +kernel) rfl ?_
    refine fx_ci (6) 56 (by decide +kernel) ?_
    refine fx_c3 299 21 59 0 [] (by decide +kernel) (by decide) (by decide) (fI_n4 _) (fI_n4 _) rfl (by first | decide | omega) ?_
    refine sp_mof (w := 6) hp (by decide) (fK1 ?_)
    rw [show 12 + 7 * p + 6 = 18 + 7 * p by omega]
    simp only [fu_app, Nat.reduceEqDiff, and_true, and_false, false_and, true_and, if_true, if_false, ite_true, ite_false, reduceIte]
    refine fx_as 1234 154 7 60 (by decide +kernel) rfl (by omega) (by omega) rfl (by unfold fR; omega) ?_
    refine fx_la 0 61 (v := 1186) (by decide +kernel) rfl (by decide +kernel) ?_
    refine fx_gp 1186 148 14 1234 64 (by decide +kernel) ?_
    refine fx_ci (4) 65 (by decide +kernel) ?_
    refine fx_la 0 66 (v := 1186) (by decide +kernel) rfl (by decide +kernel) ?_
    refine fx_li 1 67 (by decide +kernel) rfl ?_
    refine fx_ci (1) 68 (by decide +kernel) ?_
    refine fx_c3 299 21 71 0 [] (by decide +kernel) (by decide) (by decide) (fI_n4 _) (fI_n4 _) rfl (by first | decide | omega) ?_
    refine sp_mof (w := 1) hp (by decide) (fK1 ?_)
    rw [show 12 + 7 * p + 1 = 13 + 7 * p by omega]
    simp only [fu_app, Nat.reduceEqDiff, and_true, and_false, false_and, true_and, if_true, if_false, ite_true, ite_false, reduceIte]
    refine fx_as 1234 154 7 72 (by decide +kernel) rfl (by omega) (by omega) rfl (by unfold fR; omega) ?_
    refine fx_la 0 73 (v := 1186) (by decide +kernel) rfl (by decide +kernel) ?_
    refine fx_gp 1186 148 14 1234 76 (by decide +kernel) ?_
    refine fx_ci (5) 77 (by decide +kernel) ?_
    refine fx_la 0 78 (v := 1186) (by decide +kernel) rfl (by decide +kernel) ?_
    refine fx_li 1 79 (by decide +kernel) rfl ?_
    refine fx_ci (2) 80 (by decide +kernel) ?_
    refine fx_c3 299 21 83 0 [] (by decide +kernel) (by decide) (by decide) (fI_n4 _) (fI_n4 _) rfl (by first | decide | omega) ?_
    refine sp_mof (w := 2) hp (by decide) (fK1 ?_)
    rw [show 12 + 7 * p + 2 = 14 + 7 * p by omega]
    simp only [fu_app, Nat.reduceEqDiff, and_true, and_false, false_and, true_and, if_true, if_false, ite_true, ite_false, reduceIte]
    refine fx_as 1234 154 7 84 (by decide +kernel) rfl (by omega) (by omega) rfl (by unfold fR; omega) ?_
    refine fx_la 0 85 (v := 1186) (by decide +kernel) rfl (by decide +kernel) ?_
    refine fx_gp 1186 148 14 1234 88 (by decide +kernel) ?_
    refine fx_ci (6) 90 (by decide +kernel) ?_
    refine fx_la 0 91 (v := 1186) (by decide +kernel) rfl (by decide +kernel) ?_
    refine fx_gp 1186 148 1 1194 94 (by decide +kernel) ?_
    refine fx_ci (9) 96 (by decide +kernel) ?_
    refine fx_al 1194 149 764 97 (by decide +kernel) rfl (by omega) (by omega) rfl ?_
    try simp only [fu_app, fcy_app, Nat.reduceEqDiff, and_true, and_false, false_and, true_and, if_true, if_false, ite_true, ite_false, reduceIte, Int.reduceToNat, fx_simp0]
    refine fx_as 1234 154 7 98 (by decide +kernel) rfl (by omega) (by omega) rfl (by unfold fR; omega) ?_
    refine fx_la 0 99 (v := 1186) (by decide +kernel) rfl (by decide +kernel) ?_
    refine fx_la 0 100 (v := 1186) (by decide +kernel) rfl (by decide +kernel) ?_
    refine fx_li 1 101 (by decide +kernel) rfl ?_
    refine fx_ci (4) 102 (by decide +kernel) ?_
    refine fx_c3 299 21 105 0 [] (by decide +kernel) (by decide) (by decide) (fI_n4 _) (fI_n4 _) rfl (by first | decide | omega) ?_
    refine sp_mof (w := 4) hp (by decide) (fK1 ?_)
    rw [show 12 + 7 * p + 4 = 16 + 7 * p by omega]
    simp only [fu_app, Nat.reduceEqDiff, and_true, and_false, false_and, true_and, if_true, if_false, ite_true, ite_false, reduceIte]
    refine fx_cn (-1) 106 (by decide +kernel) (fun v105 c105 => ?_)
    refine fx_ieq 113 109 (by decide +kernel) (by unfold fR; omega) (by unfold fR; omega) (fun h106 => ?_) (fun h106 => ?_)
    · refine fx_ci (0) 114 (by decide +kernel) ?_
      refine fx_pb 1186 148 15 117 (by decide +kernel) (by first | exact Or.inl rfl | exact Or.inr rfl | omega) ?_
      refine fx_la 0 118 (v := 1186) (by decide +kernel) rfl (by decide +kernel) ?_
      refine fx_la 0 119 (v := 1186) (by decide +kernel) rfl (by decide +kernel) ?_
      refine fx_li 1 120 (by decide +kernel) rfl ?_
      refine fx_ci (3) 121 (by decide +kernel) ?_
      refine fx_c3 299 21 124 0 [] (by decide +kernel) (by decide) (by decide) (fI_n4 _) (fI_n4 _) rfl (by first | decide | omega) ?_
      refine sp_mof (w := 3) hp (by decide) (fK1 ?_)
      rw [show 12 + 7 * p + 3 = 15 + 7 * p by omega]
      simp only [fu_app, Nat.reduceEqDiff, and_true, and_false, false_and, true_and, if_true, if_false, ite_true, ite_false, reduceIte]
      refine fx_ci (3) 125 (by decide +kernel) ?_
      refine fx_ine 132 128 (by decide +kernel) (by unfold fR; omega) (by unfold fR; omega) (fun h125 => ?_) (fun h125 => ?_)
      · refine fx_ci (0) 133 (by decide +kernel) ?_
        refine fx_pb 1186 148 16 136 (by decide +kernel) (by first | exact Or.inl rfl | exact Or.inr rfl | omega) ?_
        exact fin _ _ _ (by rw [if_pos (by omega)]) (by rw [if_neg (by omega)]) hlr rfl
      · refine fx_ci (1) 129 (by decide +kernel) ?_
        refine fx_go 133 (by decide +kernel) ?_
        refine fx_pb 1186 148 16 136 (by decide +kernel) (by first | exact Or.inl rfl | exact Or.inr rfl | omega) ?_
        exact fin _ _ _ (by rw [if_pos (by omega)]) (by rw [if_pos (by omega)]) hlr rfl
    · refine fx_ci (1) 110 (by decide +kernel) ?_
      refine fx_go 114 (by decide +kernel) ?_
      refine fx_pb 1186 148 15 117 (by decide +kernel) (by first | exact Or.inl rfl | exact Or.inr rfl | omega) ?_
      refine fx_la 0 118 (v := 1186) (by decide +kernel) rfl (by decide +kernel) ?_
      refine fx_la 0 119 (v := 1186) (by decide +kernel) rfl (by decide +kernel) ?_
      refine fx_li 1 120 (by decide +kernel) rfl ?_
      refine fx_ci (3) 121 (by decide +kernel) ?_
      refine fx_c3 299 21 124 0 [] (by decide +kernel) (by decide) (by decide) (fI_n4 _) (fI_n4 _) rfl (by first | decide | omega) ?_
      refine sp_mof (w := 3) hp (by decide) (fK1 ?_)
      rw [show 12 + 7 * p + 3 = 15 + 7 * p by omega]
      simp only [fu_app, Nat.reduceEqDiff, and_true, and_false, false_and, true_and, if_true, if_false, ite_true, ite_false, reduceIte]
      refine fx_ci (3) 125 (by decide +kernel) ?_
      refine fx_ine 132 128 (by decide +kernel) (by unfold fR; omega) (by unfold fR; omega) (fun h125 => ?_) (fun h125 => ?_)
      · refine fx_ci (0) 133 (by decide +kernel) ?_
        refine fx_pb 1186 148 16 136 (by decide +kernel) (by first | exact Or.inl rfl | exact Or.inr rfl | omega) ?_
        exact fin _ _ _ (by rw [if_neg (by omega)]) (by rw [if_neg (by omega)]) hlr rfl
      · refine fx_ci (1) 129 (by decide +kernel) ?_
        refine fx_go 133 (by decide +kernel) ?_
        refine fx_pb 1186 148 16 136 (by decide +kernel) (by first | exact Or.inl rfl | exact Or.inr rfl | omega) ?_
        exact fin _ _ _ (by rw [if_neg (by omega)]) (by rw [if_pos (by omega)]) hlr rfl
  · refine fx_vret (by decide +kernel) ?_
    have s0 : segs = [] := by
      rcases h3 with ⟨-, e⟩ | ⟨-, e⟩
      · exact e
      · exact List.length_eq_zero_iff.mp (by omega)
    subst s0
    refine kq _ (fun c j a b => ?_) ?_ ?_ ?_
    · rw [fu_ne (by omega), fu_ne (by omega), fu_ne (by omega)]
    · rw [fu_nj (by decide), fu_nj (by decide), fu_eq]; rfl
    · rw [fu_nj (by decide), fu_eq]; rfl
    · rw [fu_eq]; rfl
end FIF
