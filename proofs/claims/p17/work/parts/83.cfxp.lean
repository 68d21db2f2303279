/-! fx: the reference reads the house's text -/
def k0 (u : List Int) : Int := if u.getD 0 0 = 0 then 1 else 0
def k1 (u : List Int) : Int := if u.getD 0 0 = 1 then 1 else 0
/-- all lines, n at most -/
noncomputable def pAll (T : Int → Int) (E : Int) : Nat → Int → Int → Int → Int ⊕ List (List Int)
  | 0, _, _, f => Sum.inl f
  | n + 1, pp, dd, f => bS (pLine T E pp dd f) (fun a => if a.1 = E then Sum.inr [a.2] else if T a.1 = 59 then bS (pAll T E n (pp + k0 a.2) (dd + k1 a.2) (pSk T E (a.1 + 1))) (fun us => Sum.inr (a.2 :: us)) else Sum.inl a.1)
noncomputable def apLs (T : Int → Int) (us : List (List Int)) (g : Nat → Nat → Int) : Nat → Nat → Int := us.foldl (fun g u => apL T u g) g
/-- nothing but the first 364 places of the row, at, fault -/
def eqx (g g' : Nat → Nat → Int) : Prop := ∀ c j, ¬ (c = 149 ∧ j < 364) → ¬ (c = 148 ∧ (j = 11 ∨ j = 12)) → g' c j = g c j
theorem eqx_refl (g : Nat → Nat → Int) : eqx g g := fun _ _ _ _ => rfl
theorem eqx_tr {g g' g'' : Nat → Nat → Int} (h : eqx g g') (h2 : eqx g' g'') : eqx g g'' := fun c j a b => (h2 c j a b).trans (h c j a b)
theorem eqx_at (g : Nat → Nat → Int) (z : Int) : eqx g (fu g 148 11 z) := fun c j _ b => fu_ne (fun t => b ⟨t.1, Or.inl t.2⟩)
theorem eqx_fault (g : Nat → Nat → Int) (z : Int) : eqx g (fu g 148 12 z) := fun c j _ b => fu_ne (fun t => b ⟨t.1, Or.inr t.2⟩)
theorem eqx_m (g : Nat → Nat → Int) {k : Nat} (z : Int) (hk : k < 364) : eqx g (fu g 149 k z) := fun c j a _ => fu_ne (fun t => a ⟨t.1, by omega⟩)
section FXP
variable {W : ax_W} {r : Nat} {g : Nat → Nat → Int} {Q : Nat → Nat → (Nat → Nat → Int) → Prop} {T : Int → Int} {E : Int}
theorem fu_apP {c j : Nat} {z w pl v l : Int} (h : c ≠ 149) : apP (fu g c j z) w pl v l = fu (apP g w pl v l) c j z := by
  have s : ∀ (g : Nat → Nat → Int) k y, fu (fu g c j z) 149 k y = fu (fu g 149 k y) c j z := fun g k y => fu_sw _ _ _ (fun t => h t.1)
  unfold apP
  rw [fu_nc (Ne.symm h)]
  simp only [s]
theorem fu_apD {c j : Nat} {z f : Int} (h : c ≠ 149) : apD T f (fu g c j z) = fu (apD T f g) c j z := by
  unfold apD
  rw [fu_nc (Ne.symm h), ← dshR_fu h, fu_sw _ _ _ (fun t => h t.1)]
theorem fu_apR {c j : Nat} {z x y : Int} (h : c ≠ 149) : apR x y (fu g c j z) = fu (apR x y g) c j z := by
  have s : ∀ (g : Nat → Nat → Int) k y, fu (fu g c j z) 149 k y = fu (fu g 149 k y) c j z := fun g k y => fu_sw _ _ _ (fun t => h t.1)
  unfold apR
  rw [fu_nc (Ne.symm h)]
  rw [s, fu_nc (Ne.symm h), s]
theorem fu_apL {c j : Nat} {z : Int} {u : List Int} (h : c ≠ 149) : apL T u (fu g c j z) = fu (apL T u g) c j z := by
  unfold apL
  split
  · exact fu_apP h
  · split
    · exact fu_apD h
    · split
      · exact fu_apR h
      · split
        · exact fu_sw _ _ _ (fun t => h t.1)
        · exact fu_sw _ _ _ (fun t => h t.1)
end FXP
theorem bS_inr {α β : Type} {x : Int ⊕ α} {k : α → Int ⊕ β} {y : β} (h : bS x k = Sum.inr y) : ∃ a, x = Sum.inr a ∧ k a = Sum.inr y := by
  cases x with
  | inl q => cases h
  | inr a => exact ⟨a, rfl, h⟩
/-- a place behind which no space is skipped -/
def pOk (T : Int → Int) (E f : Int) : Prop := 0 ≤ f ∧ f ≤ E ∧ pSk T E f = f
theorem pOk_sk {T : Int → Int} {E i : Int} (h0 : 0 ≤ i) (h : i ≤ E) : pOk T E (pSk T E i) := ⟨by have := pSk_ge T E i; omega, pSk_le h, pSk_id h⟩
theorem pOk_we {T : Int → Int} {E f : Int} (h : pOk T E f) : pOk T E (pSk T E (pWe T E f)) := pOk_sk (by have := pWe_ge T E f; have := h.1; omega) (pWe_le h.2.1)
theorem pOk_dg {T : Int → Int} {E f : Int} (h : pOk T E f) : pOk T E (pSk T E (pDg T E f)) := pOk_sk (by have := pDg_ge T E f; have := h.1; omega) (pDg_le h.2.1)
/-- what a line says is such -/
def uOk (E pp dd : Int) (u : List Int) : Prop := (∃ w pl v l, u = [0, w, pl, v, l] ∧ pp ≤ 7 ∧ 1 ≤ w ∧ w ≤ 99 ∧ -1 ≤ pl ∧ pl ≤ 7 ∧ 0 ≤ v ∧ v ≤ 20 ∧ 3 ≤ l ∧ l ≤ 4) ∨ (∃ b, u = [1, b] ∧ dd ≤ 5 ∧ 0 ≤ b ∧ b + 8 ≤ E) ∨ (∃ x y, u = [2, x, y] ∧ 0 ≤ x ∧ x ≤ 7 ∧ 0 ≤ y ∧ y ≤ 7) ∨ (∃ x y, u = [3, x, y] ∧ 5 ≤ x ∧ x ≤ 9 ∧ 0 ≤ y ∧ y ≤ 999) ∨ (∃ x y, u = [4, x, y] ∧ 0 ≤ x ∧ x < pp ∧ 0 ≤ y ∧ y < pp)
theorem pOpt_ok {T : Int → Int} {E : Int} {ws : List Nat} {lo hi df f f' v : Int} (h : pOpt T E ws lo hi df f = Sum.inr (f', v)) (hf : pOk T E f) : pOk T E f' ∧ ((lo ≤ v ∧ v ≤ hi) ∨ v = df) := by
  unfold pOpt at h
  by_cases c : pWd T E ws f
  · rw [cif_t c] at h
    by_cases c2 : pN T E lo hi (pSk T E (pWe T E f))
    · rw [cif_t c2] at h
      cases h
      exact ⟨pOk_dg (pOk_we hf), Or.inl c2.2.2⟩
    · rw [cif_f c2] at h
      cases h
  · rw [cif_f c] at h
    cases h
    exact ⟨hf, Or.inr rfl⟩
theorem pTwo_ok {T : Int → Int} {E hi f f' x y : Int} (h : pTwo T E hi f = Sum.inr (f', x, y)) (hf : pOk T E f) : pOk T E f' ∧ 0 ≤ x ∧ x ≤ hi ∧ 0 ≤ y ∧ y ≤ hi := by
  unfold pTwo at h
  by_cases c : pN T E 0 hi f
  · rw [cif_t c] at h
    by_cases c2 : pN T E 0 hi (pSk T E (pDg T E f)) ∧ pNu T E (pSk T E (pDg T E f)) ≠ pNu T E f
    · rw [cif_t c2] at h
      cases h
      exact ⟨pOk_dg (pOk_dg hf), c.2.2.1, c.2.2.2, c2.1.2.2.1, c2.1.2.2.2⟩
    · rw [cif_f c2] at h
      cases h
  · rw [cif_f c] at h
    cases h
theorem pSet_ok {T : Int → Int} {E x lo hi f f' : Int} {u : List Int} (h : pSet T E x lo hi f = Sum.inr (f', u)) (hf : pOk T E f) : pOk T E f' ∧ ∃ y, u = [3, x, y] ∧ lo ≤ y ∧ y ≤ hi := by
  unfold pSet at h
  by_cases c : pN T E lo hi f
  · rw [cif_t c] at h
    cases h
    exact ⟨pOk_dg hf, _, rfl, c.2.2⟩
  · rw [cif_f c] at h
    cases h
theorem pPerson_ok {T : Int → Int} {E f f' : Int} {u : List Int} (h : pPerson T E f = Sum.inr (f', u)) (hf : pOk T E f) : pOk T E f' ∧ ∃ w pl v l, u = [0, w, pl, v, l] ∧ 1 ≤ w ∧ w ≤ 99 ∧ -1 ≤ pl ∧ pl ≤ 7 ∧ 0 ≤ v ∧ v ≤ 20 ∧ 3 ≤ l ∧ l ≤ 4 := by
  unfold pPerson at h
  by_cases c : pWd T E [119, 101, 105, 103, 104, 116] f
  · rw [cif_t c] at h
    by_cases c2 : pN T E 1 99 (pSk T E (pWe T E f))
    · rw [cif_t c2] at h
      obtain ⟨⟨f1, pl⟩, e1, h⟩ := bS_inr h
      obtain ⟨⟨f2, v⟩, e2, h⟩ := bS_inr h
      obtain ⟨⟨f3, l⟩, e3, h⟩ := bS_inr h
      cases h
      obtain ⟨o1, p1⟩ := pOpt_ok e1 (pOk_dg (pOk_we hf))
      obtain ⟨o2, p2⟩ := pOpt_ok e2 o1
      obtain ⟨o3, p3⟩ := pOpt_ok e3 o2
      refine ⟨o3, _, pl, v, l, rfl, c2.2.2.1, c2.2.2.2, by omega, by omega, by omega, by omega, by omega, by omega⟩
    · rw [cif_f c2] at h
      cases h
  · rw [cif_f c] at h
    cases h
theorem pDish_ok {T : Int → Int} {E f f' : Int} {u : List Int} (h : pDish T E f = Sum.inr (f', u)) (hf : pOk T E f) : pOk T E f' ∧ u = [1, f] ∧ f + 8 ≤ E := by
  unfold pDish at h
  have := pDg_le (T := T) hf.2.1
  by_cases c : pDg T E f - f = 8
  · rw [cif_t c] at h
    cases h
    exact ⟨pOk_sk (by have := hf.1; omega) (by omega), rfl, by omega⟩
  · rw [cif_f c] at h
    cases h
theorem pLine_ok {T : Int → Int} {E pp dd f f' : Int} {u : List Int} (h : pLine T E pp dd f = Sum.inr (f', u)) (hf : pOk T E f) (hp : pp ≤ 8) (hd : dd ≤ 6) : pOk T E f' ∧ uOk E pp dd u := by
  have hw := pOk_we hf
  unfold pLine at h
  by_cases c : pWd T E [112, 101, 114, 115, 111, 110] f
  · rw [cif_t c] at h
    by_cases e : pp = 8
    · rw [if_pos e] at h; cases h
    · rw [if_neg e] at h
      obtain ⟨o, w, pl, v, l, e1, e2⟩ := pPerson_ok h hw
      exact ⟨o, Or.inl ⟨w, pl, v, l, e1, by omega, e2⟩⟩
  rw [cif_f c] at h
  by_cases c : pWd T E [100, 105, 115, 104] f
  · rw [cif_t c] at h
    by_cases e : dd = 6
    · rw [if_pos e] at h; cases h
    · rw [if_neg e] at h
      obtain ⟨o, e1, e2⟩ := pDish_ok h hw
      exact ⟨o, Or.inr (Or.inl ⟨_, e1, by omega, hw.1, e2⟩)⟩
  rw [cif_f c] at h
  by_cases c : pWd T E [114, 111, 97, 100] f
  · rw [cif_t c] at h
    obtain ⟨⟨f1, x, y⟩, e1, h⟩ := bS_inr h
    cases h
    obtain ⟨o, e2⟩ := pTwo_ok e1 hw
    exact ⟨o, Or.inr (Or.inr (Or.inl ⟨x, y, rfl, e2⟩))⟩
  rw [cif_f c] at h
  have st : ∀ x lo hi, 5 ≤ x → x ≤ 9 → 0 ≤ lo → hi ≤ 999 → pSet T E x lo hi (pSk T E (pWe T E f)) = Sum.inr (f', u) → pOk T E f' ∧ uOk E pp dd u := fun x lo hi h1 h2 h3 h4 t => by
    obtain ⟨o, y, e1, e2, e3⟩ := pSet_ok t hw
    exact ⟨o, Or.inr (Or.inr (Or.inr (Or.inl ⟨x, y, e1, h1, h2, by omega, by omega⟩)))⟩
  by_cases c : pWd T E [113, 117, 111, 116, 97] f
  · rw [cif_t c] at h; exact st 5 0 160 (by decide) (by decide) (by decide) (by decide) h
  rw [cif_f c] at h
  by_cases c : pWd T E [119, 97, 108, 107] f
  · rw [cif_t c] at h; exact st 6 0 100 (by decide) (by decide) (by decide) (by decide) h
  rw [cif_f c] at h
  by_cases c : pWd T E [108, 105, 109, 105, 116] f
  · rw [cif_t c] at h; exact st 7 1 99 (by decide) (by decide) (by decide) (by decide) h
  rw [cif_f c] at h
  by_cases c : pWd T E [105, 114, 111, 110] f
  · rw [cif_t c] at h; exact st 8 0 999 (by decide) (by decide) (by decide) (by decide) h
  rw [cif_f c] at h
  by_cases c : pWd T E [110, 105, 103, 104, 116] f
  · rw [cif_t c] at h; exact st 9 0 999 (by decide) (by decide) (by decide) (by decide) h
  rw [cif_f c] at h
  by_cases c : pWd T E [112, 114, 111, 109, 105, 115, 101] f
  · rw [cif_t c] at h
    obtain ⟨⟨f1, x, y⟩, e1, h⟩ := bS_inr h
    cases h
    obtain ⟨o, e2⟩ := pTwo_ok e1 hw
    exact ⟨o, Or.inr (Or.inr (Or.inr (Or.inr ⟨x, y, rfl, by omega, by omega, by omega, by omega⟩)))⟩
  rw [cif_f c] at h
  cases h
/-- what a line does: counts, nothing else -/
theorem apL_ok {T : Int → Int} {E : Int} {g : Nat → Nat → Int} {u : List Int} (hu : uOk E (g 149 3) (g 149 4) u) (hp0 : 0 ≤ g 149 3) (hp1 : g 149 3 ≤ 8) (hd0 : 0 ≤ g 149 4) (hd1 : g 149 4 ≤ 6) :
    apL T u g 149 3 = g 149 3 + k0 u ∧ apL T u g 149 4 = g 149 4 + k1 u ∧ (∀ c j, ¬ (c = 149 ∧ j < 364) → apL T u g c j = g c j) ∧ 0 ≤ k0 u ∧ g 149 3 + k0 u ≤ 8 ∧ 0 ≤ k1 u ∧ g 149 4 + k1 u ≤ 6 := by
  rcases hu with ⟨w, pl, v, l, rfl, hu⟩ | ⟨b, rfl, hu⟩ | ⟨x, y, rfl, hu⟩ | ⟨x, y, rfl, hu⟩ | ⟨x, y, rfl, hu⟩
  · have e0 : k0 [0, w, pl, v, l] = 1 := rfl
    have e1 : k1 [0, w, pl, v, l] = 0 := rfl
    rw [apL_0, e0, e1]
    unfold apP
    refine ⟨fu_eq _ _ _ _, ?_, fun c j h => ?_, by decide, by omega, by decide, by omega⟩
    · rw [fu_nj (by decide), fu_nj (by omega), fu_nj (by omega), fu_nj (by omega), fu_nj (by omega), fu_nj (by omega), fu_nj (by omega), fu_nj (by omega)]
      omega
    · rw [fu_ne (by omega), fu_ne (by omega), fu_ne (by omega), fu_ne (by omega), fu_ne (by omega), fu_ne (by omega), fu_ne (by omega), fu_ne (by omega)]
  · have e0 : k0 [1, b] = 0 := rfl
    have e1 : k1 [1, b] = 1 := rfl
    rw [apL_1, e0, e1]
    unfold apD
    refine ⟨?_, fu_eq _ _ _ _, fun c j h => ?_, by decide, by omega, by decide, by omega⟩
    · rw [fu_nj (by decide), dshR_ne hd0 (Or.inr (by decide))]; omega
    · rw [fu_ne (by omega)]
      have st : ∀ k : Nat, k ≤ 8 → dshR T b (g 149 4) k g c j = g c j := by
        intro k
        induction k with
        | zero => intro _; rfl
        | succ k ih =>
          intro hk
          show fu (dshR T b (g 149 4) k g) 149 (68 + 8 * g 149 4 + k).toNat _ c j = _
          rw [fu_ne (by omega), ih (by omega)]
      exact st 8 (by decide)
  · have e0 : k0 [2, x, y] = 0 := rfl
    have e1 : k1 [2, x, y] = 0 := rfl
    rw [apL_2, e0, e1]
    unfold apR
    refine ⟨?_, ?_, fun c j h => ?_, by decide, by omega, by decide, by omega⟩
    · rw [fu_nj (by omega), fu_nj (by omega)]; omega
    · rw [fu_nj (by omega), fu_nj (by omega)]; omega
    · rw [fu_ne (by omega), fu_ne (by omega)]
  · have e0 : k0 [3, x, y] = 0 := rfl
    have e1 : k1 [3, x, y] = 0 := rfl
    rw [apL_3, e0, e1]
    refine ⟨?_, ?_, fun c j h => ?_, by decide, by omega, by decide, by omega⟩
    · rw [fu_nj (by omega)]; omega
    · rw [fu_nj (by omega)]; omega
    · rw [fu_ne (by omega)]
  · have e0 : k0 [4, x, y] = 0 := rfl
    have e1 : k1 [4, x, y] = 0 := rfl
    rw [apL_4, e0, e1]
    unfold apV
    refine ⟨?_, ?_, fun c j h => ?_, by decide, by omega, by decide, by omega⟩
    · rw [fu_nj (by omega)]; omega
    · rw [fu_nj (by omega)]; omega
    · rw [fu_ne (by omega)]
theorem bS_inl {α β : Type} {x : Int ⊕ α} {k : α → Int ⊕ β} {q : Int} (h : bS x k = Sum.inl q) : x = Sum.inl q ∨ ∃ a, x = Sum.inr a ∧ k a = Sum.inl q := by
  cases x with
  | inl q' => exact Or.inl (by cases h; rfl)
  | inr a => exact Or.inr ⟨a, rfl, h⟩
theorem pOpt_bad {T : Int → Int} {E : Int} {ws : List Nat} {lo hi df f q : Int} (h : pOpt T E ws lo hi df f = Sum.inl q) (hf : pOk T E f) : 0 ≤ q ∧ q ≤ E := by
  unfold pOpt at h
  have hw := pOk_we hf
  by_cases c : pWd T E ws f
  · rw [cif_t c] at h
    by_cases c2 : pN T E lo hi (pSk T E (pWe T E f))
    · rw [cif_t c2] at h; cases h
    · rw [cif_f c2] at h; cases h; exact ⟨hw.1, hw.2.1⟩
  · rw [cif_f c] at h; cases h
theorem pTwo_bad {T : Int → Int} {E hi f q : Int} (h : pTwo T E hi f = Sum.inl q) (hf : pOk T E f) : 0 ≤ q ∧ q ≤ E := by
  unfold pTwo at h
  have hw := pOk_dg hf
  by_cases c : pN T E 0 hi f
  · rw [cif_t c] at h
    by_cases c2 : pN T E 0 hi (pSk T E (pDg T E f)) ∧ pNu T E (pSk T E (pDg T E f)) ≠ pNu T E f
    · rw [cif_t c2] at h; cases h
    · rw [cif_f c2] at h; cases h; exact ⟨hw.1, hw.2.1⟩
  · rw [cif_f c] at h; cases h; exact ⟨hf.1, hf.2.1⟩
theorem pSet_bad {T : Int → Int} {E x lo hi f q : Int} (h : pSet T E x lo hi f = Sum.inl q) (hf : pOk T E f) : 0 ≤ q ∧ q ≤ E := by
  unfold pSet at h
  by_cases c : pN T E lo hi f
  · rw [cif_t c] at h; cases h
  · rw [cif_f c] at h; cases h; exact ⟨hf.1, hf.2.1⟩
theorem pPerson_bad {T : Int → Int} {E f q : Int} (h : pPerson T E f = Sum.inl q) (hf : pOk T E f) : 0 ≤ q ∧ q ≤ E := by
  unfold pPerson at h
  have hw := pOk_we hf
  by_cases c : pWd T E [119, 101, 105, 103, 104, 116] f
  · rw [cif_t c] at h
    by_cases c2 : pN T E 1 99 (pSk T E (pWe T E f))
    · rw [cif_t c2] at h
      rcases bS_inl h with h | ⟨⟨f1, pl⟩, e1, h⟩
      · exact pOpt_bad h (pOk_dg hw)
      · have o1 := (pOpt_ok e1 (pOk_dg hw)).1
        rcases bS_inl h with h | ⟨⟨f2, v⟩, e2, h⟩
        · exact pOpt_bad h o1
        · have o2 := (pOpt_ok e2 o1).1
          rcases bS_inl h with h | ⟨⟨f3, l⟩, e3, h⟩
          · exact pOpt_bad h o2
          · cases h
    · rw [cif_f c2] at h; cases h; exact ⟨hw.1, hw.2.1⟩
  · rw [cif_f c] at h; cases h; exact ⟨hf.1, hf.2.1⟩
theorem pLine_bad {T : Int → Int} {E pp dd f q : Int} (h : pLine T E pp dd f = Sum.inl q) (hf : pOk T E f) : 0 ≤ q ∧ q ≤ E := by
  have hw := pOk_we hf
  have hq : f = q → 0 ≤ q ∧ q ≤ E := fun t => by subst t; exact ⟨hf.1, hf.2.1⟩
  unfold pLine at h
  by_cases c : pWd T E [112, 101, 114, 115, 111, 110] f
  · rw [cif_t c] at h
    by_cases e : pp = 8
    · rw [if_pos e] at h; cases h; exact hq rfl
    · rw [if_neg e] at h; exact pPerson_bad h hw
  rw [cif_f c] at h
  by_cases c : pWd T E [100, 105, 115, 104] f
  · rw [cif_t c] at h
    by_cases e : dd = 6
    · rw [if_pos e] at h; cases h; exact hq rfl
    · rw [if_neg e] at h
      unfold pDish at h
      by_cases e2 : pDg T E (pSk T E (pWe T E f)) - pSk T E (pWe T E f) = 8
      · rw [cif_t e2] at h; cases h
      · rw [cif_f e2] at h; cases h; exact ⟨hw.1, hw.2.1⟩
  rw [cif_f c] at h
  by_cases c : pWd T E [114, 111, 97, 100] f
  · rw [cif_t c] at h
    rcases bS_inl h with h | ⟨a, e, h⟩
    · exact pTwo_bad h hw
    · cases h
  rw [cif_f c] at h
  by_cases c : pWd T E [113, 117, 111, 116, 97] f
  · rw [cif_t c] at h; exact pSet_bad h hw
  rw [cif_f c] at h
  by_cases c : pWd T E [119, 97, 108, 107] f
  · rw [cif_t c] at h; exact pSet_bad h hw
  rw [cif_f c] at h
  by_cases c : pWd T E [108, 105, 109, 105, 116] f
  · rw [cif_t c] at h; exact pSet_bad h hw
  rw [cif_f c] at h
  by_cases c : pWd T E [105, 114, 111, 110] f
  · rw [cif_t c] at h; exact pSet_bad h hw
  rw [cif_f c] at h
  by_cases c : pWd T E [110, 105, 103, 104, 116] f
  · rw [cif_t c] at h; exact pSet_bad h hw
  rw [cif_f c] at h
  by_cases c : pWd T E [112, 114, 111, 109, 105, 115, 101] f
  · rw [cif_t c] at h
    rcases bS_inl h with h | ⟨a, e, h⟩
    · exact pTwo_bad h hw
    · cases h
  rw [cif_f c] at h
  cases h
  exact hq rfl
theorem uOk_cnt {E pp dd : Int} {u : List Int} (hu : uOk E pp dd u) (hp : pp ≤ 8) (hd : dd ≤ 6) : 0 ≤ k0 u ∧ pp + k0 u ≤ 8 ∧ 0 ≤ k1 u ∧ dd + k1 u ≤ 6 := by
  rcases hu with ⟨w, pl, v, l, rfl, hu⟩ | ⟨b, rfl, hu⟩ | ⟨x, y, rfl, hu⟩ | ⟨x, y, rfl, hu⟩ | ⟨x, y, rfl, hu⟩
  · have e0 : k0 [0, w, pl, v, l] = 1 := rfl
    have e1 : k1 [0, w, pl, v, l] = 0 := rfl
    omega
  · have e0 : k0 [1, b] = 0 := rfl
    have e1 : k1 [1, b] = 1 := rfl
    omega
  · have e0 : k0 [2, x, y] = 0 := rfl
    have e1 : k1 [2, x, y] = 0 := rfl
    omega
  · have e0 : k0 [3, x, y] = 0 := rfl
    have e1 : k1 [3, x, y] = 0 := rfl
    omega
  · have e0 : k0 [4, x, y] = 0 := rfl
    have e1 : k1 [4, x, y] = 0 := rfl
    omega
