/-! fx: the text of the house keeps all alike -/
section FIQ0
variable {T : Int → Int} {E : Int}
theorem pLine_lim {pp dd f f' y : Int} (h : pLine T E pp dd f = Sum.inr (f', [3, 7, y])) (hf : pOk T E f) : 1 ≤ y ∧ y ≤ 99 := by
  have hw := pOk_we hf
  unfold pLine at h
  by_cases c : pWd T E [112, 101, 114, 115, 111, 110] f
  · rw [cif_t c] at h
    by_cases e : pp = 8
    · rw [if_pos e] at h; cases h
    · rw [if_neg e] at h
      obtain ⟨o, w, pl, v, l, e1, e2⟩ := pPerson_ok h hw
      exact absurd (List.cons.inj e1).1 (by decide)
  rw [cif_f c] at h
  by_cases c : pWd T E [100, 105, 115, 104] f
  · rw [cif_t c] at h
    by_cases e : dd = 6
    · rw [if_pos e] at h; cases h
    · rw [if_neg e] at h
      obtain ⟨o, e1, e2⟩ := pDish_ok h hw
      exact absurd (List.cons.inj e1).1 (by decide)
  rw [cif_f c] at h
  by_cases c : pWd T E [114, 111, 97, 100] f
  · rw [cif_t c] at h
    obtain ⟨⟨f1, x, z⟩, e1, h⟩ := bS_inr h
    exact absurd (List.cons.inj (Prod.mk.inj (Sum.inr.inj h)).2).1 (by decide)
  rw [cif_f c] at h
  have st : ∀ x lo hi, pSet T E x lo hi (pSk T E (pWe T E f)) = Sum.inr (f', [3, 7, y]) → x = 7 ∧ lo ≤ y ∧ y ≤ hi := fun x lo hi t => by
    obtain ⟨o, z, e1, e2, e3⟩ := pSet_ok t hw
    have i1 := (List.cons.inj e1).2
    have i2 := (List.cons.inj (List.cons.inj i1).2).1
    subst i2
    exact ⟨(List.cons.inj i1).1.symm, e2, e3⟩
  by_cases c : pWd T E [113, 117, 111, 116, 97] f
  · rw [cif_t c] at h; exact absurd (st 5 0 160 h).1 (by decide)
  rw [cif_f c] at h
  by_cases c : pWd T E [119, 97, 108, 107] f
  · rw [cif_t c] at h; exact absurd (st 6 0 100 h).1 (by decide)
  rw [cif_f c] at h
  by_cases c : pWd T E [108, 105, 109, 105, 116] f
  · rw [cif_t c] at h; exact (st 7 1 99 h).2
  rw [cif_f c] at h
  by_cases c : pWd T E [105, 114, 111, 110] f
  · rw [cif_t c] at h; exact absurd (st 8 0 999 h).1 (by decide)
  rw [cif_f c] at h
  by_cases c : pWd T E [110, 105, 103, 104, 116] f
  · rw [cif_t c] at h; exact absurd (st 9 0 999 h).1 (by decide)
  rw [cif_f c] at h
  by_cases c : pWd T E [112, 114, 111, 109, 105, 115, 101] f
  · rw [cif_t c] at h
    obtain ⟨⟨f1, x, z⟩, e1, h⟩ := bS_inr h
    exact absurd (List.cons.inj (Prod.mk.inj (Sum.inr.inj h)).2).1 (by decide)
  rw [cif_f c] at h
  cases h
theorem RBd_line {gm : Nat → Nat → Int} {u : List Int} (h : RBd (gm 149)) (hu : uOk E (gm 149 3) (gm 149 4) u) (hl : ∀ y, u = [3, 7, y] → 1 ≤ y ∧ y ≤ 99) (hp0 : 0 ≤ gm 149 3) (hp1 : gm 149 3 ≤ 8) (hd0 : 0 ≤ gm 149 4) (hd1 : gm 149 4 ≤ 6) : RBd (apL T u gm 149) ∧ (∀ j, j = 1 ∨ j = 2 ∨ 364 ≤ j → apL T u gm 149 j = gm 149 j) := by
  obtain ⟨h1, h2, h3, h4⟩ := h
  rcases hu with ⟨w, pl, v, l, rfl, hu⟩ | ⟨b, rfl, hu⟩ | ⟨x, y, rfl, hu⟩ | ⟨x, y, rfl, hu⟩ | ⟨x, y, rfl, hu⟩
  · rw [apL_0] at *
    have eW : ∀ p : Nat, p < 8 → ∀ q : Nat, q < 7 → apP gm w pl v l 149 (12 + 7 * p + q) = if (p : Int) = gm 149 3 then [pl, v, w, l, -1, 0, 0].getD q 0 else gm 149 (12 + 7 * p + q) := fun p hp q hq => by
      unfold apP
      by_cases e : (p : Int) = gm 149 3
      · rw [if_pos e]
        rw [fu_nj (by omega)]
        by_cases q6 : q = 6
        · subst q6; rw [show 12 + 7 * p + 6 = (12 + 7 * gm 149 3 + 6).toNat by omega, fu_eq]; rfl
        rw [fu_nj (by omega)]
        by_cases q5 : q = 5
        · subst q5; rw [show 12 + 7 * p + 5 = (12 + 7 * gm 149 3 + 5).toNat by omega, fu_eq]; rfl
        rw [fu_nj (by omega)]
        by_cases q4 : q = 4
        · subst q4; rw [show 12 + 7 * p + 4 = (12 + 7 * gm 149 3 + 4).toNat by omega, fu_eq]; rfl
        rw [fu_nj (by omega)]
        by_cases q3 : q = 3
        · subst q3; rw [show 12 + 7 * p + 3 = (12 + 7 * gm 149 3 + 3).toNat by omega, fu_eq]; rfl
        rw [fu_nj (by omega)]
        by_cases q2 : q = 2
        · subst q2; rw [show 12 + 7 * p + 2 = (12 + 7 * gm 149 3 + 2).toNat by omega, fu_eq]; rfl
        rw [fu_nj (by omega)]
        by_cases q1 : q = 1
        · subst q1; rw [show 12 + 7 * p + 1 = (12 + 7 * gm 149 3 + 1).toNat by omega, fu_eq]; rfl
        rw [fu_nj (by omega)]
        have q0 : q = 0 := by omega
        subst q0
        rw [show 12 + 7 * p + 0 = (12 + 7 * gm 149 3 + 0).toNat by omega, fu_eq]; rfl
      · rw [if_neg e]
        repeat rw [fu_nj (by omega)]
    have eS : ∀ j : Nat, (j < 12 ∨ 68 ≤ j) → j ≠ 3 → apP gm w pl v l 149 j = gm 149 j := fun j h1 h2 => by
      unfold apP
      repeat rw [fu_nj (by omega)]
    refine ⟨⟨by rw [eS 7 (by decide) (by decide)]; exact h1, by rw [eS 8 (by decide) (by decide)]; exact h2, fun p hp => ?_, by rw [eS 0 (by decide) (by decide)]; exact h4⟩, fun j hj => eS j (by omega) (by omega)⟩
    have q := h3 p hp
    rw [show 14 + 7 * p = 12 + 7 * p + 2 by omega, show 18 + 7 * p = 12 + 7 * p + 6 by omega, show 13 + 7 * p = 12 + 7 * p + 1 by omega] at q ⊢
    rw [eW p hp 2 (by decide), eW p hp 6 (by decide), eW p hp 1 (by decide)]
    by_cases e : (p : Int) = gm 149 3
    · rw [if_pos e, if_pos e, if_pos e]
      show (0 ≤ w ∧ w ≤ 99) ∧ (0 ≤ (0 : Int) ∧ (0 : Int) ≤ 99) ∧ (0 ≤ v ∧ v ≤ 20)
      omega
    · rw [if_neg e, if_neg e, if_neg e]
      exact q
  · rw [apL_1] at *
    have eS : ∀ j : Nat, (j < 68 ∨ 116 ≤ j) → j ≠ 4 → apD T b gm 149 j = gm 149 j := fun j h1 h2 => by
      unfold apD
      rw [fu_nj h2, dshR_at hd0, if_neg (by omega)]
    exact ⟨⟨by rw [eS 7 (by decide) (by decide)]; exact h1, by rw [eS 8 (by decide) (by decide)]; exact h2, fun p hp => by rw [eS _ (by omega) (by omega), eS _ (by omega) (by omega), eS _ (by omega) (by omega)]; exact h3 p hp, by rw [eS 0 (by decide) (by decide)]; exact h4⟩, fun j hj => eS j (by omega) (by omega)⟩
  · rw [apL_2] at *
    have eS : ∀ j : Nat, (j < 116 ∨ 124 ≤ j) → apR x y gm 149 j = gm 149 j := fun j h1 => by
      unfold apR
      rw [fu_nj (by omega), fu_nj (by omega)]
    exact ⟨⟨by rw [eS 7 (by decide)]; exact h1, by rw [eS 8 (by decide)]; exact h2, fun p hp => by rw [eS _ (by omega), eS _ (by omega), eS _ (by omega)]; exact h3 p hp, by rw [eS 0 (by decide)]; exact h4⟩, fun j hj => eS j (by omega)⟩
  · rw [apL_3] at *
    have eS : ∀ j : Nat, j ≠ x.toNat → fu gm 149 x.toNat y 149 j = gm 149 j := fun j h1 => fu_nj h1
    refine ⟨⟨?_, ?_, fun p hp => by rw [eS _ (by omega), eS _ (by omega), eS _ (by omega)]; exact h3 p hp, by rw [eS 0 (by omega)]; exact h4⟩, fun j hj => eS j (by omega)⟩
    · by_cases e : x = 7
      · subst e
        have := hl y rfl
        rw [show (7 : Int).toNat = 7 from rfl, fu_eq]; exact this
      · rw [eS 7 (by omega)]; exact h1
    · by_cases e : x = 8
      · subst e
        rw [show (8 : Int).toNat = 8 from rfl, fu_eq]; omega
      · rw [eS 8 (by omega)]; exact h2
  · rw [apL_4] at *
    have eS : ∀ j : Nat, j ≠ (12 + 7 * x + 4).toNat → apV x y gm 149 j = gm 149 j := fun j h1 => by
      unfold apV
      exact fu_nj h1
    exact ⟨⟨by rw [eS 7 (by omega)]; exact h1, by rw [eS 8 (by omega)]; exact h2, fun p hp => by rw [eS _ (by omega), eS _ (by omega), eS _ (by omega)]; exact h3 p hp, by rw [eS 0 (by omega)]; exact h4⟩, fun j hj => eS j (by omega)⟩
theorem RBd_all : ∀ {n : Nat} {f : Int} {us : List (List Int)} {gm : Nat → Nat → Int}, pAll T E n (gm 149 3) (gm 149 4) f = Sum.inr us → pOk T E f → 0 ≤ gm 149 3 → gm 149 3 ≤ 8 → 0 ≤ gm 149 4 → gm 149 4 ≤ 6 → RBd (gm 149) → RBd (apLs T us gm 149) ∧ (∀ j, j = 1 ∨ j = 2 ∨ 364 ≤ j → apLs T us gm 149 j = gm 149 j)
  | 0, f, us, gm, h, _, _, _, _, _, _ => by cases h
  | n + 1, f, us, gm, h, hf, hp0, hp1, hd0, hd1, hr => by
    obtain ⟨⟨f', u⟩, e, h⟩ := bS_inr (show bS (pLine T E (gm 149 3) (gm 149 4) f) _ = Sum.inr us from h)
    obtain ⟨fo', hu⟩ := pLine_ok e hf hp1 hd1
    obtain ⟨s1, s2⟩ := RBd_line (T := T) hr hu (fun y hy => by rw [hy] at e; exact pLine_lim e hf) hp0 hp1 hd0 hd1
    obtain ⟨m1, m2, m3, m4, m5, m6, m7⟩ := apL_ok (T := T) hu hp0 hp1 hd0 hd1
    by_cases x1 : f' = E
    · have h : (if f' = E then Sum.inr [u] else if T f' = 59 then bS (pAll T E n (gm 149 3 + k0 u) (gm 149 4 + k1 u) (pSk T E (f' + 1))) (fun us => Sum.inr (u :: us)) else Sum.inl f' : Int ⊕ List (List Int)) = Sum.inr us := h
      rw [if_pos x1] at h
      cases h
      exact ⟨s1, s2⟩
    · have h : (if f' = E then Sum.inr [u] else if T f' = 59 then bS (pAll T E n (gm 149 3 + k0 u) (gm 149 4 + k1 u) (pSk T E (f' + 1))) (fun us => Sum.inr (u :: us)) else Sum.inl f' : Int ⊕ List (List Int)) = Sum.inr us := h
      rw [if_neg x1] at h
      by_cases x2 : T f' = 59
      · rw [if_pos x2] at h
        obtain ⟨us', e2, h⟩ := bS_inr h
        cases h
        rw [← m1, ← m2] at e2
        have p0 := fo'.1
        have p1 := fo'.2.1
        obtain ⟨q1, q2⟩ := RBd_all e2 (pOk_sk (by omega) (by omega)) (by omega) (by omega) (by omega) (by omega) s1
        exact ⟨q1, fun j t => (q2 j t).trans (s2 j t)⟩
      · rw [if_neg x2] at h
        cases h
theorem RBd_text {gm : Nat → Nat → Int} {us : List (List Int)} (hE : 0 ≤ E) (h : pText T E (gm 149 3) (gm 149 4) = Sum.inr us) (hp0 : 0 ≤ gm 149 3) (hp1 : gm 149 3 ≤ 8) (hd0 : 0 ≤ gm 149 4) (hd1 : gm 149 4 ≤ 6) (hr : RBd (gm 149)) : RBd (apLs T us gm 149) ∧ (∀ j, j = 1 ∨ j = 2 ∨ 364 ≤ j → apLs T us gm 149 j = gm 149 j) := by
  unfold pText at h
  by_cases c : pSk T E 0 = E
  · rw [if_pos c] at h; cases h; exact ⟨hr, fun _ _ => rfl⟩
  · rw [if_neg c] at h
    exact RBd_all h (pOk_sk (Int.le_refl 0) hE) hp0 hp1 hd0 hd1 hr
end FIQ0
section FIQ
variable {W : ax_W} {r : Nat} {g : Nat → Nat → Int}
def HM_house (g : Nat → Nat → Int) (zc : Int) (g1 : Nat → Nat → Int) : Prop := ∃ (T : Int → Int) (E : Int), (T = fun k => g 2 k.toNat) ∧ E = g 1 1 ∧ ((zc = 1 ∧ (∃ q, pText T E (g 3 4) (g 3 5) = Sum.inl q) ∧ frc g g1 ∧ g1 1 1 = 0) ∨ (zc = 2 ∧ (∃ us, pText T E (g 3 4) (g 3 5) = Sum.inr us) ∧ g 3 6 = 12 ∧ frc g g1 ∧ g1 1 1 = 0) ∨ (zc = 0 ∧ ∃ us G A, pText T E (g 3 4) (g 3 5) = Sum.inr us ∧ g 3 6 ≠ 12 ∧ A = apCs T us (cpT (cpH (fUse T E g) 3 29) 16 22) ∧ frd g G ∧ G 1 1 = 0 ∧ G 0 16 = 0 ∧ G 3 6 = g 3 6 + 1 ∧ (∀ j, 4 ≤ j → j ≤ 9 → j ≠ 6 → G 3 j = A 29 j) ∧ (∀ i j, 1 ≤ i → i ≤ 4 → G (3 + i) j = A (29 + i) j) ∧ (∀ j, 5 ≤ j → j ≤ 10 → G 16 j = A 22 j) ∧ (∀ i j, 1 ≤ i → i ≤ 5 → G (16 + i) j = A (22 + i) j) ∧ g1 = fu G 159 0 ((fJ (g 3 6 + 1) - 4 : Nat) : Int)))
theorem sp_w_house (hl : 1 ≤ W.lim) (hi : LI g) (hB : LB2 g) : fx W 1 11 69 0 [2, 1274, 7] [] g (fun k v g1 => k = 1 ∧ ∃ zc, v = fI zc ∧ 0 ≤ zc ∧ zc ≤ 3 ∧ HM_house g zc g1) := by
  obtain ⟨⟨b1, b2, b3, b4, b5, b6, b7, b8, b9⟩, -, bt, -⟩ := hB
  have ht : g 3 6 = g 149 0 := hi.1.2.1.2.2.1
  have h0 := hi.2.1.1.2.2.2
  refine sp_wg_house (P := fun kd v g1 => (∃ q, kd = 2 ∧ pText (fun k => g 2 k.toNat) (g 1 1) (g 3 4) (g 3 5) = Sum.inl q ∧ frc g g1 ∧ g1 1 1 = 0) ∨ (∃ us, kd = 3 ∧ pText (fun k => g 2 k.toNat) (g 1 1) (g 3 4) (g 3 5) = Sum.inr us ∧ g 3 6 = 12 ∧ frc g g1 ∧ g1 1 1 = 0) ∨ (kd = 1 ∧ v = fI (g 3 6 + 1) ∧ ∃ us A, pText (fun k => g 2 k.toNat) (g 1 1) (g 3 4) (g 3 5) = Sum.inr us ∧ g 3 6 ≠ 12 ∧ A = apCs (fun k => g 2 k.toNat) us (cpT (cpH (fUse (fun k => g 2 k.toNat) (g 1 1) g) 3 29) 16 22) ∧ frd g g1 ∧ g1 1 1 = 0 ∧ g1 0 16 = 0 ∧ g1 3 6 = g 3 6 + 1 ∧ (∀ j, 4 ≤ j → j ≤ 9 → j ≠ 6 → g1 3 j = A 29 j) ∧ (∀ i j, 1 ≤ i → i ≤ 4 → g1 (3 + i) j = A (29 + i) j) ∧ (∀ j, 5 ≤ j → j ≤ 10 → g1 16 j = A 22 j) ∧ (∀ i j, 1 ≤ i → i ≤ 5 → g1 (16 + i) j = A (22 + i) j))) hl ?_ (fun kd v g1 hp => ?_)
  · exact sp_chouseF (T := fun k => g 2 k.toNat) (Nat.le_refl 1) (fun k k0 k1 => ⟨rfl, bt k.toNat (by omega)⟩) rfl b7.1 b7.2 b1.1 b1.2 b2.1 b2.2 (by omega) (by omega)
      (fun q t g' f1 f2 f3 => Or.inl ⟨q, rfl, t, f1, f2⟩)
      (fun us t t2 g' f1 f2 f3 => Or.inr (Or.inl ⟨us, rfl, t, t2, f1, f2⟩))
      (fun us t t2 A hA g' x1 x2 x3 x4 x5 x6 x7 x8 x9 => Or.inr (Or.inr ⟨rfl, rfl, us, A, t, t2, hA, x1, x2, x4, x5, x6, x7, x8, x9⟩))
  · rcases hp with ⟨q, rfl, t, f1, f2⟩ | ⟨us, rfl, t, t2, f1, f2⟩ | ⟨rfl, rfl, us, A, t, t2, hA, f⟩
    · exact Or.inr (Or.inl ⟨rfl, rfl, 1, rfl, by decide, by decide, _, _, rfl, rfl, Or.inl ⟨rfl, ⟨q, t⟩, f1, f2⟩⟩)
    · exact Or.inr (Or.inr ⟨rfl, rfl, 2, rfl, by decide, by decide, _, _, rfl, rfl, Or.inr (Or.inl ⟨rfl, ⟨us, t⟩, t2, f1, f2⟩)⟩)
    · obtain ⟨x1, x2, x3, x4, x5, x6, x7, x8⟩ := f
      exact Or.inl ⟨rfl, _, rfl, by unfold fR; omega, rfl, 0, rfl, by decide, by decide, _, _, rfl, rfl, Or.inr (Or.inr ⟨rfl, us, g1, A, t, t2, hA, x1, x2, x3, x4, x5, x6, x7, x8, rfl⟩)⟩
theorem LI_no {g1 g2 : Nat → Nat → Int} (hi : LI g) (f1 : frc g g1) (f2 : g1 1 1 = 0) (m0 : frm g1 g2) (m1 : g2 148 8 = 0) (m2 : g2 148 6 = g1 148 6) (m3 : ∀ j, g2 149 j = g1 149 j) : LI g2 := by
  have k : ∀ c j, ¬ (22 ≤ c ∧ c ≤ 33) → ¬ (c = 1 ∧ j = 1) → ¬ (c = 0 ∧ j = 18) → c ≠ 151 → ¬ (c = 148 ∧ (j = 0 ∨ (8 ≤ j ∧ j ≤ 13))) → g2 c j = g c j := fun c j a1 a2 a3 a4 a5 => by
    rw [← f1 c j a1 a2 a3]
    by_cases c1 : c = 149
    · subst c1; exact m3 j
    · by_cases c2 : c = 148 ∧ j = 6
      · obtain ⟨rfl, rfl⟩ := c2; exact m2
      · exact m0 c j c1 a4 (by omega)
  exact LI_cg hi (fun c j q => k c j (by unfold RK at q; omega) (by unfold RK at q; omega) (by unfold RK at q; omega) (by unfold RK at q; omega) (by unfold RK at q; omega)) (fun c j q q2 q3 => k c j (by unfold fPk at q; omega) (by unfold fPk at q; omega) (by unfold fPk at q; omega) (by unfold fPk at q; omega) (by unfold fPk at q; omega)) (by rw [m0 _ _ (by decide) (by decide) (by decide), f2, m1])
theorem sp_r_house {zc : Int} {g1 : Nat → Nat → Int} (hi : LI g) (hB : LB2 g) (hm : HM_house g zc g1) : fx W r 9 267 0 [1186, 7] [] g1 (PMa g1 zc) := by
  obtain ⟨⟨b1, b2, b3, b4, b5, b6, b7, b8, b9⟩, ⟨d1, d2, d3, -⟩, bt, -⟩ := hB
  have ht : g 3 6 = g 149 0 := hi.1.2.1.2.2.1
  have h3 : g 3 4 = g 149 3 := hi.1.2.1.1
  have h4 : g 3 5 = g 149 4 := hi.1.2.1.2.1
  have h0 := hi.2.1.1.2.2.2
  have hl : g 1 1 = g 148 8 := hi.2.2.2.2.1
  obtain ⟨T, E, eT, eE, hm⟩ := hm
  have up : ∀ c j, 148 ≤ c → c ≠ 159 → g1 c j = g c j := fun c j a a2 => by
    rcases hm with ⟨-, -, f1, -⟩ | ⟨-, -, -, f1, -⟩ | ⟨-, us, G, A, -, -, -, f1, -, -, -, -, -, -, -, rfl⟩
    · exact f1 c j (by omega) (by omega) (by omega)
    · exact f1 c j (by omega) (by omega) (by omega)
    · rw [fu_nc a2]; exact f1 c j (by omega) (by omega) (by omega) (by omega)
  have em : g1 149 = g 149 := by funext j; exact up _ _ (by decide) (by decide)
  rw [h3, h4] at hm
  refine sp_mhouse (T := T) (E := E) (fun k k0 k1 => ?_) (by rw [up _ _ (by decide) (by decide), ← hl, eE]) (by rw [eE]; exact b7.1) (by rw [eE]; exact b7.2) (by rw [em]; exact d2.1) (by rw [em]; exact d2.2) (by rw [em]; exact d3.1) (by rw [em]; exact d3.2) (by rw [em]; exact h0.1) (by rw [em]; exact h0.2) ?_ ?_ ?_
  · rw [up _ _ (by decide) (by decide), eT]
    exact ⟨(hi.1.1 k.toNat (by omega)).symm, bt k.toNat (by omega)⟩
  all_goals rw [em]
  · intro q t g' m0 m1 m2 m3 m4 m5
    rcases hm with ⟨rfl, -, f1, f2⟩ | ⟨-, ⟨us, t2⟩, -⟩ | ⟨-, us, G, A, t2, -⟩
    · exact ⟨rfl, 0, rfl, by unfold fR; decide, LI_no hi f1 f2 m0 m3 m4 (fun j => by rw [m5, em]), m1, fun t => absurd t (by decide), m0 _ _ (by decide) (by decide) (by decide)⟩
    · rw [t] at t2; cases t2
    · rw [t] at t2; cases t2
  · intro us t tt g' m0 m1 m2 m3 m4 m5
    rcases hm with ⟨-, ⟨q, t2⟩, -⟩ | ⟨rfl, -, -, f1, f2⟩ | ⟨-, us, G, A, -, t2, -⟩
    · rw [t] at t2; cases t2
    · exact ⟨rfl, 0, rfl, by unfold fR; decide, LI_no hi f1 f2 m0 m3 m4 (fun j => by rw [m5, em]), m1, fun t => absurd t (by decide), m0 _ _ (by decide) (by decide) (by decide)⟩
    · exact absurd tt (by omega)
  · intro us t tt g' m0 m1 m2 m3 m4 m5
    rcases hm with ⟨-, ⟨q, t2⟩, -⟩ | ⟨-, -, t2, -⟩ | ⟨rfl, us2, G, A, t2, -, hA, x0, xl, x1, x2, f1, f2, f3, f4, h1⟩
    · rw [t] at t2; cases t2
    · exact absurd t2 (by omega)
    · have eu : us2 = us := by rw [t] at t2; exact (Sum.inr.inj t2).symm
      subst eu
      have x0' : ∀ c j, 22 ≤ c ∨ True → ¬ (3 ≤ c ∧ c ≤ 3 + 4) → ¬ (16 ≤ c ∧ c ≤ 33) → ¬ (c = 1 ∧ j = 1) → ¬ (c = 0 ∧ (j = 18 ∨ j = 16)) → fu g1 159 0 (g 159 0) c j = g c j := fun c j _ a1 a2 a3 a4 => by
        by_cases e : c = 159 ∧ j = 0
        · obtain ⟨rfl, rfl⟩ := e
          rw [fu_eq]
        · rw [fu_ne e, h1, fu_ne e]
          exact x0 c j a1 a2 a3 a4
      obtain ⟨r1, r2⟩ := RBd_text (T := T) (E := E) (gm := g1) (us := us2) (by rw [eE]; exact b7.1) (by rw [em]; exact t) (by rw [em]; exact d2.1) (by rw [em]; exact d2.2) (by rw [em]; exact d3.1) (by rw [em]; exact d3.2) (by rw [em]; exact hi.2.1.1)
      have row : g' 149 = tU (apLs T us2 g1 149) 0 (g 149 0 + 1) := by
        funext j
        rw [m5]
        unfold fu tU
        by_cases e : j = 0
        · rw [if_pos ⟨rfl, e⟩, if_pos e]
        · rw [if_neg (fun t => e t.2), if_neg e]
      have lo : ∀ c j, c < 148 → g' c j = G c j := fun c j hc => by
        rw [m0 c j (by omega) (by omega) (by omega), h1, fu_nc (by omega)]
      have hi2 : ∀ c j, 148 ≤ c → c ≠ 149 → c ≠ 151 → c ≠ 159 → ¬ (c = 148 ∧ (j = 0 ∨ j = 6 ∨ (8 ≤ j ∧ j ≤ 13))) → g' c j = g c j := fun c j a1 a2 a3 a4 a5 => by
        rw [m0 c j a2 a3 a5, up c j a1 a4]
      have RM : RMain g' := RMain_house (T := T) (E := E) (us := us2) (g1 := g1) (A := A) hi.1 (by rw [eE]; exact b7.1) t d2.1 d2.2 d3.1 d3.2 hA (fun c j => x0' c j (Or.inr trivial)) (by rw [h1, fu_nc (by decide)]; exact x1) (by rw [h1, fu_nc (by decide)]; exact x2) (fun j j1 j2 j3 => by rw [h1, fu_nc (by decide)]; exact f1 j j1 j2 j3) (fun i j j1 j2 => by rw [h1, fu_nc (by omega)]; exact f2 i j j1 j2) (fun j j1 j2 => by rw [h1, fu_nc (by decide)]; exact f3 j j1 j2) (fun i j j1 j2 => by rw [h1, fu_nc (by omega)]; exact f4 i j j1 j2) m0 m4 (fun j => by rw [m5, em])
      refine ⟨rfl, _, rfl, by unfold fR; omega, ⟨RM, ⟨?_, fun r hr => ?_⟩, ?_, ?_, ?_, ?_⟩, m1, fun _ => ?_, m0 _ _ (by decide) (by decide) (by decide)⟩
      · rw [row]
        obtain ⟨w1, w2, w3, w4⟩ := r1
        exact ⟨by rw [tU_ne (by decide)]; exact w1, by rw [tU_ne (by decide)]; exact w2, fun p hp => by rw [tU_ne (by omega), tU_ne (by omega), tU_ne (by omega)]; exact w3 p hp, by rw [tU_eq]; omega⟩
      · rw [m4] at hr; omega
      · rw [row]
        refine RLw_eq hi.2.2.1 (by rw [lo _ _ (by decide)]; exact x0 _ _ (by decide) (by decide) (by decide) (by decide)) (fun i j i1 i2 => by rw [lo _ _ (by omega)]; exact x0 _ _ (by omega) (by omega) (by omega) (by omega)) (fun k hk => by rw [tU_ne (by omega), r2 k (by omega), em])
      · refine RImg_cg hi.2.2.2.1 (fun c j k => ?_) (by rw [lo _ _ (by decide)]; exact x0 _ _ (by decide) (by decide) (by decide) (by decide))
        by_cases hc : c < 148
        · rw [lo c j hc]; exact x0 c j (by omega) (by omega) (by omega) (by omega)
        · exact hi2 c j (by omega) (by omega) (by omega) (by omega) (by omega)
      · rw [lo _ _ (by decide), xl, m3]
      · rw [lo _ _ (by decide), x0 _ _ (by decide) (by decide) (by decide) (by decide), hi2 _ _ (by decide) (by decide) (by decide) (by decide) (by decide)]
        exact hi.2.2.2.2.2
      · rw [h1, fu_eq, ht]
end FIQ
