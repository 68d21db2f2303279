/-! fx: house and table as a row of the reference has them -/
/-- the house at cell h -/
def RHf (h : Nat) (g : Nat → Nat → Int) (t : Nat → Int) : Prop := g h 4 = t 3 ∧ g h 5 = t 4 ∧ g h 6 = t 0 ∧ g h 7 = t 5 ∧ g h 8 = t 6 ∧ g h 9 = t 7 ∧ (∀ p : Nat, p < 8 → g (h + 1) p = t (14 + 7 * p)) ∧ (∀ p : Nat, p < 8 → g (h + 2) p = t (15 + 7 * p)) ∧ (∀ j : Nat, (j : Int) < 8 * g h 5 → g (h + 3) j = t (68 + j)) ∧ (∀ j : Nat, j < 8 → g (h + 4) j = t (116 + j))
/-- the table at cell b, but for the log -/
def RTf (b : Nat) (g : Nat → Nat → Int) (t : Nat → Int) : Prop := (∀ p : Nat, p < 8 → g (b + 1) p = t (12 + 7 * p)) ∧ (∀ p : Nat, p < 8 → g (b + 2) p = t (13 + 7 * p)) ∧ (∀ p : Nat, p < 8 → g (b + 3) p = t (16 + 7 * p)) ∧ (∀ p : Nat, p < 8 → g (b + 4) p = t (18 + 7 * p)) ∧ (∀ p : Nat, p < 8 → fbt (g b 7) p = t (17 + 7 * p)) ∧ g b 8 = t 8 ∧ g b 9 = t 9 ∧ g b 10 = t 11
/-- what holds of a row by itself -/
def RIv (t : Nat → Int) : Prop := (∀ p : Nat, p < 8 → t (12 + 7 * p) = -1 → t (18 + 7 * p) = 0) ∧ (∀ p : Nat, p < 8 → t (17 + 7 * p) ≠ 0 → t (12 + 7 * p) ≠ -1) ∧ (∀ p : Nat, p < 8 → t 3 ≤ p → t (17 + 7 * p) = 0)
/-- places of the log, and the draws -/
def tLg (j : Nat) : Prop := j = 10 ∨ j = 11 ∨ (124 ≤ j ∧ j < 364)
section FHA
variable {T : Int → Int} {E : Int}
theorem RF_line {gc gm : Nat → Nat → Int} {u : List Int} (hH : RHf 29 gc (gm 149)) (hT : RTf 22 gc (gm 149)) (hI : RIv (gm 149)) (hu : uOk E (gm 149 3) (gm 149 4) u) (hp0 : 0 ≤ gm 149 3) (hp1 : gm 149 3 ≤ 8) (hd0 : 0 ≤ gm 149 4) (hd1 : gm 149 4 ≤ 6) :
    RHf 29 (apC T u gc) (apL T u gm 149) ∧ RTf 22 (apC T u gc) (apL T u gm 149) ∧ RIv (apL T u gm 149) ∧ (∀ j, apC T u gc 27 j = gc 27 j) ∧ apC T u gc 22 5 = gc 22 5 ∧ apC T u gc 22 6 = gc 22 6 ∧ (∀ j, tLg j → apL T u gm 149 j = gm 149 j) := by
  obtain ⟨a1, a2, a3, a4, a5, a6, a7, a8, a9, a10⟩ := hH
  obtain ⟨r1, r2, r3, r4, r5⟩ := RHx_line (T := T) ⟨a1, a2, a3, a9, a10⟩ hu hp0 hp1 hd0 hd1
  obtain ⟨b1, b2, b3, b4, b5, b6, b7, b8⟩ := hT
  obtain ⟨i1, i2, i3⟩ := hI
  rcases hu with ⟨w, pl, v, l, rfl, hu⟩ | ⟨b, rfl, hu⟩ | ⟨x, y, rfl, hu⟩ | ⟨x, y, rfl, hu⟩ | ⟨x, y, rfl, hu⟩
  · rw [apC_0, apL_0] at *
    have eW : ∀ p : Nat, p < 8 → ∀ q : Nat, q < 7 → apP gm w pl v l 149 (12 + 7 * p + q) = if (p : Int) = gm 149 3 then [pl, v, w, l, -1, 0, 0].getD q 0 else gm 149 (12 + 7 * p + q) := fun p hp q hq => by
      unfold apP
      by_cases e : (p : Int) = gm 149 3
      · rw [if_pos e]
        rw [fu_nj (by omega)]
        by_cases q6 : q = 6
        · subst q6; rw [show 12 + 7 * p + 6 = (12 + 7 * gm 149 3 + 6).toNat by omega, fu_eq]; rfl
        rw [fu_nj (by omega)]
        by_cases q5 : q = 5
        · subst q5; rw [show 12 + 7 * p + 5 = (12 + 7 * gm 149 3 + 5).toNat by omega, fu_eq]; rfl
        rw [fu_nj (by omega)]
        by_cases q4 : q = 4
        · subst q4; rw [show 12 + 7 * p + 4 = (12 + 7 * gm 149 3 + 4).toNat by omega, fu_eq]; rfl
        rw [fu_nj (by omega)]
        by_cases q3 : q = 3
        · subst q3; rw [show 12 + 7 * p + 3 = (12 + 7 * gm 149 3 + 3).toNat by omega, fu_eq]; rfl
        rw [fu_nj (by omega)]
        by_cases q2 : q = 2
        · subst q2; rw [show 12 + 7 * p + 2 = (12 + 7 * gm 149 3 + 2).toNat by omega, fu_eq]; rfl
        rw [fu_nj (by omega)]
        by_cases q1 : q = 1
        · subst q1; rw [show 12 + 7 * p + 1 = (12 + 7 * gm 149 3 + 1).toNat by omega, fu_eq]; rfl
        rw [fu_nj (by omega)]
        have q0 : q = 0 := by omega
        subst q0
        rw [show 12 + 7 * p + 0 = (12 + 7 * gm 149 3 + 0).toNat by omega, fu_eq]; rfl
      · rw [if_neg e]
        repeat rw [fu_nj (by omega)]
    have eS : ∀ j : Nat, (j < 12 ∨ 68 ≤ j) → j ≠ 3 → apP gm w pl v l 149 j = gm 149 j := fun j h1 h2 => by
      unfold apP
      repeat rw [fu_nj (by omega)]
    have e3 : apP gm w pl v l 149 3 = gm 149 3 + 1 := by unfold apP; rw [fu_eq]
    have ec : ∀ c j, c ≠ 30 → c ≠ 31 → c ≠ 23 → c ≠ 24 → c ≠ 25 → c ≠ 26 → ¬ (c = 29 ∧ j = 4) → apCP gc w pl v l c j = gc c j := fun c j h1 h2 h3 h4 h5 h6 h7 => by
      unfold apCP
      rw [fu_nc h6, fu_nc h5, fu_nc h4, fu_nc h3, fu_ne h7, fu_nc h2, fu_nc h1]
    have one : ∀ c z, (∀ p, apCP gc w pl v l c p = fu gc c (gc 29 4).toNat z c p) → ∀ p : Nat, p < 8 → apCP gc w pl v l c p = if (p : Int) = gm 149 3 then z else gc c p := fun c z h p hp => by
      rw [h p, a1]
      by_cases e : (p : Int) = gm 149 3
      · rw [if_pos e, show p = (gm 149 3).toNat by omega, fu_eq]
      · rw [if_neg e, fu_nj (by omega)]
    have c1 := one 30 w (fun p => by unfold apCP; rw [fu_nc (by decide), fu_nc (by decide), fu_nc (by decide), fu_nc (by decide), fu_nc (by decide), fu_nc (by decide)])
    have c2 := one 31 l (fun p => by unfold apCP; rw [fu_nc (by decide), fu_nc (by decide), fu_nc (by decide), fu_nc (by decide), fu_nc (by decide)]; unfold fu; simp)
    have c3 := one 23 pl (fun p => by unfold apCP; rw [fu_nc (by decide), fu_nc (by decide), fu_nc (by decide)]; unfold fu; simp)
    have c4 := one 24 v (fun p => by unfold apCP; rw [fu_nc (by decide), fu_nc (by decide)]; unfold fu; simp)
    have c5 := one 25 (-1) (fun p => by unfold apCP; rw [fu_nc (by decide)]; unfold fu; simp)
    have c6 := one 26 0 (fun p => by unfold apCP; unfold fu; simp)
    have sp : ∀ (q : Nat) (z : Int) (f : Nat → Int), q < 7 → [pl, v, w, l, -1, 0, 0].getD q 0 = z → (∀ p : Nat, p < 8 → f p = gm 149 (12 + 7 * p + q)) → ∀ p : Nat, p < 8 → (if (p : Int) = gm 149 3 then z else f p) = apP gm w pl v l 149 (12 + 7 * p + q) := fun q z f hq e h p hp => by
      rw [eW p hp q hq, e, h p hp]
    have nn : ∀ q p : Nat, (12 + q) + 7 * p = 12 + 7 * p + q := fun q p => by omega
    refine ⟨⟨r1, r2, r3, ?_, ?_, ?_, fun p hp => ?_, fun p hp => ?_, r4, r5⟩, ⟨fun p hp => ?_, fun p hp => ?_, fun p hp => ?_, fun p hp => ?_, fun p hp => ?_, ?_, ?_, ?_⟩, ⟨fun p hp => ?_, fun p hp => ?_, fun p hp h => ?_⟩, fun j => ?_, ?_, ?_, fun j hj => ?_⟩
    · rw [ec _ _ (by decide) (by decide) (by decide) (by decide) (by decide) (by decide) (by decide), eS 5 (by decide) (by decide)]; exact a4
    · rw [ec _ _ (by decide) (by decide) (by decide) (by decide) (by decide) (by decide) (by decide), eS 6 (by decide) (by decide)]; exact a5
    · rw [ec _ _ (by decide) (by decide) (by decide) (by decide) (by decide) (by decide) (by decide), eS 7 (by decide) (by decide)]; exact a6
    · rw [show 14 + 7 * p = 12 + 7 * p + 2 by omega]
      exact (c1 p hp).trans (sp 2 w _ (by decide) rfl (fun p hp => by rw [show 12 + 7 * p + 2 = 14 + 7 * p by omega]; exact a7 p hp) p hp)
    · rw [show 15 + 7 * p = 12 + 7 * p + 3 by omega]
      exact (c2 p hp).trans (sp 3 l _ (by decide) rfl (fun p hp => by rw [show 12 + 7 * p + 3 = 15 + 7 * p by omega]; exact a8 p hp) p hp)
    · exact (c3 p hp).trans (sp 0 pl _ (by decide) rfl b1 p hp)
    · rw [show 13 + 7 * p = 12 + 7 * p + 1 by omega]
      exact (c4 p hp).trans (sp 1 v _ (by decide) rfl (fun p hp => by rw [show 12 + 7 * p + 1 = 13 + 7 * p by omega]; exact b2 p hp) p hp)
    · rw [show 16 + 7 * p = 12 + 7 * p + 4 by omega]
      exact (c5 p hp).trans (sp 4 (-1) _ (by decide) rfl (fun p hp => by rw [show 12 + 7 * p + 4 = 16 + 7 * p by omega]; exact b3 p hp) p hp)
    · rw [show 18 + 7 * p = 12 + 7 * p + 6 by omega]
      exact (c6 p hp).trans (sp 6 0 _ (by decide) rfl (fun p hp => by rw [show 12 + 7 * p + 6 = 18 + 7 * p by omega]; exact b4 p hp) p hp)
    · rw [ec _ _ (by decide) (by decide) (by decide) (by decide) (by decide) (by decide) (by decide), show 17 + 7 * p = 12 + 7 * p + 5 by omega, eW p hp 5 (by decide), b5 p hp, show 17 + 7 * p = 12 + 7 * p + 5 by omega]
      by_cases e : (p : Int) = gm 149 3
      · rw [if_pos e, show 12 + 7 * p + 5 = 17 + 7 * p by omega]
        exact i3 p hp (by omega)
      · rw [if_neg e]
    · rw [ec _ _ (by decide) (by decide) (by decide) (by decide) (by decide) (by decide) (by decide), eS 8 (by decide) (by decide)]; exact b6
    · rw [ec _ _ (by decide) (by decide) (by decide) (by decide) (by decide) (by decide) (by decide), eS 9 (by decide) (by decide)]; exact b7
    · rw [ec _ _ (by decide) (by decide) (by decide) (by decide) (by decide) (by decide) (by decide), eS 11 (by decide) (by decide)]; exact b8
    · rw [show 12 + 7 * p = 12 + 7 * p + 0 from rfl, eW p hp 0 (by decide), show 18 + 7 * p = 12 + 7 * p + 6 by omega, eW p hp 6 (by decide)]
      by_cases e : (p : Int) = gm 149 3
      · rw [if_pos e, if_pos e]; exact fun _ => rfl
      · rw [if_neg e, if_neg e]
        intro h
        have := i1 p hp h
        rw [show 12 + 7 * p + 6 = 18 + 7 * p by omega]
        exact this
    · rw [show 12 + 7 * p = 12 + 7 * p + 0 from rfl, eW p hp 0 (by decide), show 17 + 7 * p = 12 + 7 * p + 5 by omega, eW p hp 5 (by decide)]
      by_cases e : (p : Int) = gm 149 3
      · rw [if_pos e, if_pos e]; exact fun t => absurd rfl t
      · rw [if_neg e, if_neg e]
        intro h
        rw [show 12 + 7 * p + 5 = 17 + 7 * p by omega] at h
        exact i2 p hp h
    · rw [e3] at h
      rw [show 17 + 7 * p = 12 + 7 * p + 5 by omega, eW p hp 5 (by decide), if_neg (by omega), show 12 + 7 * p + 5 = 17 + 7 * p by omega]
      exact i3 p hp (by omega)
    · exact ec _ _ (by decide) (by decide) (by decide) (by decide) (by decide) (by decide) (fun t => absurd t.1 (by decide))
    · exact ec _ _ (by decide) (by decide) (by decide) (by decide) (by decide) (by decide) (by decide)
    · exact ec _ _ (by decide) (by decide) (by decide) (by decide) (by decide) (by decide) (by decide)
    · exact eS j (by unfold tLg at hj; omega) (by unfold tLg at hj; omega)
  · rw [apC_1, apL_1] at *
    have ec : ∀ c j, c ≠ 32 → ¬ (c = 29 ∧ j = 5) → apCD T b gc c j = gc c j := fun c j h1 h2 => by
      unfold apCD
      rw [fu_ne h2, dshC_ne h1]
    have eS : ∀ j : Nat, (j < 68 ∨ 116 ≤ j) → j ≠ 4 → apD T b gm 149 j = gm 149 j := fun j h1 h2 => by
      unfold apD
      rw [fu_nj h2, dshR_at hd0, if_neg (by omega)]
    refine ⟨⟨r1, r2, r3, ?_, ?_, ?_, fun p hp => ?_, fun p hp => ?_, r4, r5⟩, ⟨fun p hp => ?_, fun p hp => ?_, fun p hp => ?_, fun p hp => ?_, fun p hp => ?_, ?_, ?_, ?_⟩, ⟨fun p hp => ?_, fun p hp => ?_, fun p hp h => ?_⟩, fun j => ?_, ?_, ?_, fun j hj => ?_⟩
    · rw [ec _ _ (by decide) (by decide), eS _ (by decide) (by decide)]; exact a4
    · rw [ec _ _ (by decide) (by decide), eS _ (by decide) (by decide)]; exact a5
    · rw [ec _ _ (by decide) (by decide), eS _ (by decide) (by decide)]; exact a6
    · rw [ec _ _ (by decide) (fun t => absurd t.1 (by decide)), eS _ (by omega) (by omega)]; exact a7 p hp
    · rw [ec _ _ (by decide) (fun t => absurd t.1 (by decide)), eS _ (by omega) (by omega)]; exact a8 p hp
    · rw [ec _ _ (by decide) (fun t => absurd t.1 (by decide)), eS _ (by omega) (by omega)]; exact b1 p hp
    · rw [ec _ _ (by decide) (fun t => absurd t.1 (by decide)), eS _ (by omega) (by omega)]; exact b2 p hp
    · rw [ec _ _ (by decide) (fun t => absurd t.1 (by decide)), eS _ (by omega) (by omega)]; exact b3 p hp
    · rw [ec _ _ (by decide) (fun t => absurd t.1 (by decide)), eS _ (by omega) (by omega)]; exact b4 p hp
    · rw [ec _ _ (by decide) (by decide), eS _ (by omega) (by omega)]; exact b5 p hp
    · rw [ec _ _ (by decide) (by decide), eS _ (by decide) (by decide)]; exact b6
    · rw [ec _ _ (by decide) (by decide), eS _ (by decide) (by decide)]; exact b7
    · rw [ec _ _ (by decide) (by decide), eS _ (by decide) (by decide)]; exact b8
    · rw [eS _ (by omega) (by omega), eS _ (by omega) (by omega)]; exact i1 p hp
    · rw [eS _ (by omega) (by omega), eS _ (by omega) (by omega)]; exact i2 p hp
    · rw [eS _ (by decide) (by decide)] at h
      rw [eS _ (by omega) (by omega)]; exact i3 p hp h
    · exact ec _ _ (by decide) (fun t => absurd t.1 (by decide))
    · exact ec _ _ (by decide) (by decide)
    · exact ec _ _ (by decide) (by decide)
    · exact eS j (by unfold tLg at hj; omega) (by unfold tLg at hj; omega)
  · rw [apC_2, apL_2] at *
    have ec : ∀ c j, c ≠ 33 → apCR x y gc c j = gc c j := fun c j h1 => by
      unfold apCR
      rw [fu_nc h1, fu_nc h1]
    have eS : ∀ j : Nat, (j < 116 ∨ 124 ≤ j) → apR x y gm 149 j = gm 149 j := fun j h1 => by
      unfold apR
      rw [fu_nj (by omega), fu_nj (by omega)]
    refine ⟨⟨r1, r2, r3, ?_, ?_, ?_, fun p hp => ?_, fun p hp => ?_, r4, r5⟩, ⟨fun p hp => ?_, fun p hp => ?_, fun p hp => ?_, fun p hp => ?_, fun p hp => ?_, ?_, ?_, ?_⟩, ⟨fun p hp => ?_, fun p hp => ?_, fun p hp h => ?_⟩, fun j => ?_, ?_, ?_, fun j hj => ?_⟩
    · rw [ec _ _ (by decide), eS _ (by decide)]; exact a4
    · rw [ec _ _ (by decide), eS _ (by decide)]; exact a5
    · rw [ec _ _ (by decide), eS _ (by decide)]; exact a6
    · rw [ec _ _ (by decide), eS _ (by omega)]; exact a7 p hp
    · rw [ec _ _ (by decide), eS _ (by omega)]; exact a8 p hp
    · rw [ec _ _ (by decide), eS _ (by omega)]; exact b1 p hp
    · rw [ec _ _ (by decide), eS _ (by omega)]; exact b2 p hp
    · rw [ec _ _ (by decide), eS _ (by omega)]; exact b3 p hp
    · rw [ec _ _ (by decide), eS _ (by omega)]; exact b4 p hp
    · rw [ec _ _ (by decide), eS _ (by omega)]; exact b5 p hp
    · rw [ec _ _ (by decide), eS _ (by decide)]; exact b6
    · rw [ec _ _ (by decide), eS _ (by decide)]; exact b7
    · rw [ec _ _ (by decide), eS _ (by decide)]; exact b8
    · rw [eS _ (by omega), eS _ (by omega)]; exact i1 p hp
    · rw [eS _ (by omega), eS _ (by omega)]; exact i2 p hp
    · rw [eS _ (by decide)] at h
      rw [eS _ (by omega)]; exact i3 p hp h
    · exact ec _ _ (by decide)
    · exact ec _ _ (by decide)
    · exact ec _ _ (by decide)
    · exact eS j (by unfold tLg at hj; omega)
  · rw [apC_3, apL_3] at *
    have eS : ∀ j : Nat, j ≠ x.toNat → fu gm 149 x.toNat y 149 j = gm 149 j := fun j h1 => fu_nj h1
    have ex : ∀ k : Nat, (k : Int) = x → fu gm 149 x.toNat y 149 k = y := fun k h => by
      rw [show k = x.toNat by omega]
      exact fu_eq _ _ _ _
    have ec : ∀ c j, ¬ (c = 29 ∧ j = 7) → ¬ (c = 29 ∧ j = 8) → ¬ (c = 29 ∧ j = 9) → ¬ (c = 22 ∧ j = 8) → ¬ (c = 22 ∧ j = 9) → apCS x y gc c j = gc c j := fun c j h1 h2 h3 h4 h5 => by
      unfold apCS
      split
      · exact fu_ne h1
      · split
        · exact fu_ne h2
        · split
          · exact fu_ne h3
          · split
            · exact fu_ne h4
            · exact fu_ne h5
    have one : ∀ (c j k : Nat), (∀ gc : Nat → Nat → Int, apCS x y gc c j = if x = (k : Int) then y else gc c j) → gc c j = gm 149 k → apCS x y gc c j = fu gm 149 x.toNat y 149 k := fun c j k h e => by
      rw [h gc]
      by_cases e2 : x = (k : Int)
      · rw [if_pos e2, ex k e2.symm]
      · rw [if_neg e2, eS k (by omega)]; exact e
    have nx : ∀ p q : Nat, 12 + q + 7 * p ≠ x.toNat := fun p q => by omega
    have st : ∀ (c j k : Nat), (c = 29 ∧ j = 7 ∧ k = 5) ∨ (c = 29 ∧ j = 8 ∧ k = 6) ∨ (c = 29 ∧ j = 9 ∧ k = 7) ∨ (c = 22 ∧ j = 8 ∧ k = 8) ∨ (c = 22 ∧ j = 9 ∧ k = 9) → ∀ gc : Nat → Nat → Int, apCS x y gc c j = if x = (k : Int) then y else gc c j := fun c j k h gc => by
      unfold apCS
      by_cases x5 : x = 5
      · rw [if_pos x5]
        rcases h with ⟨rfl, rfl, rfl⟩ | ⟨rfl, rfl, rfl⟩ | ⟨rfl, rfl, rfl⟩ | ⟨rfl, rfl, rfl⟩ | ⟨rfl, rfl, rfl⟩
        · rw [if_pos (by omega)]; exact fu_eq _ _ _ _
        all_goals (rw [if_neg (by omega)]; exact fu_ne (by decide))
      rw [if_neg x5]
      by_cases x6 : x = 6
      · rw [if_pos x6]
        rcases h with ⟨rfl, rfl, rfl⟩ | ⟨rfl, rfl, rfl⟩ | ⟨rfl, rfl, rfl⟩ | ⟨rfl, rfl, rfl⟩ | ⟨rfl, rfl, rfl⟩
        · rw [if_neg (by omega)]; exact fu_ne (by decide)
        · rw [if_pos (by omega)]; exact fu_eq _ _ _ _
        all_goals (rw [if_neg (by omega)]; exact fu_ne (by decide))
      rw [if_neg x6]
      by_cases x7 : x = 7
      · rw [if_pos x7]
        rcases h with ⟨rfl, rfl, rfl⟩ | ⟨rfl, rfl, rfl⟩ | ⟨rfl, rfl, rfl⟩ | ⟨rfl, rfl, rfl⟩ | ⟨rfl, rfl, rfl⟩
        · rw [if_neg (by omega)]; exact fu_ne (by decide)
        · rw [if_neg (by omega)]; exact fu_ne (by decide)
        · rw [if_pos (by omega)]; exact fu_eq _ _ _ _
        all_goals (rw [if_neg (by omega)]; exact fu_ne (by decide))
      rw [if_neg x7]
      by_cases x8 : x = 8
      · rw [if_pos x8]
        rcases h with ⟨rfl, rfl, rfl⟩ | ⟨rfl, rfl, rfl⟩ | ⟨rfl, rfl, rfl⟩ | ⟨rfl, rfl, rfl⟩ | ⟨rfl, rfl, rfl⟩
        · rw [if_neg (by omega)]; exact fu_ne (by decide)
        · rw [if_neg (by omega)]; exact fu_ne (by decide)
        · rw [if_neg (by omega)]; exact fu_ne (by decide)
        · rw [if_pos (by omega)]; exact fu_eq _ _ _ _
        · rw [if_neg (by omega)]; exact fu_ne (by decide)
      rw [if_neg x8]
      rcases h with ⟨rfl, rfl, rfl⟩ | ⟨rfl, rfl, rfl⟩ | ⟨rfl, rfl, rfl⟩ | ⟨rfl, rfl, rfl⟩ | ⟨rfl, rfl, rfl⟩
      · rw [if_neg (by omega)]; exact fu_ne (by decide)
      · rw [if_neg (by omega)]; exact fu_ne (by decide)
      · rw [if_neg (by omega)]; exact fu_ne (by decide)
      · rw [if_neg (by omega)]; exact fu_ne (by decide)
      · rw [if_pos (by omega)]; exact fu_eq _ _ _ _
    refine ⟨⟨r1, r2, r3, ?_, ?_, ?_, fun p hp => ?_, fun p hp => ?_, r4, r5⟩, ⟨fun p hp => ?_, fun p hp => ?_, fun p hp => ?_, fun p hp => ?_, fun p hp => ?_, ?_, ?_, ?_⟩, ⟨fun p hp => ?_, fun p hp => ?_, fun p hp h => ?_⟩, fun j => ?_, ?_, ?_, fun j hj => ?_⟩
    · exact one _ _ _ (st _ _ _ (Or.inl ⟨rfl, rfl, rfl⟩)) a4
    · exact one _ _ _ (st _ _ _ (Or.inr (Or.inl ⟨rfl, rfl, rfl⟩))) a5
    · exact one _ _ _ (st _ _ _ (Or.inr (Or.inr (Or.inl ⟨rfl, rfl, rfl⟩)))) a6
    · rw [ec _ _ (by omega) (by omega) (by omega) (by omega) (by omega), eS _ (by omega)]; exact a7 p hp
    · rw [ec _ _ (by omega) (by omega) (by omega) (by omega) (by omega), eS _ (by omega)]; exact a8 p hp
    · rw [ec _ _ (by omega) (by omega) (by omega) (by omega) (by omega), eS _ (by omega)]; exact b1 p hp
    · rw [ec _ _ (by omega) (by omega) (by omega) (by omega) (by omega), eS _ (by omega)]; exact b2 p hp
    · rw [ec _ _ (by omega) (by omega) (by omega) (by omega) (by omega), eS _ (by omega)]; exact b3 p hp
    · rw [ec _ _ (by omega) (by omega) (by omega) (by omega) (by omega), eS _ (by omega)]; exact b4 p hp
    · rw [ec _ _ (by decide) (by decide) (by decide) (by decide) (by decide), eS _ (by omega)]; exact b5 p hp
    · exact one _ _ _ (st _ _ _ (Or.inr (Or.inr (Or.inr (Or.inl ⟨rfl, rfl, rfl⟩))))) b6
    · exact one _ _ _ (st _ _ _ (Or.inr (Or.inr (Or.inr (Or.inr ⟨rfl, rfl, rfl⟩))))) b7
    · rw [ec _ _ (by decide) (by decide) (by decide) (by decide) (by decide), eS _ (by omega)]; exact b8
    · rw [eS _ (by omega), eS _ (by omega)]; exact i1 p hp
    · rw [eS _ (by omega), eS _ (by omega)]; exact i2 p hp
    · rw [eS _ (by omega)] at h
      rw [eS _ (by omega)]; exact i3 p hp h
    · exact ec _ _ (by omega) (by omega) (by omega) (by omega) (by omega)
    · exact ec _ _ (by decide) (by decide) (by decide) (by decide) (by decide)
    · exact ec _ _ (by decide) (by decide) (by decide) (by decide) (by decide)
    · exact eS j (by unfold tLg at hj; omega)
  · rw [apC_4, apL_4] at *
    have ec : ∀ c j, c ≠ 25 → apCV x y gc c j = gc c j := fun c j h1 => fu_nc h1
    have eS : ∀ j : Nat, (j : Int) ≠ 16 + 7 * x → apV x y gm 149 j = gm 149 j := fun j h1 => fu_nj (by omega)
    refine ⟨⟨r1, r2, r3, ?_, ?_, ?_, fun p hp => ?_, fun p hp => ?_, r4, r5⟩, ⟨fun p hp => ?_, fun p hp => ?_, fun p hp => ?_, fun p hp => ?_, fun p hp => ?_, ?_, ?_, ?_⟩, ⟨fun p hp => ?_, fun p hp => ?_, fun p hp h => ?_⟩, fun j => ?_, ?_, ?_, fun j hj => ?_⟩
    · rw [ec _ _ (by decide), eS _ (by omega)]; exact a4
    · rw [ec _ _ (by decide), eS _ (by omega)]; exact a5
    · rw [ec _ _ (by decide), eS _ (by omega)]; exact a6
    · rw [ec _ _ (by decide), eS _ (by omega)]; exact a7 p hp
    · rw [ec _ _ (by decide), eS _ (by omega)]; exact a8 p hp
    · rw [ec _ _ (by decide), eS _ (by omega)]; exact b1 p hp
    · rw [ec _ _ (by decide), eS _ (by omega)]; exact b2 p hp
    · unfold apCV apV
      by_cases e : (p : Int) = x
      · rw [show p = x.toNat by omega, fu_eq, show 16 + 7 * x.toNat = (12 + 7 * x + 4).toNat by omega, fu_eq]
      · rw [fu_nj (by omega), fu_nj (by omega)]; exact b3 p hp
    · rw [ec _ _ (by decide), eS _ (by omega)]; exact b4 p hp
    · rw [ec _ _ (by decide), eS _ (by omega)]; exact b5 p hp
    · rw [ec _ _ (by decide), eS _ (by omega)]; exact b6
    · rw [ec _ _ (by decide), eS _ (by omega)]; exact b7
    · rw [ec _ _ (by decide), eS _ (by omega)]; exact b8
    · rw [eS _ (by omega), eS _ (by omega)]; exact i1 p hp
    · rw [eS _ (by omega), eS _ (by omega)]; exact i2 p hp
    · rw [eS _ (by omega)] at h
      rw [eS _ (by omega)]; exact i3 p hp h
    · exact ec _ _ (by decide)
    · exact ec _ _ (by decide)
    · exact ec _ _ (by decide)
    · exact eS j (by unfold tLg at hj; omega)
end FHA
