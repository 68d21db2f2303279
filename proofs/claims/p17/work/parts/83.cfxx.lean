/-! fx: both sides take the same from the house's text -/
/-- the draft's people, dishes, what is eaten, roads, as the reference's row has them -/
def RHx (h : Nat) (gc gm : Nat → Nat → Int) : Prop := gc h 4 = gm 149 3 ∧ gc h 5 = gm 149 4 ∧ gc h 6 = gm 149 0 ∧ (∀ j : Nat, (j : Int) < 8 * gc h 5 → gc (h + 3) j = gm 149 (68 + j)) ∧ (∀ j : Nat, j < 8 → gc (h + 4) j = gm 149 (116 + j))
section FXX
variable {T : Int → Int} {E : Int}
theorem dshC_at {f d : Int} {g : Nat → Nat → Int} (hd : 0 ≤ d) : ∀ (k : Nat) (j : Nat), dshC T f d k g 32 j = if d * 8 ≤ (j : Int) ∧ (j : Int) < d * 8 + k then T (f + (j - d * 8)) - 48 else g 32 j
  | 0, j => by rw [if_neg (by omega)]; rfl
  | k + 1, j => by
    show fu (dshC T f d k g) 32 (d * 8 + k).toNat (T (f + k) - 48) 32 j = _
    by_cases e : j = (d * 8 + k).toNat
    · subst e
      rw [fu_eq, if_pos (by omega), show f + (((d * 8 + k).toNat : Int) - d * 8) = f + k by omega]
    · rw [fu_nj e, dshC_at hd k j]
      by_cases c : d * 8 ≤ (j : Int) ∧ (j : Int) < d * 8 + k
      · rw [if_pos c, if_pos (by omega)]
      · rw [if_neg c, if_neg (by omega)]
theorem dshR_at {f d : Int} {g : Nat → Nat → Int} (hd : 0 ≤ d) : ∀ (k : Nat) (j : Nat), dshR T f d k g 149 j = if 68 + 8 * d ≤ (j : Int) ∧ (j : Int) < 68 + 8 * d + k then T (f + (j - 68 - 8 * d)) - 48 else g 149 j
  | 0, j => by rw [if_neg (by omega)]; rfl
  | k + 1, j => by
    show fu (dshR T f d k g) 149 (68 + 8 * d + k).toNat (T (f + k) - 48) 149 j = _
    by_cases e : j = (68 + 8 * d + k).toNat
    · subst e
      rw [fu_eq, if_pos (by omega), show f + (((68 + 8 * d + k).toNat : Int) - 68 - 8 * d) = f + k by omega]
    · rw [fu_nj e, dshR_at hd k j]
      by_cases c : 68 + 8 * d ≤ (j : Int) ∧ (j : Int) < 68 + 8 * d + k
      · rw [if_pos c, if_pos (by omega)]
      · rw [if_neg c, if_neg (by omega)]
theorem RHx_line {gc gm : Nat → Nat → Int} {u : List Int} (h : RHx 29 gc gm) (hu : uOk E (gm 149 3) (gm 149 4) u) (hp0 : 0 ≤ gm 149 3) (hp1 : gm 149 3 ≤ 8) (hd0 : 0 ≤ gm 149 4) (hd1 : gm 149 4 ≤ 6) : RHx 29 (apC T u gc) (apL T u gm) := by
  obtain ⟨a1, a2, a3, a4, a5⟩ := h
  have hu' : uOk E (gc 29 4) (gc 29 5) u := by rw [a1, a2]; exact hu
  obtain ⟨c1, c2, -, -⟩ := apC_ok (T := T) hu'
  obtain ⟨m1, m2, -⟩ := apL_ok (T := T) hu hp0 hp1 hd0 hd1
  refine ⟨by rw [c1, m1, a1], by rw [c2, m2, a2], ?_⟩
  rcases hu with ⟨w, pl, v, l, rfl, hu⟩ | ⟨b, rfl, hu⟩ | ⟨x, y, rfl, hu⟩ | ⟨x, y, rfl, hu⟩ | ⟨x, y, rfl, hu⟩
  · have e1 : k1 [0, w, pl, v, l] = 0 := rfl
    rw [apC_0, apL_0] at *
    unfold apCP apP at *
    refine ⟨?_, fun j hj => ?_, fun j hj => ?_⟩
    · rw [fu_nc (by decide), fu_nc (by decide), fu_nc (by decide), fu_nc (by decide), fu_nj (by decide), fu_nc (by decide), fu_nc (by decide), fu_nj (by decide), fu_nj (by omega), fu_nj (by omega), fu_nj (by omega), fu_nj (by omega), fu_nj (by omega), fu_nj (by omega), fu_nj (by omega)]
      exact a3
    · rw [c2, e1] at hj
      rw [fu_nc (by decide), fu_nc (by decide), fu_nc (by decide), fu_nc (by decide), fu_nc (by decide), fu_nc (by decide), fu_nc (by decide), fu_nj (by omega), fu_nj (by omega), fu_nj (by omega), fu_nj (by omega), fu_nj (by omega), fu_nj (by omega), fu_nj (by omega), fu_nj (by omega)]
      exact a4 j (by omega)
    · rw [fu_nc (by decide), fu_nc (by decide), fu_nc (by decide), fu_nc (by decide), fu_nc (by decide), fu_nc (by decide), fu_nc (by decide), fu_nj (by omega), fu_nj (by omega), fu_nj (by omega), fu_nj (by omega), fu_nj (by omega), fu_nj (by omega), fu_nj (by omega), fu_nj (by omega)]
      exact a5 j hj
  · have e1 : k1 [1, b] = 1 := rfl
    rw [apC_1, apL_1] at *
    unfold apCD apD at *
    refine ⟨?_, fun j hj => ?_, fun j hj => ?_⟩
    · rw [fu_nj (by decide), dshC_ne (by decide), fu_nj (by decide), dshR_ne hd0 (Or.inr (by decide))]
      exact a3
    · rw [c2, e1] at hj
      rw [fu_nc (by decide), dshC_at (by omega), fu_nj (by omega), dshR_at hd0, a2]
      by_cases c : gm 149 4 * 8 ≤ (j : Int) ∧ (j : Int) < gm 149 4 * 8 + (8 : Nat)
      · rw [if_pos c, if_pos (by omega), show b + (((68 + j : Nat) : Int) - 68 - 8 * gm 149 4) = b + ((j : Int) - gm 149 4 * 8) by omega]
      · rw [if_neg c, if_neg (by omega)]
        exact a4 j (by omega)
    · rw [fu_nc (by decide), dshC_ne (by decide), fu_nj (by omega), dshR_at hd0, if_neg (by omega)]
      exact a5 j hj
  · have e1 : k1 [2, x, y] = 0 := rfl
    rw [apC_2, apL_2] at *
    unfold apCR apR at *
    have r1 : gc 33 x.toNat = gm 149 (116 + x).toNat := by rw [show (116 + x).toNat = 116 + x.toNat by omega]; exact a5 x.toNat (by omega)
    refine ⟨?_, fun j hj => ?_, fun j hj => ?_⟩
    · rw [fu_nc (by decide), fu_nc (by decide), fu_nj (by omega), fu_nj (by omega)]
      exact a3
    · rw [c2, e1] at hj
      rw [fu_nc (by decide), fu_nc (by decide), fu_nj (by omega), fu_nj (by omega)]
      exact a4 j (by omega)
    · have st : ∀ j : Nat, j < 8 → fu gc 33 x.toNat (fop 4 (gc 33 x.toNat) (fop 6 1 y)) 33 j = fu gm 149 (116 + x).toNat (fop 4 (gm 149 (116 + x).toNat) (fop 6 1 y)) 149 (116 + j) := fun j hj => by
        by_cases e : j = x.toNat
        · subst e
          rw [fu_eq, show 116 + x.toNat = (116 + x).toNat by omega, fu_eq, r1]
        · rw [fu_nj e, fu_nj (by omega)]
          exact a5 j hj
      by_cases e : j = y.toNat
      · subst e
        rw [show 116 + y.toNat = (116 + y).toNat by omega]
        show fu _ _ y.toNat _ 33 y.toNat = _
        rw [fu_eq, fu_eq, st y.toNat (by omega), show 116 + y.toNat = (116 + y).toNat by omega]
      · show fu _ _ y.toNat _ 33 j = _
        rw [fu_nj e]
        exact (st j hj).trans (fu_nj (show 116 + j ≠ (116 + y).toNat by omega)).symm
  · have e1 : k1 [3, x, y] = 0 := rfl
    rw [apC_3, apL_3] at *
    have st : ∀ c j, c ≠ 22 → (c = 29 → j < 7) → apCS x y gc c j = gc c j := fun c j h1 h2 => by
      unfold apCS
      split
      · exact fu_ne (by omega)
      · split
        · exact fu_ne (by omega)
        · split
          · exact fu_ne (by omega)
          · split
            · exact fu_ne (by omega)
            · exact fu_ne (by omega)
    refine ⟨?_, fun j hj => ?_, fun j hj => ?_⟩
    · rw [st _ _ (by decide) (fun _ => by decide), fu_nj (by omega)]; exact a3
    · rw [c2, e1] at hj
      rw [st _ _ (by decide) (fun t => absurd t (by decide)), fu_nj (by omega)]
      exact a4 j (by omega)
    · rw [st _ _ (by decide) (fun t => absurd t (by decide)), fu_nj (by omega)]
      exact a5 j hj
  · have e1 : k1 [4, x, y] = 0 := rfl
    rw [apC_4, apL_4] at *
    unfold apCV apV at *
    refine ⟨?_, fun j hj => ?_, fun j hj => ?_⟩
    · rw [fu_nc (by decide), fu_nj (by omega)]; exact a3
    · rw [c2, e1] at hj
      rw [fu_nc (by decide), fu_nj (by omega)]
      exact a4 j (by omega)
    · rw [fu_nc (by decide), fu_nj (by omega)]
      exact a5 j hj
theorem RHx_all : ∀ {n : Nat} {f : Int} {us : List (List Int)} {gc gm : Nat → Nat → Int}, pAll T E n (gm 149 3) (gm 149 4) f = Sum.inr us → pOk T E f → 0 ≤ gm 149 3 → gm 149 3 ≤ 8 → 0 ≤ gm 149 4 → gm 149 4 ≤ 6 → RHx 29 gc gm → RHx 29 (apCs T us gc) (apLs T us gm) ∧ eqc gc (apCs T us gc) ∧ (∀ j, apCs T us gc 28 j = gc 28 j) ∧ (∀ c j, ¬ (c = 149 ∧ j < 364) → apLs T us gm c j = gm c j) ∧ 0 ≤ apLs T us gm 149 3 ∧ apLs T us gm 149 3 ≤ 8 ∧ 0 ≤ apLs T us gm 149 4 ∧ apLs T us gm 149 4 ≤ 6
  | 0, f, us, gc, gm, h, _, _, _, _, _, _ => by cases h
  | n + 1, f, us, gc, gm, h, hf, hp0, hp1, hd0, hd1, hr => by
    obtain ⟨⟨f', u⟩, e, h⟩ := bS_inr (show bS (pLine T E (gm 149 3) (gm 149 4) f) _ = Sum.inr us from h)
    obtain ⟨fo', hu⟩ := pLine_ok e hf hp1 hd1
    have hr' := RHx_line (T := T) hr hu hp0 hp1 hd0 hd1
    have hu' : uOk E (gc 29 4) (gc 29 5) u := by rw [hr.1, hr.2.1]; exact hu
    obtain ⟨c1, c2, c3, c4⟩ := apC_ok (T := T) hu'
    obtain ⟨m1, m2, m3, m4, m5, m6, m7⟩ := apL_ok (T := T) hu hp0 hp1 hd0 hd1
    by_cases x1 : f' = E
    · have h : (if f' = E then Sum.inr [u] else if T f' = 59 then bS (pAll T E n (gm 149 3 + k0 u) (gm 149 4 + k1 u) (pSk T E (f' + 1))) (fun us => Sum.inr (u :: us)) else Sum.inl f' : Int ⊕ List (List Int)) = Sum.inr us := h
      rw [if_pos x1] at h
      cases h
      exact ⟨hr', c3, c4, m3, by show 0 ≤ apL T u gm _ _; omega, by show apL T u gm _ _ ≤ 8; omega, by show 0 ≤ apL T u gm _ _; omega, by show apL T u gm _ _ ≤ 6; omega⟩
    · have h : (if f' = E then Sum.inr [u] else if T f' = 59 then bS (pAll T E n (gm 149 3 + k0 u) (gm 149 4 + k1 u) (pSk T E (f' + 1))) (fun us => Sum.inr (u :: us)) else Sum.inl f' : Int ⊕ List (List Int)) = Sum.inr us := h
      rw [if_neg x1] at h
      by_cases x2 : T f' = 59
      · rw [if_pos x2] at h
        obtain ⟨us', e2, h⟩ := bS_inr h
        cases h
        rw [← m1, ← m2] at e2
        have p0 := fo'.1
        have p1 := fo'.2.1
        obtain ⟨r1, r2, r3, r4, r5⟩ := RHx_all e2 (pOk_sk (by omega) (by omega)) (by omega) (by omega) (by omega) (by omega) hr'
        exact ⟨r1, eqc_tr c3 r2, fun j => (r3 j).trans (c4 j), fun c j t => (r4 c j t).trans (m3 c j t), r5⟩
      · rw [if_neg x2] at h
        cases h
end FXX
section FXX2
variable {T : Int → Int} {E : Int}
theorem pAll_bad : ∀ {n : Nat} {pp dd f q : Int}, pAll T E n pp dd f = Sum.inl q → pOk T E f → pp ≤ 8 → dd ≤ 6 → 0 ≤ q ∧ q ≤ E
  | 0, pp, dd, f, q, h, hf, _, _ => by cases h; exact ⟨hf.1, hf.2.1⟩
  | n + 1, pp, dd, f, q, h, hf, hp, hd => by
    rcases bS_inl (show bS (pLine T E pp dd f) _ = Sum.inl q from h) with e | ⟨⟨f', u⟩, e, h⟩
    · exact pLine_bad e hf
    · obtain ⟨fo', hu⟩ := pLine_ok e hf hp hd
      have cn := uOk_cnt hu hp hd
      have p0 := fo'.1
      have p1 := fo'.2.1
      have h : (if f' = E then Sum.inr [u] else if T f' = 59 then bS (pAll T E n (pp + k0 u) (dd + k1 u) (pSk T E (f' + 1))) (fun us => Sum.inr (u :: us)) else Sum.inl f' : Int ⊕ List (List Int)) = Sum.inl q := h
      by_cases x1 : f' = E
      · rw [if_pos x1] at h; cases h
      · rw [if_neg x1] at h
        by_cases x2 : T f' = 59
        · rw [if_pos x2] at h
          rcases bS_inl h with e2 | ⟨us', e2, h⟩
          · exact pAll_bad e2 (pOk_sk (by omega) (by omega)) (by omega) (by omega)
          · cases h
        · rw [if_neg x2] at h
          cases h
          exact ⟨p0, p1⟩
theorem pText_bad {pp dd q : Int} (hE : 0 ≤ E) (h : pText T E pp dd = Sum.inl q) (hp : pp ≤ 8) (hd : dd ≤ 6) : 0 ≤ q ∧ q ≤ E := by
  unfold pText at h
  by_cases c : pSk T E 0 = E
  · rw [if_pos c] at h; cases h
  · rw [if_neg c] at h
    exact pAll_bad h (pOk_sk (Int.le_refl 0) hE) hp hd
theorem apC_txt {g : Nat → Nat → Int} {u : List Int} (hu : uOk E (g 29 4) (g 29 5) u) : apC T u g 29 6 = g 29 6 := by
  rcases hu with ⟨w, pl, v, l, rfl, hu⟩ | ⟨b, rfl, hu⟩ | ⟨x, y, rfl, hu⟩ | ⟨x, y, rfl, hu⟩ | ⟨x, y, rfl, hu⟩
  · rw [apC_0]; unfold apCP
    rw [fu_nc (by decide), fu_nc (by decide), fu_nc (by decide), fu_nc (by decide), fu_nj (by decide), fu_nc (by decide), fu_nc (by decide)]
  · rw [apC_1]; unfold apCD
    rw [fu_nj (by decide), dshC_ne (by decide)]
  · rw [apC_2]; unfold apCR
    rw [fu_nc (by decide), fu_nc (by decide)]
  · rw [apC_3]; unfold apCS
    split
    · exact fu_nj (by decide)
    · split
      · exact fu_nj (by decide)
      · split
        · exact fu_nj (by decide)
        · split
          · exact fu_nc (by decide)
          · exact fu_nc (by decide)
  · rw [apC_4]; unfold apCV
    rw [fu_nc (by decide)]
theorem apCs_ok : ∀ {n : Nat} {f : Int} {us : List (List Int)} {gc : Nat → Nat → Int}, pAll T E n (gc 29 4) (gc 29 5) f = Sum.inr us → pOk T E f → gc 29 4 ≤ 8 → gc 29 5 ≤ 6 → eqc gc (apCs T us gc) ∧ (∀ j, apCs T us gc 28 j = gc 28 j) ∧ apCs T us gc 29 6 = gc 29 6
  | 0, f, us, gc, h, _, _, _ => by cases h
  | n + 1, f, us, gc, h, hf, hp1, hd1 => by
    obtain ⟨⟨f', u⟩, e, h⟩ := bS_inr (show bS (pLine T E (gc 29 4) (gc 29 5) f) _ = Sum.inr us from h)
    obtain ⟨fo', hu⟩ := pLine_ok e hf hp1 hd1
    obtain ⟨c1, c2, c3, c4⟩ := apC_ok (T := T) hu
    have c5 := apC_txt (T := T) hu
    have cn := uOk_cnt hu hp1 hd1
    have h : (if f' = E then Sum.inr [u] else if T f' = 59 then bS (pAll T E n (gc 29 4 + k0 u) (gc 29 5 + k1 u) (pSk T E (f' + 1))) (fun us => Sum.inr (u :: us)) else Sum.inl f' : Int ⊕ List (List Int)) = Sum.inr us := h
    by_cases x1 : f' = E
    · rw [if_pos x1] at h
      cases h
      exact ⟨c3, c4, c5⟩
    · rw [if_neg x1] at h
      by_cases x2 : T f' = 59
      · rw [if_pos x2] at h
        obtain ⟨us', e2, h⟩ := bS_inr h
        cases h
        rw [← c1, ← c2] at e2
        have p0 := fo'.1
        have p1 := fo'.2.1
        obtain ⟨r1, r2, r3⟩ := apCs_ok e2 (pOk_sk (by omega) (by omega)) (by omega) (by omega)
        exact ⟨eqc_tr c3 r1, fun j => (r2 j).trans (c4 j), r3.trans c5⟩
      · rw [if_neg x2] at h
        cases h
theorem pText_cls {g : Nat → Nat → Int} {us : List (List Int)} (hE : 0 ≤ E) (h : pText T E (g 29 4) (g 29 5) = Sum.inr us) (hp0 : 0 ≤ g 29 4) (hp1 : g 29 4 ≤ 8) (hd0 : 0 ≤ g 29 5) (hd1 : g 29 5 ≤ 6) : eqc g (apCs T us g) ∧ (∀ j, apCs T us g 28 j = g 28 j) ∧ apCs T us g 29 6 = g 29 6 := by
  unfold pText at h
  by_cases c : pSk T E 0 = E
  · rw [if_pos c] at h; cases h; exact ⟨eqc_refl _, fun _ => rfl, rfl⟩
  · rw [if_neg c] at h
    exact apCs_ok h (pOk_sk (Int.le_refl 0) hE) hp1 hd1
theorem pText_rel {gc gm : Nat → Nat → Int} {us : List (List Int)} (hE : 0 ≤ E) (h : pText T E (gm 149 3) (gm 149 4) = Sum.inr us) (hp0 : 0 ≤ gm 149 3) (hp1 : gm 149 3 ≤ 8) (hd0 : 0 ≤ gm 149 4) (hd1 : gm 149 4 ≤ 6) (hr : RHx 29 gc gm) : RHx 29 (apCs T us gc) (apLs T us gm) := by
  unfold pText at h
  by_cases c : pSk T E 0 = E
  · rw [if_pos c] at h; cases h; exact hr
  · rw [if_neg c] at h
    exact (RHx_all h (pOk_sk (Int.le_refl 0) hE) hp0 hp1 hd0 hd1 hr).1
end FXX2
