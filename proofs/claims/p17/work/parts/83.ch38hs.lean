/-! fx: coming home, being held to live keep the relation -/
theorem tNote_tU {t : Nat → Int} {k : Nat} {v p q w : Int} (hk : k < 124) (h9 : k ≠ 9) (h10 : k ≠ 10) : tU (tNote t p q w) k v = tNote (tU t k v) p q w := by
  funext j
  by_cases e : j = k
  · subst e
    rw [tU_eq]
    unfold tNote
    rw [if_neg h10, if_neg (by omega), if_neg (by omega), if_neg (by omega), if_neg (by omega), if_neg (by omega), tU_eq]
  · rw [tU_ne e]
    unfold tNote
    rw [tU_ne (j := 10) (by omega), tU_ne (j := 9) (by omega), tU_ne e]
    by_cases c : 128 ≤ j ∧ j < 364
    · rw [if_pos c, if_pos c, tU_ne (by omega)]
    · rw [if_neg c, if_neg c]
theorem tU_sw {t : Nat → Int} {k l : Nat} {u v : Int} (h : k ≠ l) : tU (tU t k u) l v = tU (tU t l v) k u := by
  funext j
  unfold tU
  by_cases e : j = l
  · rw [if_pos e, if_neg (by omega), if_pos e]
  · rw [if_neg e, if_neg e]
theorem RMain_home {g g2 : Nat → Nat → Int} {i p : Nat} (h : RMain g) (hd : g 3 5 ≤ 6) (hi : i < 12) (hi2 : i = ((g 0 17).toNat + 1) % 12) (hp : p < 8) (n0 : 0 ≤ g 149 9) (n1 : g 149 9 ≤ 9999) (hdd : g 149 (17 + 7 * p) = 0)
    (ec : ∀ c j, c < 148 → g2 c j = fu (fu (fu (cNote 16 (cRem g i) p 2 0) 17 p (-1)) 20 p 0) 16 8 (if 9999 < g 16 8 + g 4 p then 9999 else g 16 8 + g 4 p) c j)
    (em : ∀ c j, 148 ≤ c → ¬ (c = 148 ∧ j = 0) → g2 c j = frow (mRem g) (tHome (g 149) p) c j) : RMain g2 := by
  have a2 := h.2.1
  have a3 := h.2.2.1
  have a4 := h.2.2.2.1
  have row : g2 149 = tHome (g 149) p := by
    funext k
    rw [em _ _ (by decide) (fun t => absurd t.1 (by decide)), frow_m]
  have ew : g 4 p = g 149 (14 + 7 * p) := a2.2.2.2.2.2.2.1 p hp
  have e8 : g 16 8 = g 149 8 := a3.1.2.2.2.2.2.1
  rw [e8, ew] at ec
  have tt : tHome (g 149) p = tU (tU (tU (tNote (g 149) p 2 0) (12 + 7 * p + 0) (-1)) (12 + 7 * p + 6) 0) 8 (if 9999 < g 149 8 + g 149 (14 + 7 * p) then 9999 else g 149 8 + g 149 (14 + 7 * p)) := by
    unfold tHome tIron
    rw [tNote_tU (by omega) (by omega) (by omega), tNote_tU (by omega) (by omega) (by omega), tNote_tU (by decide) (by decide) (by decide)]
    rw [tU_sw (k := 8) (by omega), tU_sw (k := 8) (by omega)]
  have eG : ∀ c j, 3 ≤ c → c < 76 → cRem g i c j = g c j := fun c j h1 h2 => cRem_ne hi (fun t => by omega) (Or.inl h2)
  refine RMain_act h hd hi hi2 (fun c j h1 h2 => ?_) (fun c j h1 h2 h3 => ?_) (fun k hk => ?_) ?_ ?_
  · rw [ec c j h2, fu_nc (by omega), fu_nc (by omega), fu_nc (by omega), cNote_ne (by omega) (by omega)]
  · rw [em c j h2 h3, frow_ne h1]
  · rw [row, tt]
    unfold gHp at hk
    rw [tU_ne (by omega), tU_ne (by omega), tU_ne (by omega)]
    unfold tNote
    rw [if_neg (by omega), if_neg (by omega), if_neg (by omega), if_neg (by omega), if_neg (by omega), if_neg (by omega)]
  · rw [row, tt]
    have b0 : RTb 16 (cRem g i) (g 149) := RTb_cg a3 (fun j _ _ => eG _ _ (by decide) (by decide)) (fun k j _ _ => eG _ _ (by omega) (by omega)) (fun _ _ => rfl)
    have b1 := RTb_note (p := (p : Int)) (k := 2) (w := 0) b0 n0 n1 (by omega) (by omega) (by decide) (by decide) (by decide) (by decide)
    have b2 := RTb_a (v := -1) b1 hp (i := 1) (w := 0) (by omega)
    have b3 := RTb_a (v := 0) b2 hp (i := 4) (w := 6) (by omega)
    have b4 := RTb_f (j := 8) (k := 8) (v := if 9999 < g 149 8 + g 149 (14 + 7 * p) then 9999 else g 149 8 + g 149 (14 + 7 * p)) b3 (by omega)
    exact RTb_cg b4 (fun j _ _ => ec _ _ (by decide)) (fun k j _ _ => ec _ _ (by omega)) (fun _ _ => rfl)
  · rw [row]
    unfold tHome tIron
    refine RIv_note (RIv_home (RIv_u a4 ⟨by decide, Or.inl (by decide)⟩) hp ?_)
    rw [tU_ne (by omega)]
    exact hdd
theorem RMain_rise {g g2 : Nat → Nat → Int} {i p : Nat} (h : RMain g) (hd : g 3 5 ≤ 6) (hi : i < 12) (hi2 : i = ((g 0 17).toNat + 1) % 12) (hp : p < 8) (n0 : 0 ≤ g 149 9) (n1 : g 149 9 ≤ 9999) (p0 : 0 ≤ g 149 (12 + 7 * p)) (p1 : g 149 (12 + 7 * p) ≤ 7)
    (ec : ∀ c j, c < 148 → g2 c j = fu (fu (fu (cNote 16 (cRem g i) p 2 (g 17 p)) 16 7 (fop 3 (g 16 7) (fop 5 (fop 6 1 (p : Int)) (-1)))) 17 p (-1)) 20 p 0 c j)
    (em : ∀ c j, 148 ≤ c → ¬ (c = 148 ∧ j = 0) → g2 c j = frow (mRem g) (tRise (g 149) p) c j) : RMain g2 := by
  have a2 := h.2.1
  have a3 := h.2.2.1
  have a4 := h.2.2.2.1
  have row : g2 149 = tRise (g 149) p := by
    funext k
    rw [em _ _ (by decide) (fun t => absurd t.1 (by decide)), frow_m]
  have ep : g 17 p = g 149 (12 + 7 * p) := a3.1.1 p hp
  rw [ep] at ec
  have tt : tRise (g 149) p = tU (tU (tU (tNote (g 149) p 2 (g 149 (12 + 7 * p))) (12 + 7 * p + 5) 0) (12 + 7 * p + 0) (-1)) (12 + 7 * p + 6) 0 := by
    unfold tRise
    rw [tNote_tU (by omega) (by omega) (by omega), tNote_tU (by omega) (by omega) (by omega), tNote_tU (by omega) (by omega) (by omega)]
  have eG : ∀ c j, 3 ≤ c → c < 76 → cRem g i c j = g c j := fun c j h1 h2 => cRem_ne hi (fun t => by omega) (Or.inl h2)
  refine RMain_act h hd hi hi2 (fun c j h1 h2 => ?_) (fun c j h1 h2 h3 => ?_) (fun k hk => ?_) ?_ ?_
  · rw [ec c j h2, fu_nc (by omega), fu_nc (by omega), fu_nc (by omega), cNote_ne (by omega) (by omega)]
  · rw [em c j h2 h3, frow_ne h1]
  · rw [row, tt]
    unfold gHp at hk
    rw [tU_ne (by omega), tU_ne (by omega), tU_ne (by omega)]
    unfold tNote
    rw [if_neg (by omega), if_neg (by omega), if_neg (by omega), if_neg (by omega), if_neg (by omega), if_neg (by omega)]
  · rw [row, tt]
    have b0 : RTb 16 (cRem g i) (g 149) := RTb_cg a3 (fun j _ _ => eG _ _ (by decide) (by decide)) (fun k j _ _ => eG _ _ (by omega) (by omega)) (fun _ _ => rfl)
    have b1 := RTb_note (p := (p : Int)) (k := 2) (w := g 149 (12 + 7 * p)) b0 n0 n1 (by omega) (by omega) (by decide) (by decide) p0 p1
    have b2 := RTb_d (z := 0) (v := fop 3 (g 16 7) (fop 5 (fop 6 1 (p : Int)) (-1))) b1 hp (fun q hq => by
      rw [cNote_ne (by decide) (by decide), eG _ _ (by decide) (by decide)]
      exact fbt_clr hp hq)
    have b3 := RTb_a (v := -1) b2 hp (i := 1) (w := 0) (by omega)
    have b4 := RTb_a (v := 0) b3 hp (i := 4) (w := 6) (by omega)
    exact RTb_cg b4 (fun j _ _ => ec _ _ (by decide)) (fun k j _ _ => ec _ _ (by omega)) (fun _ _ => rfl)
  · rw [row]
    unfold tRise
    refine RIv_note (RIv_home ?_ hp (by rw [show 17 + 7 * p = 12 + 7 * p + 5 by omega, tU_eq]))
    obtain ⟨r1, r2, r3⟩ := a4
    refine ⟨fun q hq => ?_, fun q hq => ?_, fun q hq hh => ?_⟩
    · rw [tU_ne (by omega), tU_ne (by omega)]
      exact r1 q hq
    · by_cases e : q = p
      · subst e
        rw [show 17 + 7 * q = 12 + 7 * q + 5 by omega, tU_eq]
        intro t
        exact absurd rfl t
      · rw [tU_ne (by omega), tU_ne (by omega)]
        exact r2 q hq
    · rw [tU_ne (by omega)] at hh
      by_cases e : q = p
      · subst e
        rw [show 17 + 7 * q = 12 + 7 * q + 5 by omega, tU_eq]
      · rw [tU_ne (by omega)]
        exact r3 q hq hh
