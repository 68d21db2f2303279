/-! fx: acts keep the relation -/
/-- tapes, house, table, log, what is remembered -/
def RMain (g : Nat → Nat → Int) : Prop := (∀ j, j < 400 → g 2 j = g 153 j) ∧ RHf 3 g (g 149) ∧ RTb 16 g (g 149) ∧ RIv (g 149) ∧ RPs g
theorem RMain_act {g g2 : Nat → Nat → Int} {i : Nat} (h : RMain g) (hd : g 3 5 ≤ 6) (hi : i < 12) (hi2 : i = ((g 0 17).toNat + 1) % 12)
    (c1 : ∀ c j, ¬ (16 ≤ c ∧ c ≤ 21) → c < 148 → g2 c j = cRem g i c j) (m1 : ∀ c j, c ≠ 149 → 148 ≤ c → ¬ (c = 148 ∧ j = 0) → g2 c j = mRem g c j) (hp : ∀ k, gHp k → g2 149 k = g 149 k)
    (hT : RTb 16 g2 (g2 149)) (hI : RIv (g2 149)) : RMain g2 := by
  obtain ⟨a1, a2, a3, a4, a5⟩ := h
  have nr : ∀ c j, ¬ (16 ≤ c ∧ c ≤ 21) → c < 76 → ¬ (c = 0 ∧ (j = 17 ∨ j = 16)) → g2 c j = g c j := fun c j h1 h2 h3 => by
    rw [c1 c j h1 (by omega), cRem_ne hi h3 (Or.inl h2)]
  refine ⟨fun j hj => ?_, ?_, hT, hI, ?_⟩
  · rw [nr _ _ (by decide) (by decide) (fun t => absurd t.1 (by decide)), m1 _ _ (by decide) (by decide) (fun t => absurd t.1 (by decide)), mRem_ne (by decide) (fun t => absurd t.1 (by decide))]
    exact a1 j hj
  · have q : RHf 3 g2 (g 149) := RHf_eq a2 (fun j _ _ => nr _ _ (by decide) (by decide) (fun t => absurd t.1 (by decide))) (fun k j k1 k2 => nr _ _ (by omega) (by omega) (by omega))
    exact RHf_t q (by rw [nr _ _ (by decide) (by decide) (by decide)]; exact hd) hp
  · refine RPs_rem a5 a3.1 a3.2 a4 hi2 (fun c j h1 h2 => c1 c j (by omega) (by omega)) ?_ ?_ (fun j => ?_) ?_ hp
    · rw [c1 _ _ (by decide) (by decide)]
      unfold cRem
      rw [fu_nj (by decide), cpT_ne (by omega), fu_eq]
    · rw [c1 _ _ (by decide) (by decide)]
      unfold cRem
      rw [fu_eq]
    · rw [m1 _ _ (by decide) (by decide) (fun t => absurd t.1 (by decide))]
      unfold mRem
      rw [if_pos rfl]
    · rw [m1 _ _ (by decide) (by decide) (by decide)]
      unfold mRem
      rw [if_neg (by decide), if_pos ⟨rfl, rfl⟩]
theorem cBd_weak {g : Nat → Nat → Int} : cBd g → 0 ≤ g 0 17 ∧ g 0 17 < 12 := fun h => h.2.1
/-- leave, on both sides -/
theorem RMain_leave {g g2 : Nat → Nat → Int} {i p : Nat} (h : RMain g) (hd : g 3 5 ≤ 6) (hi : i < 12) (hi2 : i = ((g 0 17).toNat + 1) % 12) (hp : p < 8) (n0 : 0 ≤ g 149 9) (n1 : g 149 9 ≤ 9999) (w0 : 0 ≤ g 149 (14 + 7 * p)) (i1 : g 149 8 ≤ 9999) (hl : g 149 (12 + 7 * p) = -1) (hdd : g 149 (17 + 7 * p) ≠ 1)
    (ec : ∀ c j, c < 148 → g2 c j = cNote 16 (fu (fu (cRem g i) 17 p 0) 16 8 (g 16 8 - g 4 p)) p 0 0 c j)
    (em : ∀ c j, 148 ≤ c → ¬ (c = 148 ∧ j = 0) → g2 c j = frow (mRem g) (tLeave (g 149) p) c j) : RMain g2 := by
  have a2 := h.2.1
  have a3 := h.2.2.1
  have a4 := h.2.2.2.1
  have row : g2 149 = tLeave (g 149) p := by
    funext k
    rw [em _ _ (by decide) (fun t => absurd t.1 (by decide)), frow_m]
  have ew : g 4 p = g 149 (14 + 7 * p) := a2.2.2.2.2.2.2.1 p hp
  have e8 : g 16 8 = g 149 8 := a3.1.2.2.2.2.2.1
  -- cold is 0 already
  have ec0 : g 149 (18 + 7 * p) = 0 := a4.1 p hp hl
  have ti : tIron (g 149) (-g 149 (14 + 7 * p)) = tU (g 149) 8 (g 149 8 - g 149 (14 + 7 * p)) := by
    unfold tIron
    rw [if_neg (by omega)]
    rfl
  have tt : tLeave (g 149) p = tNote (tU (tU (g 149) (12 + 7 * p + 0) 0) 8 (g 149 8 - g 149 (14 + 7 * p))) p 0 0 := by
    unfold tLeave
    rw [ti]
    have e : tU (tU (tU (g 149) 8 (g 149 8 - g 149 (14 + 7 * p))) (12 + 7 * p + 0) 0) (12 + 7 * p + 6) 0 = tU (tU (g 149) (12 + 7 * p + 0) 0) 8 (g 149 8 - g 149 (14 + 7 * p)) := by
      funext k
      unfold tU
      by_cases k1 : k = 12 + 7 * p + 6
      · rw [if_pos k1, if_neg (by omega), if_neg (by omega), k1, show 12 + 7 * p + 6 = 18 + 7 * p by omega, ec0]
      · rw [if_neg k1]
        by_cases k2 : k = 8
        · rw [if_pos k2, if_neg (by omega), if_pos k2]
        · rw [if_neg k2, if_neg k2]
    rw [e]
  have eG : ∀ c j, 3 ≤ c → c < 76 → cRem g i c j = g c j := fun c j h1 h2 => cRem_ne hi (fun t => by omega) (Or.inl h2)
  refine RMain_act h hd hi hi2 (fun c j h1 h2 => ?_) (fun c j h1 h2 h3 => ?_) (fun k hk => ?_) ?_ ?_
  · rw [ec c j h2, cNote_ne (by omega) (by omega), fu_nc (by omega), fu_nc (by omega)]
  · rw [em c j h2 h3, frow_ne h1]
  · rw [row, tt]
    unfold gHp at hk
    unfold tNote
    rw [if_neg (by omega), if_neg (by omega), if_neg (by omega), if_neg (by omega), if_neg (by omega), if_neg (by omega), tU_ne (by omega), tU_ne (by omega)]
  · rw [row, tt]
    have b0 : RTb 16 (cRem g i) (g 149) := RTb_cg a3 (fun j _ _ => eG _ _ (by decide) (by decide)) (fun k j _ _ => eG _ _ (by omega) (by omega)) (fun _ _ => rfl)
    have b1 := RTb_a (v := 0) b0 hp (i := 1) (w := 0) (by omega)
    have b2 := RTb_f (j := 8) (k := 8) (v := g 149 8 - g 149 (14 + 7 * p)) b1 (by omega)
    have b3 := RTb_note (p := (p : Int)) (k := 0) (w := 0) b2 (by rw [tU_ne (by decide), tU_ne (by omega)]; exact n0) (by rw [tU_ne (by decide), tU_ne (by omega)]; exact n1) (by omega) (by omega) (by decide) (by decide) (by decide) (by decide)
    rw [← e8, ← ew] at b3
    refine RTb_cg b3 (fun j _ _ => ?_) (fun k j _ _ => ?_) (fun _ _ => by rw [e8, ew])
    · exact ec _ _ (by decide)
    · exact ec _ _ (by omega)
  · rw [row, tt]
    refine RIv_note ?_
    refine RIv_u ?_ ⟨by decide, Or.inl (by decide)⟩
    obtain ⟨r1, r2, r3⟩ := a4
    refine ⟨fun q hq => ?_, fun q hq => ?_, fun q hq => ?_⟩
    · by_cases e : q = p
      · subst e
        rw [show 12 + 7 * q = 12 + 7 * q + 0 from rfl, tU_eq]
        intro t
        exact absurd t (by decide)
      · rw [tU_ne (by omega), tU_ne (by omega)]
        exact r1 q hq
    · by_cases e : q = p
      · subst e
        rw [show 12 + 7 * q = 12 + 7 * q + 0 from rfl, tU_eq]
        intro _
        decide
      · rw [tU_ne (by omega), tU_ne (by omega)]
        exact r2 q hq
    · rw [tU_ne (by omega), tU_ne (by omega)]
      exact r3 q hq
