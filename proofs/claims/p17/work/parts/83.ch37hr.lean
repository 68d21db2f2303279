/-! fx: votes, promises, home, rise, undo, seed keep the relation -/
/-- a vote, a promise -/
theorem RMain_set {g g2 : Nat → Nat → Int} {i p k w : Nat} {v : Int} (h : RMain g) (hd : g 3 5 ≤ 6) (hi : i < 12) (hi2 : i = ((g 0 17).toNat + 1) % 12) (hp : p < 8) (hk : (k = 2 ∧ w = 1) ∨ (k = 3 ∧ w = 4))
    (ec : ∀ c j, c < 148 → g2 c j = fu (cRem g i) (16 + k) p v c j) (em : ∀ c j, 148 ≤ c → ¬ (c = 148 ∧ j = 0) → g2 c j = frow (mRem g) (tU (g 149) (12 + 7 * p + w) v) c j) : RMain g2 := by
  have a3 := h.2.2.1
  have a4 := h.2.2.2.1
  have row : g2 149 = tU (g 149) (12 + 7 * p + w) v := by
    funext k
    rw [em _ _ (by decide) (fun t => absurd t.1 (by decide)), frow_m]
  have eG : ∀ c j, 3 ≤ c → c < 76 → cRem g i c j = g c j := fun c j h1 h2 => cRem_ne hi (fun t => by omega) (Or.inl h2)
  refine RMain_act h hd hi hi2 (fun c j h1 h2 => ?_) (fun c j h1 h2 h3 => ?_) (fun q hq => ?_) ?_ ?_
  · rw [ec c j h2, fu_nc (by omega)]
  · rw [em c j h2 h3, frow_ne h1]
  · rw [row]
    unfold gHp at hq
    rw [tU_ne (by omega)]
  · rw [row]
    have b0 : RTb 16 (cRem g i) (g 149) := RTb_cg a3 (fun j _ _ => eG _ _ (by decide) (by decide)) (fun k j _ _ => eG _ _ (by omega) (by omega)) (fun _ _ => rfl)
    have b1 := RTb_a (v := v) b0 hp (i := k) (w := w) (by omega)
    exact RTb_cg b1 (fun j _ _ => ec _ _ (by decide)) (fun k j _ _ => ec _ _ (by omega)) (fun _ _ => rfl)
  · rw [row]
    exact RIv_u a4 ⟨by omega, Or.inr (Or.inr (by omega))⟩
theorem RIv_home {t : Nat → Int} {p : Nat} (h : RIv t) (hp : p < 8) (hd : t (17 + 7 * p) = 0) : RIv (tU (tU t (12 + 7 * p + 0) (-1)) (12 + 7 * p + 6) 0) := by
  obtain ⟨r1, r2, r3⟩ := h
  refine ⟨fun q hq => ?_, fun q hq => ?_, fun q hq => ?_⟩
  · by_cases e : q = p
    · subst e
      intro _
      rw [show 18 + 7 * q = 12 + 7 * q + 6 by omega, tU_eq]
    · rw [tU_ne (by omega), tU_ne (by omega), tU_ne (by omega), tU_ne (by omega)]
      exact r1 q hq
  · by_cases e : q = p
    · subst e
      rw [tU_ne (by omega), tU_ne (by omega), hd]
      intro t
      exact absurd rfl t
    · rw [tU_ne (by omega), tU_ne (by omega), tU_ne (by omega), tU_ne (by omega)]
      exact r2 q hq
  · rw [tU_ne (by omega), tU_ne (by omega), tU_ne (by omega), tU_ne (by omega)]
    exact r3 q hq
theorem RMain_undo {g g2 : Nat → Nat → Int} {i : Nat} (h : RMain g) (hd : g 3 5 ≤ 6) (hc : 1 ≤ g 148 6) (hi : g 0 17 = (i : Int))
    (ec : ∀ c j, c < 148 → g2 c j = cUnd g i c j) (em : ∀ c j, 148 ≤ c → ¬ (c = 148 ∧ j = 0) → g2 c j = mUnd g c j) : RMain g2 := by
  obtain ⟨a1, a2, a3, a4, a5⟩ := h
  have nr : ∀ c j, c < 16 → ¬ (c = 0 ∧ (j = 17 ∨ j = 16)) → g2 c j = g c j := fun c j h1 h2 => by
    rw [ec c j (by omega)]
    unfold cUnd
    rw [fu_ne (by omega), fu_ne (by omega), cpT_ne (by omega)]
  obtain ⟨u1, u2, u3, u4, u5⟩ := RPs_und (g2 := g2) a5 hc hi (fun c j h1 h2 => ec c j (by omega)) (by rw [ec _ _ (by decide)]; unfold cUnd; rw [fu_nj (by decide), fu_eq]) (by rw [ec _ _ (by decide)]; unfold cUnd; rw [fu_eq]) (fun j => by rw [em _ _ (by decide) (fun t => absurd t.1 (by decide)), mUnd_ne (by decide) (fun t => absurd t.1 (by decide))]) (by rw [em _ _ (by decide) (by decide), mUnd_a]) (fun k hk => by rw [em _ _ (by decide) (fun t => absurd t.1 (by decide)), mUnd_m, if_pos hk])
  refine ⟨fun j hj => ?_, ?_, ⟨u2, u3⟩, u4, u1⟩
  · rw [nr _ _ (by decide) (fun t => absurd t.1 (by decide)), em _ _ (by decide) (fun t => absurd t.1 (by decide)), mUnd_ne (by decide) (fun t => absurd t.1 (by decide))]
    exact a1 j hj
  · have q : RHf 3 g2 (g 149) := RHf_eq a2 (fun j _ _ => nr _ _ (by decide) (fun t => absurd t.1 (by decide))) (fun k j k1 k2 => nr _ _ (by omega) (by omega))
    exact RHf_t q (by rw [nr _ _ (by decide) (by decide)]; exact hd) u5
