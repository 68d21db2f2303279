/-! fx: seed, texts, the image: what is remembered -/
theorem RPs_cg {g g2 : Nat → Nat → Int} (h : RPs g) (e1 : ∀ c j, 76 ≤ c → c ≤ 147 → g2 c j = g c j) (e2 : g2 0 17 = g 0 17) (e3 : g2 0 16 = g 0 16) (e4 : ∀ j, g2 152 j = g 152 j) (e5 : g2 148 6 = g 148 6) (e6 : ∀ k, gHp k → g2 149 k = g 149 k) : RPs g2 := by
  obtain ⟨a1, a2, a3, a4, a5, a6⟩ := h
  refine ⟨by rw [e3, e5]; exact a1, by rw [e5]; exact a2, by rw [e5]; exact a3, by rw [e2]; exact a4, by rw [e2]; exact a5, fun r hr => ?_⟩
  rw [e5] at hr
  obtain ⟨b1, b2, b3, b4⟩ := a6 r hr
  have ar : aRow g2 r = aRow g r := by
    funext k
    exact e4 _
  have tb : pTab g2 r = pTab g r := by
    unfold pTab
    rw [e2, e5]
  rw [ar, tb]
  have f0 : ∀ k j, k ≤ 5 → g2 (pTab g r + k) j = g (pTab g r + k) j := fun k j j1 => e1 _ _ (by unfold pTab; omega) (by unfold pTab; omega)
  refine ⟨RTf_eq b1 (fun j _ _ => f0 0 j (by decide)) (fun k j j1 j2 => f0 k j (by omega)), RLg_eq b2 (fun j _ _ => f0 0 j (by decide)) (fun j => f0 5 j (by decide)), b3, fun k hk => ?_⟩
  rw [b4 k hk, e6 k hk]
/-- none is remembered -/
theorem RPs_0 {g : Nat → Nat → Int} (h1 : g 0 16 = 0) (h2 : g 148 6 = 0) (n0 : 0 ≤ g 0 17) (n1 : g 0 17 < 12) : RPs g :=
  ⟨by rw [h1, h2], by omega, by omega, n0, n1, fun r hr => by rw [h2] at hr; omega⟩
theorem RMain_seed {g g2 : Nat → Nat → Int} {b : Int} (h : RMain g) (hd : g 3 5 ≤ 6) (ec : ∀ c j, c < 148 → g2 c j = fu g 16 10 b c j) (em : ∀ c j, 148 ≤ c → ¬ (c = 148 ∧ j = 0) → g2 c j = frow g (tU (g 149) 11 b) c j) : RMain g2 := by
  obtain ⟨a1, a2, a3, a4, a5⟩ := h
  have row : g2 149 = tU (g 149) 11 b := by
    funext k
    rw [em _ _ (by decide) (fun t => absurd t.1 (by decide)), frow_m]
  have hp : ∀ k, gHp k → g2 149 k = g 149 k := fun k hk => by
    rw [row]
    unfold gHp at hk
    rw [tU_ne (by omega)]
  have nr : ∀ c j, c < 148 → c ≠ 16 → g2 c j = g c j := fun c j h1 h2 => by rw [ec c j h1, fu_nc h2]
  have nm : ∀ c j, 148 ≤ c → c ≠ 149 → ¬ (c = 148 ∧ j = 0) → g2 c j = g c j := fun c j h1 h2 h3 => by rw [em c j h1 h3, frow_ne h2]
  refine ⟨fun j hj => ?_, ?_, ?_, ?_, RPs_cg a5 (fun c j h1 h2 => nr c j (by omega) (by omega)) (nr _ _ (by decide) (by decide)) (nr _ _ (by decide) (by decide)) (fun j => nm _ _ (by decide) (by decide) (fun t => absurd t.1 (by decide))) (nm _ _ (by decide) (by decide) (by decide)) hp⟩
  · rw [nr _ _ (by decide) (by decide), nm _ _ (by decide) (by decide) (fun t => absurd t.1 (by decide))]
    exact a1 j hj
  · have q : RHf 3 g2 (g 149) := RHf_eq a2 (fun j _ _ => nr _ _ (by decide) (by decide)) (fun k j k1 k2 => nr _ _ (by omega) (by omega))
    exact RHf_t q (by rw [nr _ _ (by decide) (by decide)]; exact hd) hp
  · rw [row]
    exact RTb_cg (RTb_f (j := 10) (k := 11) (v := b) a3 (by omega)) (fun j _ _ => ec _ _ (by decide)) (fun k j _ _ => ec _ _ (by omega)) (fun _ _ => rfl)
  · rw [row]
    exact RIv_u a4 ⟨by decide, Or.inl (by decide)⟩
