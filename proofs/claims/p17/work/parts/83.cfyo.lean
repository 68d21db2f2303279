/-! fx: the law's case of image -/
section FYO
variable {W : ax_W} {g : Nat → Nat → Int} {Q : Nat → Nat → (Nat → Nat → Int) → Prop}
theorem law_58 {cW cM : ax_C} {r2 d : Nat} {i : Int} {x5 x6 : Nat} (hvW : ax_Valid W.N W.sy cW) (w1 : cW.1 = 64) (w2 : cW.2.2.1 = [(0, 2, 0)]) (w3 : cW.2.2.2.1 = []) (w4 : cW.2.1 ≤ 20)
    (hvM : ax_Valid W.N W.sy cM) (m1 : cM.1 = 409) (m2 : cM.2.2.1 = [(0, 1186, 0)]) (m3 : cM.2.2.2.1 = []) (m4 : cM.2.1 ≤ 20) (hd : 21 ≤ d) (hr : 1 ≤ r2) (hi0 : 0 ≤ i) (hi1 : i ≤ 3072) (hI : LInv g) (h5 : x5 % 8 ≠ 4) (h6 : x6 % 8 ≠ 4)
    (kq : ∀ g' x5 x6, LInv g' → x5 % 8 ≠ 4 → x6 % 8 ≠ 4 → fx W r2 d 0 23 [5, 2, 1186, 1274, fI (i + 6), x5, x6] [] g' Q) : fx W r2 d 0 1941 [5, 2, 1186, 1274, fI i, x5, x6] [] g Q := by
  refine fx_LB hI.1 (fun hb => ?_)
  refine fx_la 1 1942 (v := 2) (by decide +kernel) rfl (by decide +kernel) ?_
  refine fx_c1 64 21 1945 20 [] (by decide +kernel) (by decide) rfl (by first | decide | omega) ?_
  have wk : fx (fWl W 0) r2 20 64 0 [2] [] g (fun k v g1 => (k = 0 ∧ (∀ c j, ¬ (56 ≤ c ∧ c ≤ 69 + 5) → ¬ (c = 0 ∧ j = 15) → g1 c j = g c j) ∧ g1 0 15 = 1 ∧ (∀ j, 4 ≤ j → j ≤ 9 → g1 56 j = g 3 j) ∧ (∀ i j, 1 ≤ i → i ≤ 4 → g1 (56 + i) j = g (3 + i) j)) ∧ gHs g1) := by
    rw [← w1]
    refine fx_hs (W := fWl W 0) (cav := [2]) hvW hI.1 (by rw [w2]; exact ax_As_1 (by decide)) w3 (by rw [w1]; decide +kernel) hr w4 ?_
    rw [w1]
    exact fx.up (sp_cimage (fun g' f1 f2 f3 f4 => ⟨rfl, f1, f2, f3, f4⟩)) (Nat.le_refl _) (by decide)
  refine wk.mono (fun k v g1 h => ?_)
  obtain ⟨⟨hk, f1, f2, f3, f4⟩, hs1⟩ := h
  subst hk
  refine fK0 ?_
  refine fx_la 2 1946 (v := 1186) (by decide +kernel) rfl (by decide +kernel) ?_
  refine fx_c1 409 21 1949 20 [7] (by decide +kernel) (by decide) rfl (by first | decide | omega) ?_
  have mk : fx (fWl W 0) r2 20 409 0 [1186, 7] [] g1 (fun k v g2 => (k = 0 ∧ (∀ c j, c ≠ 150 → ¬ (c = 148 ∧ (j = 0 ∨ j = 3)) → g2 c j = g1 c j) ∧ g2 148 3 = 1 ∧ (∀ j, j < 764 → g2 150 j = g1 149 j)) ∧ gHs g2) := by
    rw [← m1]
    refine fx_hs (W := fWl W 0) (cav := [1186]) hvM hs1 (by rw [m2]; exact ax_As_1 (by decide)) m3 (by rw [m1]; decide +kernel) hr m4 ?_
    rw [m1]
    exact fx.up (sp_mimage (fun g' f1 f2 f3 => ⟨rfl, f1, f2, f3⟩)) (Nat.le_refl _) (by decide)
  refine mk.mono (fun k v g2 h => ?_)
  obtain ⟨⟨hk, e1, e2, e3⟩, hs2⟩ := h
  subst hk
  refine fK0 ?_
  have n : ∀ c j, c ≠ 150 → ¬ (c = 148 ∧ (j = 0 ∨ j = 3)) → ¬ (56 ≤ c ∧ c ≤ 69 + 5) → ¬ (c = 0 ∧ j = 15) → g2 c j = g c j := fun c j a1 a2 a3 a4 => by rw [e1 c j a1 a2, f1 c j a3 a4]
  have hx := hI.2.1
  obtain ⟨x1, x2, x3, x4, x5', x6'⟩ := hx.2.1
  have d3 := hb.2.2.1
  have im : ∀ j, 4 ≤ j → j ≤ 9 → g2 56 j = g 3 j := fun j j1 j2 => by rw [e1 _ _ (by decide) (fun t => absurd t.1 (by decide))]; exact f3 j j1 j2
  have ia : ∀ k j, 1 ≤ k → k ≤ 4 → g2 (56 + k) j = g (3 + k) j := fun k j j1 j2 => by rw [e1 _ _ (by omega) (by omega)]; exact f4 k j j1 j2
  have km : ∀ j, j < 764 → g2 150 j = g 149 j := fun j hj => by rw [e3 j hj, f1 _ _ (by decide) (fun t => absurd t.1 (by decide))]
  have hg2 : gxg g2 := by
    refine ⟨fun j hj => ?_, ⟨?_, ?_, ?_, fun j j1 j2 => ?_, fun j j1 => ?_, ?_⟩, ⟨?_, ?_, ?_, fun j j1 j2 => ?_, fun j j1 => ?_, ?_⟩, fun r k q1 q2 q3 => ?_⟩
    · rw [n _ _ (by decide) (fun t => absurd t.1 (by decide)) (by decide) (fun t => absurd t.1 (by decide)), n _ _ (by decide) (fun t => absurd t.1 (by decide)) (by decide) (fun t => absurd t.1 (by decide))]; exact hx.1 j hj
    · rw [n _ _ (by decide) (by decide) (by decide) (by decide), n _ _ (by decide) (by decide) (by decide) (by decide)]; exact x1
    · rw [n _ _ (by decide) (by decide) (by decide) (by decide), n _ _ (by decide) (by decide) (by decide) (by decide)]; exact x2
    · rw [n _ _ (by decide) (by decide) (by decide) (by decide), n _ _ (by decide) (by decide) (by decide) (by decide)]; exact x3
    · rw [n _ _ (by decide) (by decide) (by decide) (by decide)] at j2
      rw [n _ _ (by decide) (fun t => absurd t.1 (by decide)) (by decide) (fun t => absurd t.1 (by decide)), n _ _ (by decide) (fun t => absurd t.1 (by decide)) (by decide) (fun t => absurd t.1 (by decide))]; exact x4 j j1 j2
    · rw [n _ _ (by decide) (fun t => absurd t.1 (by decide)) (by decide) (fun t => absurd t.1 (by decide)), n _ _ (by decide) (fun t => absurd t.1 (by decide)) (by decide) (fun t => absurd t.1 (by decide))]; exact x5' j j1
    · rw [n _ _ (by decide) (by decide) (by decide) (by decide)]; exact x6'
    · rw [im 4 (by decide) (by decide), km 3 (by decide)]; exact x1
    · rw [im 5 (by decide) (by decide), km 4 (by decide)]; exact x2
    · rw [im 6 (by decide) (by decide), km 0 (by decide)]; exact x3
    · rw [im 5 (by decide) (by decide)] at j2
      rw [ia 3 j (by decide) (by decide), km _ (by omega)]; exact x4 j j1 j2
    · rw [ia 4 j (by decide) (by decide), km _ (by omega)]; exact x5' j j1
    · rw [im 6 (by decide) (by decide)]; exact x6'
    · rw [n _ _ (by decide) (by decide) (by decide) (by decide)] at q1
      rw [n _ _ (by decide) (fun t => absurd t.1 (by decide)) (by decide) (fun t => absurd t.1 (by decide)), n _ _ (by decide) (fun t => absurd t.1 (by decide)) (by decide) (fun t => absurd t.1 (by decide))]
      exact hx.2.2.2 r k q1 q2 q3
  have hl2 : g2 1 1 = g2 148 8 := by rw [n _ _ (by decide) (by decide) (by decide) (by decide), n _ _ (by decide) (by decide) (by decide) (by decide)]; exact hI.2.2.1
  have hi2 : g2 0 15 = g2 148 3 := by rw [e2, e1 _ _ (by decide) (by decide)]; exact f2
  refine fx_go 1990 (by decide +kernel) ?_
  refine fx_inc 4 1993 6 (by decide +kernel) rfl (Or.inr (f_n4p (v := 1274) rfl (by decide))) rfl ?_
  dsimp only [List.set]
  exact fx_go 23 (by decide +kernel) (kq g2 x5 x6 ⟨hs2, hg2, hl2, hi2⟩ h5 h6)
end FYO
