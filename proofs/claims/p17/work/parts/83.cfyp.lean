/-! fx: the law's case of back -/
section FYP
variable {W : ax_W} {g : Nat → Nat → Int} {Q : Nat → Nat → (Nat → Nat → Int) → Prop}
def PC (g g1 : Nat → Nat → Int) : Prop := (g 0 15 = 0 ∧ g1 = g) ∨ (g 0 15 = 1 ∧ (∀ c j, ¬ (3 ≤ c ∧ c ≤ 16 + 5) → ¬ (c = 0 ∧ j = 16) → g1 c j = g c j) ∧ (∀ j, 4 ≤ j → j ≤ 9 → g1 3 j = g 56 j) ∧ (∀ i j, 1 ≤ i → i ≤ 4 → g1 (3 + i) j = g (56 + i) j))
def PD (g g1 g2 : Nat → Nat → Int) : Prop := (g 0 15 = 0 ∧ g2 = fu g1 148 0 0) ∨ (g 0 15 = 1 ∧ (∀ c j, c ≠ 149 → ¬ (c = 148 ∧ (j = 0 ∨ j = 6)) → g2 c j = g1 c j) ∧ g2 148 6 = 0 ∧ (∀ j, j < 764 → g2 149 j = g1 150 j))
theorem back_both {g1 g2 : Nat → Nat → Int} (hI : LInv g) (h1 : PC g g1) (h2 : PD g g1 g2) : gxg g2 ∧ g2 1 1 = g2 148 8 ∧ g2 0 15 = g2 148 3 := by
  have hx := hI.2.1
  rcases h1 with ⟨k0, e1⟩ | ⟨k1, f1, f2, f3⟩
  · subst e1
    rcases h2 with ⟨-, e2⟩ | ⟨k1, -⟩
    · subst e2
      refine ⟨gxg_cg hx (fun c j k a1 a2 => ?_) (fun r k q1 q2 q3 => ?_), ?_, ?_⟩
      · rw [fu_ne (by unfold gx_K gx_P at k; omega)]
      · rw [fu_nj (by decide)] at q1
        rw [fu_nc (by decide), fu_nc (by decide)]
        exact hx.2.2.2 r k q1 q2 q3
      · rw [fu_nc (by decide), fu_nj (by decide)]; exact hI.2.2.1
      · rw [fu_nc (by decide), fu_nj (by decide)]; exact hI.2.2.2
    · omega
  · rcases h2 with ⟨k0, -⟩ | ⟨-, e1, e2, e3⟩
    · omega
    · obtain ⟨i1, i2, i3, i4, i5, i6⟩ := hx.2.2.1
      have n : ∀ c j, c ≠ 149 → ¬ (c = 148 ∧ (j = 0 ∨ j = 6)) → ¬ (3 ≤ c ∧ c ≤ 16 + 5) → ¬ (c = 0 ∧ j = 16) → g2 c j = g c j := fun c j a1 a2 a3 a4 => by rw [e1 c j a1 a2, f1 c j a3 a4]
      have hm : ∀ j, 4 ≤ j → j ≤ 9 → g2 3 j = g 56 j := fun j j1 j2 => by rw [e1 _ _ (by decide) (fun t => absurd t.1 (by decide))]; exact f2 j j1 j2
      have ha : ∀ k j, 1 ≤ k → k ≤ 4 → g2 (3 + k) j = g (56 + k) j := fun k j j1 j2 => by rw [e1 _ _ (by omega) (by omega)]; exact f3 k j j1 j2
      have km : ∀ j, j < 764 → g2 149 j = g 150 j := fun j hj => by rw [e3 j hj, f1 _ _ (by decide) (fun t => absurd t.1 (by decide))]
      refine ⟨⟨fun j hj => ?_, ⟨?_, ?_, ?_, fun j j1 j2 => ?_, fun j j1 => ?_, ?_⟩, ⟨?_, ?_, ?_, fun j j1 j2 => ?_, fun j j1 => ?_, ?_⟩, fun r k q1 => ?_⟩, ?_, ?_⟩
      · rw [n _ _ (by decide) (fun t => absurd t.1 (by decide)) (by decide) (fun t => absurd t.1 (by decide)), n _ _ (by decide) (fun t => absurd t.1 (by decide)) (by decide) (fun t => absurd t.1 (by decide))]; exact hx.1 j hj
      · rw [hm 4 (by decide) (by decide), km 3 (by decide)]; exact i1
      · rw [hm 5 (by decide) (by decide), km 4 (by decide)]; exact i2
      · rw [hm 6 (by decide) (by decide), km 0 (by decide)]; exact i3
      · rw [hm 5 (by decide) (by decide)] at j2
        rw [ha 3 j (by decide) (by decide), km _ (by omega)]; exact i4 j j1 j2
      · rw [ha 4 j (by decide) (by decide), km _ (by omega)]; exact i5 j j1
      · rw [hm 6 (by decide) (by decide)]; exact i6
      · rw [n _ _ (by decide) (by decide) (by decide) (by decide), n _ _ (by decide) (by decide) (by decide) (by decide)]; exact i1
      · rw [n _ _ (by decide) (by decide) (by decide) (by decide), n _ _ (by decide) (by decide) (by decide) (by decide)]; exact i2
      · rw [n _ _ (by decide) (by decide) (by decide) (by decide), n _ _ (by decide) (by decide) (by decide) (by decide)]; exact i3
      · rw [n _ _ (by decide) (by decide) (by decide) (by decide)] at j2
        rw [n _ _ (by decide) (fun t => absurd t.1 (by decide)) (by decide) (fun t => absurd t.1 (by decide)), n _ _ (by decide) (fun t => absurd t.1 (by decide)) (by decide) (fun t => absurd t.1 (by decide))]; exact i4 j j1 j2
      · rw [n _ _ (by decide) (fun t => absurd t.1 (by decide)) (by decide) (fun t => absurd t.1 (by decide)), n _ _ (by decide) (fun t => absurd t.1 (by decide)) (by decide) (fun t => absurd t.1 (by decide))]; exact i5 j j1
      · rw [n _ _ (by decide) (by decide) (by decide) (by decide)]; exact i6
      · rw [e2] at q1
        omega
      · rw [n _ _ (by decide) (by decide) (by decide) (by decide), n _ _ (by decide) (by decide) (by decide) (by decide)]; exact hI.2.2.1
      · rw [n _ _ (by decide) (by decide) (by decide) (by decide), n _ _ (by decide) (by decide) (by decide) (by decide)]; exact hI.2.2.2
theorem law_59 {cW cM : ax_C} {r2 d : Nat} {i : Int} {x5 x6 : Nat} (hvW : ax_Valid W.N W.sy cW) (w1 : cW.1 = 67) (w2 : cW.2.2.1 = [(0, 2, 0)]) (w3 : cW.2.2.2.1 = []) (w4 : cW.2.1 ≤ 20)
    (hvM : ax_Valid W.N W.sy cM) (m1 : cM.1 = 410) (m2 : cM.2.2.1 = [(0, 1186, 0)]) (m3 : cM.2.2.2.1 = []) (m4 : cM.2.1 ≤ 20) (hd : 21 ≤ d) (hr : 1 ≤ r2) (hi0 : 0 ≤ i) (hi1 : i ≤ 3072) (hI : LInv g) (h5 : x5 % 8 ≠ 4) (h6 : x6 % 8 ≠ 4)
    (kq : ∀ g' x5 x6, LInv g' → x5 % 8 ≠ 4 → x6 % 8 ≠ 4 → fx W r2 d 0 23 [5, 2, 1186, 1274, fI (i + 6), x5, x6] [] g' Q) : fx W r2 d 0 1952 [5, 2, 1186, 1274, fI i, x5, x6] [] g Q := by
  refine fx_LB hI.1 (fun hb => ?_)
  have hk : g 0 15 = 0 ∨ g 0 15 = 1 := by have := hb.2.2.2.2.2; omega
  refine fx_la 1 1953 (v := 2) (by decide +kernel) rfl (by decide +kernel) ?_
  refine fx_c1 67 21 1956 20 [] (by decide +kernel) (by decide) rfl (by first | decide | omega) ?_
  have wk : fx (fWl W 0) r2 20 67 0 [2] [] g (fun k v g1 => (k = 1 ∧ v % 8 ≠ 4 ∧ PC g g1) ∧ gHs g1) := by
    rw [← w1]
    refine fx_hs (W := fWl W 0) (cav := [2]) hvW hI.1 (by rw [w2]; exact ax_As_1 (by decide)) w3 (by rw [w1]; decide +kernel) hr w4 ?_
    rw [w1]
    exact fx.up (sp_cback hk (fun t => ⟨rfl, fI_n4 _, Or.inl ⟨t, rfl⟩⟩) (fun t g' f1 f2 f3 => ⟨rfl, fI_n4 _, Or.inr ⟨t, f1, f2, f3⟩⟩)) (Nat.le_refl _) (by decide)
  refine wk.mono (fun k v g1 h => ?_)
  obtain ⟨⟨hk1, hv, hc⟩, hs1⟩ := h
  subst hk1
  refine fK1 ?_
  refine fx_pop 1957 (by decide +kernel) rfl hv ?_
  have hk2 : g1 148 3 = g 0 15 := by
    rw [hI.2.2.2]
    rcases hc with ⟨-, e⟩ | ⟨-, f1, -⟩
    · rw [e]
    · exact f1 _ _ (by decide) (by decide)
  refine fx_la 2 1958 (v := 1186) (by decide +kernel) rfl (by decide +kernel) ?_
  refine fx_c1 410 21 1961 20 [7] (by decide +kernel) (by decide) rfl (by first | decide | omega) ?_
  have mk : fx (fWl W 0) r2 20 410 0 [1186, 7] [] g1 (fun k v g2 => (k = 1 ∧ v % 8 ≠ 4 ∧ PD g g1 g2) ∧ gHs g2) := by
    rw [← m1]
    refine fx_hs (W := fWl W 0) (cav := [1186]) hvM hs1 (by rw [m2]; exact ax_As_1 (by decide)) m3 (by rw [m1]; decide +kernel) hr m4 ?_
    rw [m1]
    exact fx.up (sp_mback (by omega) (fun t => ⟨rfl, fI_n4 _, Or.inl ⟨by omega, rfl⟩⟩) (fun t g' f1 f2 f3 => ⟨rfl, fI_n4 _, Or.inr ⟨by omega, f1, f2, f3⟩⟩)) (Nat.le_refl _) (by decide)
  refine mk.mono (fun k v g2 h => ?_)
  obtain ⟨⟨hk3, hv2, hc2⟩, hs2⟩ := h
  subst hk3
  refine fK1 ?_
  refine fx_pop 1962 (by decide +kernel) rfl hv2 ?_
  obtain ⟨r1, r2', r3⟩ := back_both hI hc hc2
  refine fx_go 1990 (by decide +kernel) ?_
  refine fx_inc 4 1993 6 (by decide +kernel) rfl (Or.inr (f_n4p (v := 1274) rfl (by decide))) rfl ?_
  dsimp only [List.set]
  exact fx_go 23 (by decide +kernel) (kq g2 x5 x6 ⟨hs2, r1, r2', r3⟩ h5 h6)
end FYP
