/-! joined: 83.cfyo 83.cfyp 83.cfyq 83.cfyr 83.cfys 83.cfyt 83.cfyu 83.ch00fyv 83.ch01g8a 83.ch02g19a 83.ch03g5r -/
section
/-! fx: the law's case of image -/
section FYO
variable {W : ax_W} {g : Nat → Nat → Int} {Q : Nat → Nat → (Nat → Nat → Int) → Prop}
theorem law_58 {cW cM : ax_C} {r2 d : Nat} {i : Int} {x5 x6 : Nat} (hvW : ax_Valid W.N W.sy cW) (w1 : cW.1 = 64) (w2 : cW.2.2.1 = [(0, 2, 0)]) (w3 : cW.2.2.2.1 = []) (w4 : cW.2.1 ≤ 20)
    (hvM : ax_Valid W.N W.sy cM) (m1 : cM.1 = 408) (m2 : cM.2.2.1 = [(0, 1186, 0)]) (m3 : cM.2.2.2.1 = []) (m4 : cM.2.1 ≤ 20) (hd : 21 ≤ d) (hr : 1 ≤ r2) (hi0 : 0 ≤ i) (hi1 : i ≤ 3072) (hI : LInv g) (h5 : x5 % 8 ≠ 4) (h6 : x6 % 8 ≠ 4)
    (kq : ∀ g' x5 x6, LInv g' → x5 % 8 ≠ 4 → x6 % 8 ≠ 4 → fx W r2 d 0 23 [5, 2, 1186, 1274, fI (i + 6), x5, x6] [] g' Q) : fx W r2 d 0 1913 [5, 2, 1186, 1274, fI i, x5, x6] [] g Q := by
  refine fx_LB hI.1 (fun hb => ?_)
  refine fx_la 1 1914 (v := 2) (by decide +kernel) rfl (by decide +kernel) ?_
  refine fx_c1 64 21 1917 20 [] (by decide +kernel) (by decide) rfl (by first | decide | omega) ?_
  have wk : fx (fWl W 0) r2 20 64 0 [2] [] g (fun k v g1 => (k = 0 ∧ (∀ c j, ¬ (56 ≤ c ∧ c ≤ 69 + 5) → ¬ (c = 0 ∧ j = 15) → g1 c j = g c j) ∧ g1 0 15 = 1 ∧ (∀ j, 4 ≤ j → j ≤ 9 → g1 56 j = g 3 j) ∧ (∀ i j, 1 ≤ i → i ≤ 4 → g1 (56 + i) j = g (3 + i) j)) ∧ gHs g1) := by
    rw [← w1]
    refine fx_hs (W := fWl W 0) (cav := [2]) hvW hI.1 (by rw [w2]; exact ax_As_1 (by decide)) w3 (by rw [w1]; decide +kernel) hr w4 ?_
    rw [w1]
    exact fx.up (sp_cimage (fun g' f1 f2 f3 f4 => ⟨rfl, f1, f2, f3, f4⟩)) (Nat.le_refl _) (by decide)
  refine wk.mono (fun k v g1 h => ?_)
  obtain ⟨⟨hk, f1, f2, f3, f4⟩, hs1⟩ := h
  subst hk
  refine fK0 ?_
  refine fx_la 2 1918 (v := 1186) (by decide +kernel) rfl (by decide +kernel) ?_
  refine fx_c1 408 21 1921 20 [7] (by decide +kernel) (by decide) rfl (by first | decide | omega) ?_
  have mk : fx (fWl W 0) r2 20 408 0 [1186, 7] [] g1 (fun k v g2 => (k = 0 ∧ (∀ c j, c ≠ 150 → ¬ (c = 148 ∧ (j = 0 ∨ j = 3)) → g2 c j = g1 c j) ∧ g2 148 3 = 1 ∧ (∀ j, j < 764 → g2 150 j = g1 149 j)) ∧ gHs g2) := by
    rw [← m1]
    refine fx_hs (W := fWl W 0) (cav := [1186]) hvM hs1 (by rw [m2]; exact ax_As_1 (by decide)) m3 (by rw [m1]; decide +kernel) hr m4 ?_
    rw [m1]
    exact fx.up (sp_mimage (fun g' f1 f2 f3 => ⟨rfl, f1, f2, f3⟩)) (Nat.le_refl _) (by decide)
  refine mk.mono (fun k v g2 h => ?_)
  obtain ⟨⟨hk, e1, e2, e3⟩, hs2⟩ := h
  subst hk
  refine fK0 ?_
  have n : ∀ c j, c ≠ 150 → ¬ (c = 148 ∧ (j = 0 ∨ j = 3)) → ¬ (56 ≤ c ∧ c ≤ 69 + 5) → ¬ (c = 0 ∧ j = 15) → g2 c j = g c j := fun c j a1 a2 a3 a4 => by rw [e1 c j a1 a2, f1 c j a3 a4]
  have hx := hI.2.1
  obtain ⟨x1, x2, x3, x4, x5', x6'⟩ := hx.2.1
  have d3 := hb.2.2.1
  have im : ∀ j, 4 ≤ j → j ≤ 9 → g2 56 j = g 3 j := fun j j1 j2 => by rw [e1 _ _ (by decide) (fun t => absurd t.1 (by decide))]; exact f3 j j1 j2
  have ia : ∀ k j, 1 ≤ k → k ≤ 4 → g2 (56 + k) j = g (3 + k) j := fun k j j1 j2 => by rw [e1 _ _ (by omega) (by omega)]; exact f4 k j j1 j2
  have km : ∀ j, j < 764 → g2 150 j = g 149 j := fun j hj => by rw [e3 j hj, f1 _ _ (by decide) (fun t => absurd t.1 (by decide))]
  have hg2 : gxg g2 := by
    refine ⟨fun j hj => ?_, ⟨?_, ?_, ?_, fun j j1 j2 => ?_, fun j j1 => ?_, ?_⟩, ⟨?_, ?_, ?_, fun j j1 j2 => ?_, fun j j1 => ?_, ?_⟩, fun r k q1 q2 q3 => ?_⟩
    · rw [n _ _ (by decide) (fun t => absurd t.1 (by decide)) (by decide) (fun t => absurd t.1 (by decide)), n _ _ (by decide) (fun t => absurd t.1 (by decide)) (by decide) (fun t => absurd t.1 (by decide))]; exact hx.1 j hj
    · rw [n _ _ (by decide) (by decide) (by decide) (by decide), n _ _ (by decide) (by decide) (by decide) (by decide)]; exact x1
    · rw [n _ _ (by decide) (by decide) (by decide) (by decide), n _ _ (by decide) (by decide) (by decide) (by decide)]; exact x2
    · rw [n _ _ (by decide) (by decide) (by decide) (by decide), n _ _ (by decide) (by decide) (by decide) (by decide)]; exact x3
    · rw [n _ _ (by decide) (by decide) (by decide) (by decide)] at j2
      rw [n _ _ (by decide) (fun t => absurd t.1 (by decide)) (by decide) (fun t => absurd t.1 (by decide)), n _ _ (by decide) (fun t => absurd t.1 (by decide)) (by decide) (fun t => absurd t.1 (by decide))]; exact x4 j j1 j2
    · rw [n _ _ (by decide) (fun t => absurd t.1 (by decide)) (by decide) (fun t => absurd t.1 (by decide)), n _ _ (by decide) (fun t => absurd t.1 (by decide)) (by decide) (fun t => absurd t.1 (by decide))]; exact x5' j j1
    · rw [n _ _ (by decide) (by decide) (by decide) (by decide)]; exact x6'
    · rw [im 4 (by decide) (by decide), km 3 (by decide)]; exact x1
    · rw [im 5 (by decide) (by decide), km 4 (by decide)]; exact x2
    · rw [im 6 (by decide) (by decide), km 0 (by decide)]; exact x3
    · rw [im 5 (by decide) (by decide)] at j2
      rw [ia 3 j (by decide) (by decide), km _ (by omega)]; exact x4 j j1 j2
    · rw [ia 4 j (by decide) (by decide), km _ (by omega)]; exact x5' j j1
    · rw [im 6 (by decide) (by decide)]; exact x6'
    · rw [n _ _ (by decide) (by decide) (by decide) (by decide)] at q1
      rw [n _ _ (by decide) (fun t => absurd t.1 (by decide)) (by decide) (fun t => absurd t.1 (by decide)), n _ _ (by decide) (fun t => absurd t.1 (by decide)) (by decide) (fun t => absurd t.1 (by decide))]
      exact hx.2.2.2 r k q1 q2 q3
  have hl2 : g2 1 1 = g2 148 8 := by rw [n _ _ (by decide) (by decide) (by decide) (by decide), n _ _ (by decide) (by decide) (by decide) (by decide)]; exact hI.2.2.1
  have hi2 : g2 0 15 = g2 148 3 := by rw [e2, e1 _ _ (by decide) (by decide)]; exact f2
  refine fx_go 1962 (by decide +kernel) ?_
  refine fx_inc 4 1965 6 (by decide +kernel) rfl (Or.inr (f_n4p (v := 1274) rfl (by decide))) rfl ?_
  dsimp only [List.set]
  exact fx_go 23 (by decide +kernel) (kq g2 x5 x6 ⟨hs2, hg2, hl2, hi2⟩ h5 h6)
end FYO
end
section
/-! fx: the law's case of back -/
section FYP
variable {W : ax_W} {g : Nat → Nat → Int} {Q : Nat → Nat → (Nat → Nat → Int) → Prop}
def PC (g g1 : Nat → Nat → Int) : Prop := (g 0 15 = 0 ∧ g1 = g) ∨ (g 0 15 = 1 ∧ (∀ c j, ¬ (3 ≤ c ∧ c ≤ 16 + 5) → ¬ (c = 0 ∧ j = 16) → g1 c j = g c j) ∧ (∀ j, 4 ≤ j → j ≤ 9 → g1 3 j = g 56 j) ∧ (∀ i j, 1 ≤ i → i ≤ 4 → g1 (3 + i) j = g (56 + i) j))
def PD (g g1 g2 : Nat → Nat → Int) : Prop := (g 0 15 = 0 ∧ g2 = fu g1 148 0 0) ∨ (g 0 15 = 1 ∧ (∀ c j, c ≠ 149 → ¬ (c = 148 ∧ (j = 0 ∨ j = 6)) → g2 c j = g1 c j) ∧ g2 148 6 = 0 ∧ (∀ j, j < 764 → g2 149 j = g1 150 j))
theorem back_both {g1 g2 : Nat → Nat → Int} (hI : LInv g) (h1 : PC g g1) (h2 : PD g g1 g2) : gxg g2 ∧ g2 1 1 = g2 148 8 ∧ g2 0 15 = g2 148 3 := by
  have hx := hI.2.1
  rcases h1 with ⟨k0, e1⟩ | ⟨k1, f1, f2, f3⟩
  · subst e1
    rcases h2 with ⟨-, e2⟩ | ⟨k1, -⟩
    · subst e2
      refine ⟨gxg_cg hx (fun c j k a1 a2 => ?_) (fun r k q1 q2 q3 => ?_), ?_, ?_⟩
      · rw [fu_ne (by unfold gx_K gx_P at k; omega)]
      · rw [fu_nj (by decide)] at q1
        rw [fu_nc (by decide), fu_nc (by decide)]
        exact hx.2.2.2 r k q1 q2 q3
      · rw [fu_nc (by decide), fu_nj (by decide)]; exact hI.2.2.1
      · rw [fu_nc (by decide), fu_nj (by decide)]; exact hI.2.2.2
    · omega
  · rcases h2 with ⟨k0, -⟩ | ⟨-, e1, e2, e3⟩
    · omega
    · obtain ⟨i1, i2, i3, i4, i5, i6⟩ := hx.2.2.1
      have n : ∀ c j, c ≠ 149 → ¬ (c = 148 ∧ (j = 0 ∨ j = 6)) → ¬ (3 ≤ c ∧ c ≤ 16 + 5) → ¬ (c = 0 ∧ j = 16) → g2 c j = g c j := fun c j a1 a2 a3 a4 => by rw [e1 c j a1 a2, f1 c j a3 a4]
      have hm : ∀ j, 4 ≤ j → j ≤ 9 → g2 3 j = g 56 j := fun j j1 j2 => by rw [e1 _ _ (by decide) (fun t => absurd t.1 (by decide))]; exact f2 j j1 j2
      have ha : ∀ k j, 1 ≤ k → k ≤ 4 → g2 (3 + k) j = g (56 + k) j := fun k j j1 j2 => by rw [e1 _ _ (by omega) (by omega)]; exact f3 k j j1 j2
      have km : ∀ j, j < 764 → g2 149 j = g 150 j := fun j hj => by rw [e3 j hj, f1 _ _ (by decide) (fun t => absurd t.1 (by decide))]
      refine ⟨⟨fun j hj => ?_, ⟨?_, ?_, ?_, fun j j1 j2 => ?_, fun j j1 => ?_, ?_⟩, ⟨?_, ?_, ?_, fun j j1 j2 => ?_, fun j j1 => ?_, ?_⟩, fun r k q1 => ?_⟩, ?_, ?_⟩
      · rw [n _ _ (by decide) (fun t => absurd t.1 (by decide)) (by decide) (fun t => absurd t.1 (by decide)), n _ _ (by decide) (fun t => absurd t.1 (by decide)) (by decide) (fun t => absurd t.1 (by decide))]; exact hx.1 j hj
      · rw [hm 4 (by decide) (by decide), km 3 (by decide)]; exact i1
      · rw [hm 5 (by decide) (by decide), km 4 (by decide)]; exact i2
      · rw [hm 6 (by decide) (by decide), km 0 (by decide)]; exact i3
      · rw [hm 5 (by decide) (by decide)] at j2
        rw [ha 3 j (by decide) (by decide), km _ (by omega)]; exact i4 j j1 j2
      · rw [ha 4 j (by decide) (by decide), km _ (by omega)]; exact i5 j j1
      · rw [hm 6 (by decide) (by decide)]; exact i6
      · rw [n _ _ (by decide) (by decide) (by decide) (by decide), n _ _ (by decide) (by decide) (by decide) (by decide)]; exact i1
      · rw [n _ _ (by decide) (by decide) (by decide) (by decide), n _ _ (by decide) (by decide) (by decide) (by decide)]; exact i2
      · rw [n _ _ (by decide) (by decide) (by decide) (by decide), n _ _ (by decide) (by decide) (by decide) (by decide)]; exact i3
      · rw [n _ _ (by decide) (by decide) (by decide) (by decide)] at j2
        rw [n _ _ (by decide) (fun t => absurd t.1 (by decide)) (by decide) (fun t => absurd t.1 (by decide)), n _ _ (by decide) (fun t => absurd t.1 (by decide)) (by decide) (fun t => absurd t.1 (by decide))]; exact i4 j j1 j2
      · rw [n _ _ (by decide) (fun t => absurd t.1 (by decide)) (by decide) (fun t => absurd t.1 (by decide)), n _ _ (by decide) (fun t => absurd t.1 (by decide)) (by decide) (fun t => absurd t.1 (by decide))]; exact i5 j j1
      · rw [n _ _ (by decide) (by decide) (by decide) (by decide)]; exact i6
      · rw [e2] at q1
        omega
      · rw [n _ _ (by decide) (by decide) (by decide) (by decide), n _ _ (by decide) (by decide) (by decide) (by decide)]; exact hI.2.2.1
      · rw [n _ _ (by decide) (by decide) (by decide) (by decide), n _ _ (by decide) (by decide) (by decide) (by decide)]; exact hI.2.2.2
theorem law_59 {cW cM : ax_C} {r2 d : Nat} {i : Int} {x5 x6 : Nat} (hvW : ax_Valid W.N W.sy cW) (w1 : cW.1 = 67) (w2 : cW.2.2.1 = [(0, 2, 0)]) (w3 : cW.2.2.2.1 = []) (w4 : cW.2.1 ≤ 20)
    (hvM : ax_Valid W.N W.sy cM) (m1 : cM.1 = 409) (m2 : cM.2.2.1 = [(0, 1186, 0)]) (m3 : cM.2.2.2.1 = []) (m4 : cM.2.1 ≤ 20) (hd : 21 ≤ d) (hr : 1 ≤ r2) (hi0 : 0 ≤ i) (hi1 : i ≤ 3072) (hI : LInv g) (h5 : x5 % 8 ≠ 4) (h6 : x6 % 8 ≠ 4)
    (kq : ∀ g' x5 x6, LInv g' → x5 % 8 ≠ 4 → x6 % 8 ≠ 4 → fx W r2 d 0 23 [5, 2, 1186, 1274, fI (i + 6), x5, x6] [] g' Q) : fx W r2 d 0 1924 [5, 2, 1186, 1274, fI i, x5, x6] [] g Q := by
  refine fx_LB hI.1 (fun hb => ?_)
  have hk : g 0 15 = 0 ∨ g 0 15 = 1 := by have := hb.2.2.2.2.2; omega
  refine fx_la 1 1925 (v := 2) (by decide +kernel) rfl (by decide +kernel) ?_
  refine fx_c1 67 21 1928 20 [] (by decide +kernel) (by decide) rfl (by first | decide | omega) ?_
  have wk : fx (fWl W 0) r2 20 67 0 [2] [] g (fun k v g1 => (k = 1 ∧ v % 8 ≠ 4 ∧ PC g g1) ∧ gHs g1) := by
    rw [← w1]
    refine fx_hs (W := fWl W 0) (cav := [2]) hvW hI.1 (by rw [w2]; exact ax_As_1 (by decide)) w3 (by rw [w1]; decide +kernel) hr w4 ?_
    rw [w1]
    exact fx.up (sp_cback hk (fun t => ⟨rfl, fI_n4 _, Or.inl ⟨t, rfl⟩⟩) (fun t g' f1 f2 f3 => ⟨rfl, fI_n4 _, Or.inr ⟨t, f1, f2, f3⟩⟩)) (Nat.le_refl _) (by decide)
  refine wk.mono (fun k v g1 h => ?_)
  obtain ⟨⟨hk1, hv, hc⟩, hs1⟩ := h
  subst hk1
  refine fK1 ?_
  refine fx_pop 1929 (by decide +kernel) rfl hv ?_
  have hk2 : g1 148 3 = g 0 15 := by
    rw [hI.2.2.2]
    rcases hc with ⟨-, e⟩ | ⟨-, f1, -⟩
    · rw [e]
    · exact f1 _ _ (by decide) (by decide)
  refine fx_la 2 1930 (v := 1186) (by decide +kernel) rfl (by decide +kernel) ?_
  refine fx_c1 409 21 1933 20 [7] (by decide +kernel) (by decide) rfl (by first | decide | omega) ?_
  have mk : fx (fWl W 0) r2 20 409 0 [1186, 7] [] g1 (fun k v g2 => (k = 1 ∧ v % 8 ≠ 4 ∧ PD g g1 g2) ∧ gHs g2) := by
    rw [← m1]
    refine fx_hs (W := fWl W 0) (cav := [1186]) hvM hs1 (by rw [m2]; exact ax_As_1 (by decide)) m3 (by rw [m1]; decide +kernel) hr m4 ?_
    rw [m1]
    exact fx.up (sp_mback (by omega) (fun t => ⟨rfl, fI_n4 _, Or.inl ⟨by omega, rfl⟩⟩) (fun t g' f1 f2 f3 => ⟨rfl, fI_n4 _, Or.inr ⟨by omega, f1, f2, f3⟩⟩)) (Nat.le_refl _) (by decide)
  refine mk.mono (fun k v g2 h => ?_)
  obtain ⟨⟨hk3, hv2, hc2⟩, hs2⟩ := h
  subst hk3
  refine fK1 ?_
  refine fx_pop 1934 (by decide +kernel) rfl hv2 ?_
  obtain ⟨r1, r2', r3⟩ := back_both hI hc hc2
  refine fx_go 1962 (by decide +kernel) ?_
  refine fx_inc 4 1965 6 (by decide +kernel) rfl (Or.inr (f_n4p (v := 1274) rfl (by decide))) rfl ?_
  dsimp only [List.set]
  exact fx_go 23 (by decide +kernel) (kq g2 x5 x6 ⟨hs2, r1, r2', r3⟩ h5 h6)
end FYP
end
section
/-! fx: the law's case of feed -/
section FYQ
variable {W : ax_W} {g : Nat → Nat → Int} {Q : Nat → Nat → (Nat → Nat → Int) → Prop}
def PE (L : Nat) (bs : Nat → Int) (g g1 : Nat → Nat → Int) : Prop := (400 < L + 20 ∧ g1 = g) ∨ (L + 20 ≤ 400 ∧ g1 = ffd g 2 1 1 L bs 20)
def PF (L : Nat) (bs : Nat → Int) (g1 g2 : Nat → Nat → Int) : Prop := (400 < L + 20 ∧ g2 = fu g1 148 0 0) ∨ (L + 20 ≤ 400 ∧ g2 = ffd (fu g1 148 0 0) 153 148 8 L bs 20)
theorem feed_both {g1 g2 : Nat → Nat → Int} {L : Nat} {bs : Nat → Int} (hI : LInv g) (hl : g 1 1 = (L : Nat)) (h1 : PE L bs g g1) (h2 : PF L bs g1 g2) : gxg g2 ∧ g2 1 1 = g2 148 8 ∧ g2 0 15 = g2 148 3 := by
  have hx := hI.2.1
  have key : ∀ c j, c ≠ 2 → c ≠ 153 → ¬ (c = 1 ∧ j = 1) → ¬ (c = 148 ∧ (j = 8 ∨ j = 0)) → g2 c j = g c j := fun c j a1 a2 a3 a4 => by
    rcases h1 with ⟨l1, e1⟩ | ⟨l1, e1⟩ <;> rcases h2 with ⟨l2, e2⟩ | ⟨l2, e2⟩
    · rw [e2, fu_ne (by omega), e1]
    · omega
    · omega
    · rw [e2, ffd_ne a2 (by omega), fu_ne (by omega), e1, ffd_ne a1 a3]
  have tp : (∀ j, j < 400 → g2 2 j = g2 153 j) ∧ g2 1 1 = g2 148 8 := by
    rcases h1 with ⟨l1, e1⟩ | ⟨l1, e1⟩ <;> rcases h2 with ⟨l2, e2⟩ | ⟨l2, e2⟩
    · rw [e2, e1]
      exact ⟨fun j hj => by rw [fu_nc (by decide), fu_nc (by decide)]; exact hx.1 j hj, by rw [fu_nc (by decide), fu_nj (by decide)]; exact hI.2.2.1⟩
    · omega
    · omega
    · rw [e2, e1]
      refine ⟨fun j hj => ?_, ?_⟩
      · rw [ffd_ne (by decide) (fun t => absurd t.1 (by decide)), fu_nc (by decide)]
        unfold ffd
        by_cases q : L ≤ j ∧ j < L + 20
        · rw [if_pos ⟨rfl, q⟩, if_pos ⟨rfl, q⟩]
        · rw [if_neg (fun t => q t.2), if_neg (fun t => absurd t.1 (by decide)), if_neg (fun t => q t.2), if_neg (fun t => absurd t.1 (by decide)), fu_nc (by decide), if_neg (fun t => absurd t.1 (by decide)), if_neg (fun t => absurd t.1 (by decide))]
          exact hx.1 j hj
      · rw [ffd_l (by decide), ffd_ne (by decide) (by decide), fu_nc (by decide), ffd_l (by decide)]
  refine ⟨?_, tp.2, ?_⟩
  · obtain ⟨k1, k2, k3, k4⟩ := hx
    have hm : ∀ a b, (a = 3 ∧ b = 149) ∨ (a = 56 ∧ b = 150) → gxh g a b → gxh g2 a b := by
      intro a b ab q
      obtain ⟨q1, q2, q3, q4, q5, q6⟩ := q
      have A : ∀ j, g2 a j = g a j := fun j => key a j (by omega) (by omega) (by omega) (by omega)
      have B : ∀ j, g2 b j = g b j := fun j => key b j (by omega) (by omega) (by omega) (by omega)
      have C : ∀ j, g2 (a + 3) j = g (a + 3) j := fun j => key _ j (by omega) (by omega) (by omega) (by omega)
      have D : ∀ j, g2 (a + 4) j = g (a + 4) j := fun j => key _ j (by omega) (by omega) (by omega) (by omega)
      exact ⟨by rw [A, B]; exact q1, by rw [A, B]; exact q2, by rw [A, B]; exact q3, fun j j1 j2 => by rw [A] at j2; rw [C, B]; exact q4 j j1 j2, fun j j1 => by rw [D, B]; exact q5 j j1, by rw [A]; exact q6⟩
    refine ⟨tp.1, hm _ _ (Or.inl ⟨rfl, rfl⟩) k2, hm _ _ (Or.inr ⟨rfl, rfl⟩) k3, fun r k a1 a2 a3 => ?_⟩
    rw [key _ _ (by decide) (by decide) (by decide) (by decide)] at a1
    rw [key _ _ (by decide) (by decide) (fun t => absurd t.1 (by decide)) (fun t => absurd t.1 (by decide)), key _ _ (by decide) (by decide) (fun t => absurd t.1 (by decide)) (fun t => absurd t.1 (by decide))]
    exact k4 r k a1 a2 a3
  · rw [key _ _ (by decide) (by decide) (by decide) (by decide), key _ _ (by decide) (by decide) (by decide) (by decide)]; exact hI.2.2.2
end FYQ
end
section
/-! fx: the law's case of feed, walked -/
theorem ax_Aq_i (z : Int) : ax_Aq (1, 0, 4294967295) (fI z) := Or.inr (Or.inr ⟨by show (1 : Nat) ≠ 0; decide, by show (1 : Nat) ≠ 2; decide, Int32.ofInt z, fI_eq z, Nat.zero_le _, by have := sx_b_lt (Int32.ofInt z); show sx_b (Int32.ofInt z) ≤ 4294967295; omega⟩)
theorem ax_As_6 {p : Nat} {a b c d e : Int} (hp : 2 ≤ p % 8 ∧ p % 8 ≤ 6 ∧ p < 1280 ∧ (p % 8 = 2 → p / 8 < 160)) : ax_As [(0, p, 0), (1, 0, 4294967295), (1, 0, 4294967295), (1, 0, 4294967295), (1, 0, 4294967295), (1, 0, 4294967295)] [p, fI a, fI b, fI c, fI d, fI e] :=
  ⟨Or.inl ⟨rfl, [], ax_V.ref ⟨hp.1, hp.2.1, (by show p < _; omega), hp.2.2.2⟩⟩, ax_Aq_i a, ax_Aq_i b, ax_Aq_i c, ax_Aq_i d, ax_Aq_i e, True.intro⟩
theorem f_n4_6 {p : Nat} {a b c d e : Int} (hp : p % 8 ≠ 4) : ∀ v ∈ [p, fI a, fI b, fI c, fI d, fI e], v % 8 ≠ 4 := fun v hv => by
  simp only [List.mem_cons, List.not_mem_nil, or_false] at hv
  rcases hv with rfl | rfl | rfl | rfl | rfl | rfl
  · exact hp
  all_goals exact fI_n4 _
section FYR
variable {W : ax_W} {g : Nat → Nat → Int} {Q : Nat → Nat → (Nat → Nat → Int) → Prop}
theorem law_0 {cW cM : ax_C} {r2 d : Nat} {s : Nat → Int} {i : Int} {x5 x6 : Nat} (hs : fScr W s) (hvW : ax_Valid W.N W.sy cW) (w1 : cW.1 = 14) (w2 : cW.2.2.1 = [(0, 2, 0), (1, 0, 4294967295), (1, 0, 4294967295), (1, 0, 4294967295), (1, 0, 4294967295), (1, 0, 4294967295)]) (w3 : cW.2.2.2.1 = []) (w4 : cW.2.1 ≤ 20)
    (hvM : ax_Valid W.N W.sy cM) (m1 : cM.1 = 263) (m2 : cM.2.2.1 = [(0, 1186, 0), (1, 0, 4294967295), (1, 0, 4294967295), (1, 0, 4294967295), (1, 0, 4294967295), (1, 0, 4294967295)]) (m3 : cM.2.2.2.1 = []) (m4 : cM.2.1 ≤ 20) (hd : 21 ≤ d) (hr : 1 ≤ r2) (hi0 : 0 ≤ i) (hi1 : i ≤ 3072) (hiN : i + 6 ≤ W.N) (hI : LInv g) (h5 : x5 % 8 ≠ 4) (h6 : x6 % 8 ≠ 4)
    (kq : ∀ g' x5 x6, LInv g' → x5 % 8 ≠ 4 → x6 % 8 ≠ 4 → fx W r2 d 0 23 [5, 2, 1186, 1274, fI (i + 6), x5, x6] [] g' Q) : fx W r2 d 0 300 [5, 2, 1186, 1274, fI i, x5, x6] [] g Q := by
  refine fx_LB hI.1 (fun hb => ?_)
  obtain ⟨L, hL⟩ : ∃ L : Nat, g 1 1 = (L : Int) := ⟨(g 1 1).toNat, by have := hb.1; omega⟩
  have hL4 : L ≤ 400 := by have := hb.1; omega
  have sr : ∀ k : Int, 0 ≤ k → k < W.N → fR (s k.toNat) := fun k k0 k1 => (hs.2 k.toNat (by omega)).1
  refine fx_la 1 301 (v := 2) (by decide +kernel) rfl (by decide +kernel) ?_
  refine fx_la 0 302 (v := 5) (by decide +kernel) rfl (by decide +kernel) ?_
  refine fx_li 4 304 (by decide +kernel) rfl ?_
  refine fx_ci (1) 305 (by decide +kernel) ?_
  refine fx_add 306 (by decide +kernel) rfl ?_
  refine fx_scr 307 hs (by decide +kernel) rfl (by omega) (by omega) ?_
  refine fx_la 0 308 (v := 5) (by decide +kernel) rfl (by decide +kernel) ?_
  refine fx_li 4 310 (by decide +kernel) rfl ?_
  refine fx_ci (2) 311 (by decide +kernel) ?_
  refine fx_add 312 (by decide +kernel) rfl ?_
  refine fx_scr 313 hs (by decide +kernel) rfl (by omega) (by omega) ?_
  refine fx_la 0 314 (v := 5) (by decide +kernel) rfl (by decide +kernel) ?_
  refine fx_li 4 316 (by decide +kernel) rfl ?_
  refine fx_ci (3) 317 (by decide +kernel) ?_
  refine fx_add 318 (by decide +kernel) rfl ?_
  refine fx_scr 319 hs (by decide +kernel) rfl (by omega) (by omega) ?_
  refine fx_la 0 320 (v := 5) (by decide +kernel) rfl (by decide +kernel) ?_
  refine fx_li 4 322 (by decide +kernel) rfl ?_
  refine fx_ci (4) 323 (by decide +kernel) ?_
  refine fx_add 324 (by decide +kernel) rfl ?_
  refine fx_scr 325 hs (by decide +kernel) rfl (by omega) (by omega) ?_
  refine fx_la 0 326 (v := 5) (by decide +kernel) rfl (by decide +kernel) ?_
  refine fx_li 4 328 (by decide +kernel) rfl ?_
  refine fx_ci (5) 329 (by decide +kernel) ?_
  refine fx_add 330 (by decide +kernel) rfl ?_
  refine fx_scr 331 hs (by decide +kernel) rfl (by omega) (by omega) ?_
  refine fx_c6 14 21 334 20 [] (by decide +kernel) (by decide) (by decide) (fI_n4 _) (fI_n4 _) (fI_n4 _) (fI_n4 _) (fI_n4 _) rfl (by first | decide | omega) ?_
  have wk : fx (fWl W 0) r2 20 14 0 [2, fI (s (i + 1).toNat), fI (s (i + 2).toNat), fI (s (i + 3).toNat), fI (s (i + 4).toNat), fI (s (i + 5).toNat)] [] g (fun k v g1 => (k = 1 ∧ v % 8 ≠ 4 ∧ PE L (fbs (s (i + 1).toNat) (s (i + 2).toNat) (s (i + 3).toNat) (s (i + 4).toNat) (s (i + 5).toNat)) g g1) ∧ gHs g1) := by
    rw [← w1]
    refine fx_hs (W := fWl W 0) (cav := [2, fI (s (i + 1).toNat), fI (s (i + 2).toNat), fI (s (i + 3).toNat), fI (s (i + 4).toNat), fI (s (i + 5).toNat)]) hvW hI.1 (by rw [w2]; exact ax_As_6 (by decide)) w3 (by rw [w1]; exact f_xp (f_n4_6 (by decide)) (show 6 ≤ _ by decide +kernel)) hr w4 ?_
    rw [w1]
    exact fx.up (sp_cfeed (sr _ (by omega) (by omega)) (sr _ (by omega) (by omega)) (sr _ (by omega) (by omega)) (sr _ (by omega) (by omega)) (sr _ (by omega) (by omega)) hL hL4 (fun t v n4 => ⟨rfl, n4, Or.inl ⟨t, rfl⟩⟩) (fun t v n4 => ⟨rfl, n4, Or.inr ⟨t, rfl⟩⟩)) (Nat.le_refl _) (by decide)
  refine wk.mono (fun k v g1 h => ?_)
  obtain ⟨⟨hk1, hv, hc⟩, hs1⟩ := h
  subst hk1
  refine fK1 ?_
  refine fx_pop 335 (by decide +kernel) rfl hv ?_
  have hl2 : g1 148 8 = (L : Int) := by
    rw [← hL, hI.2.2.1]
    rcases hc with ⟨-, e⟩ | ⟨-, e⟩
    · rw [e]
    · rw [e, ffd_ne (by decide) (by decide)]
  refine fx_la 2 336 (v := 1186) (by decide +kernel) rfl (by decide +kernel) ?_
  refine fx_la 0 337 (v := 5) (by decide +kernel) rfl (by decide +kernel) ?_
  refine fx_li 4 339 (by decide +kernel) rfl ?_
  refine fx_ci (1) 340 (by decide +kernel) ?_
  refine fx_add 341 (by decide +kernel) rfl ?_
  refine fx_scr 342 hs (by decide +kernel) rfl (by omega) (by omega) ?_
  refine fx_la 0 343 (v := 5) (by decide +kernel) rfl (by decide +kernel) ?_
  refine fx_li 4 345 (by decide +kernel) rfl ?_
  refine fx_ci (2) 346 (by decide +kernel) ?_
  refine fx_add 347 (by decide +kernel) rfl ?_
  refine fx_scr 348 hs (by decide +kernel) rfl (by omega) (by omega) ?_
  refine fx_la 0 349 (v := 5) (by decide +kernel) rfl (by decide +kernel) ?_
  refine fx_li 4 351 (by decide +kernel) rfl ?_
  refine fx_ci (3) 352 (by decide +kernel) ?_
  refine fx_add 353 (by decide +kernel) rfl ?_
  refine fx_scr 354 hs (by decide +kernel) rfl (by omega) (by omega) ?_
  refine fx_la 0 355 (v := 5) (by decide +kernel) rfl (by decide +kernel) ?_
  refine fx_li 4 357 (by decide +kernel) rfl ?_
  refine fx_ci (4) 358 (by decide +kernel) ?_
  refine fx_add 359 (by decide +kernel) rfl ?_
  refine fx_scr 360 hs (by decide +kernel) rfl (by omega) (by omega) ?_
  refine fx_la 0 361 (v := 5) (by decide +kernel) rfl (by decide +kernel) ?_
  refine fx_li 4 363 (by decide +kernel) rfl ?_
  refine fx_ci (5) 364 (by decide +kernel) ?_
  refine fx_add 365 (by decide +kernel) rfl ?_
  refine fx_scr 366 hs (by decide +kernel) rfl (by omega) (by omega) ?_
  refine fx_c6 263 21 369 20 [7, 7] (by decide +kernel) (by decide) (by decide) (fI_n4 _) (fI_n4 _) (fI_n4 _) (fI_n4 _) (fI_n4 _) rfl (by first | decide | omega) ?_
  have mk : fx (fWl W 0) r2 20 263 0 [1186, fI (s (i + 1).toNat), fI (s (i + 2).toNat), fI (s (i + 3).toNat), fI (s (i + 4).toNat), fI (s (i + 5).toNat), 7, 7] [] g1 (fun k v g2 => (k = 1 ∧ v % 8 ≠ 4 ∧ PF L (fbs (s (i + 1).toNat) (s (i + 2).toNat) (s (i + 3).toNat) (s (i + 4).toNat) (s (i + 5).toNat)) g1 g2) ∧ gHs g2) := by
    rw [← m1]
    refine fx_hs (W := fWl W 0) (cav := [1186, fI (s (i + 1).toNat), fI (s (i + 2).toNat), fI (s (i + 3).toNat), fI (s (i + 4).toNat), fI (s (i + 5).toNat)]) hvM hs1 (by rw [m2]; exact ax_As_6 (by decide)) m3 (by rw [m1]; exact f_xp (f_n4_6 (by decide)) (show 6 ≤ _ by decide +kernel)) hr m4 ?_
    rw [m1]
    exact fx.up (sp_mfeed (sr _ (by omega) (by omega)) (sr _ (by omega) (by omega)) (sr _ (by omega) (by omega)) (sr _ (by omega) (by omega)) (sr _ (by omega) (by omega)) hl2 hL4 (fun t v n4 => ⟨rfl, n4, Or.inl ⟨t, rfl⟩⟩) (fun t v n4 => ⟨rfl, n4, Or.inr ⟨t, rfl⟩⟩)) (Nat.le_refl _) (by decide)
  refine mk.mono (fun k v g2 h => ?_)
  obtain ⟨⟨hk3, hv2, hc2⟩, hs2⟩ := h
  subst hk3
  refine fK1 ?_
  refine fx_pop 370 (by decide +kernel) rfl hv2 ?_
  obtain ⟨r1, r2', r3⟩ := feed_both hI hL hc hc2
  refine fx_go 1962 (by decide +kernel) ?_
  refine fx_inc 4 1965 6 (by decide +kernel) rfl (Or.inr (f_n4p (v := 1274) rfl (by decide))) rfl ?_
  dsimp only [List.set]
  exact fx_go 23 (by decide +kernel) (kq g2 x5 x6 ⟨hs2, r1, r2', r3⟩ h5 h6)
end FYR
end
section
/-! fx: what is put aside comes back -/
theorem gHs_fu {g : Nat → Nat → Int} {c j e : Nat} {z : Int} (hg : gHs g) (hc : c < 160) (hj : j < (ax_cl c).1 / 256) (hi : fInt c j = true) (hp : fPtr c j = 0) (hs : ax_sg (ax_cl c).2.2 (j % (ax_cl c).2.1) (j % (ax_cl c).2.1) = some (e, 0, 0, 4294967295, 0, 0)) (r0 : fR (g c j)) (hz : fR z) : gHs (fu g c j z) := fun h v => by
  have v1 := v.put hc hj hi hp r0
  rw [fu_fu, fu_self] at v1
  have q := hg _ v1
  refine ⟨v.1, fun c' j' hc' hj' => ?_⟩
  by_cases t : c' = c ∧ j' = j
  · obtain ⟨rfl, rfl⟩ := t
    refine ⟨_, hs, Or.inl ⟨rfl, Int32.ofInt z, ?_, Nat.zero_le _, ?_⟩⟩
    · rw [(v.2 c' j' hc' hj').1]
      unfold fEnc
      rw [if_pos hi, fu_eq, fI_eq]
    · have := sx_b_lt (Int32.ofInt z)
      show sx_b (Int32.ofInt z) ≤ 4294967295
      omega
  · have e : sx_get (sx_rd h c').2 j' = sx_get (sx_rd (sx_wr h c ((sx_rd h c).1, sx_set (sx_rd h c).2 j (fI (g c j)))) c').2 j' := by rw [(v.2 c' j' hc' hj').1, (v1.2 c' j' hc' hj').1, fu_ne t]
    rw [e]
    exact q.pk c' j' hc' hj'
theorem ax_Aq_r {z : Int} {lo hi : Nat} (hz : fR z) (h1 : (lo : Int) ≤ z + 2147483648) (h2 : z + 2147483648 ≤ (hi : Int)) : ax_Aq (1, lo, hi) (fI z) := Or.inr (Or.inr ⟨by show (1 : Nat) ≠ 0; decide, by show (1 : Nat) ≠ 2; decide, Int32.ofInt z, fI_eq z, by have := fI_b hz; show lo ≤ _; omega, by have := fI_b hz; show _ ≤ hi; omega⟩)
theorem ax_Aq_m : ax_Aq (0, 1186, 0) 1186 := Or.inl ⟨rfl, [], ax_V.ref ⟨by decide, by decide, by decide, by decide⟩⟩
theorem f_n4_1 {p : Nat} (hp : p % 8 ≠ 4) : ∀ v ∈ [p], v % 8 ≠ 4 := fun v hv => by
  simp only [List.mem_cons, List.not_mem_nil, or_false] at hv
  subst hv
  exact hp
theorem f_n4_2 {p : Nat} {a : Int} (hp : p % 8 ≠ 4) : ∀ v ∈ [p, fI a], v % 8 ≠ 4 := fun v hv => by
  simp only [List.mem_cons, List.not_mem_nil, or_false] at hv
  rcases hv with rfl | rfl
  · exact hp
  · exact fI_n4 _
theorem f_n4_3 {p : Nat} {a b : Int} (hp : p % 8 ≠ 4) : ∀ v ∈ [p, fI a, fI b], v % 8 ≠ 4 := fun v hv => by
  simp only [List.mem_cons, List.not_mem_nil, or_false] at hv
  rcases hv with rfl | rfl | rfl
  · exact hp
  · exact fI_n4 _
  · exact fI_n4 _
/-- a contract that leaves what is put aside -/
def KC (N : Nat) (sy : sx_Y) (mi : Nat) (as : List (Nat × Nat × Nat)) (d : Nat) (c : ax_C) : Prop := ax_Valid N sy c ∧ c.1 = mi ∧ c.2.2.1 = as ∧ c.2.2.2.1 = [] ∧ c.2.1 ≤ d ∧ ax_tb c.2.2.2.2.1 (ax_bit true 151 0) = false ∧ ∀ t ∈ c.2.2.2.2.2.2, t.1 = 1 ∧ t.2.1 = 1
def KD (N : Nat) (sy : sx_Y) (mi : Nat) (d : Nat) (c : ax_C) : Prop := ax_Valid N sy c ∧ c.1 = mi ∧ c.2.2.1 = [(0, 1186, 0)] ∧ c.2.2.2.1 = [] ∧ c.2.1 ≤ d
def KA (g0 g : Nat → Nat → Int) : Prop := gHs g ∧ ∀ j, j < 364 → g 151 j = g0 149 j
theorem KA_fu {g g' : Nat → Nat → Int} {c j : Nat} {z : Int} (hc : 149 ≠ c) (h : KA (fu g c j z) g') : KA g g' := ⟨h.1, fun k hk => by rw [h.2 k hk, fu_nc hc]⟩
section FYS
variable {W : ax_W} {r : Nat} {g : Nat → Nat → Int} {Q : Nat → Nat → (Nat → Nat → Int) → Prop}
theorem fx_ka {c : ax_C} {d mi : Nat} {as : List (Nat × Nat × Nat)} {cav Lj : List Nat} {g0 : Nat → Nat → Int} (hc : KC W.N W.sy mi as d c) (hg : KA g0 g) (ha : ax_As as cav) (hx : sx_xp cav (sx_im (sx_mt mi).2) = some Lj) (hr : 1 ≤ r) (kq : ∀ z g', fR z → KA g0 g' → Q 1 (fI z) g') : fx W r d mi 0 Lj [] g Q := by
  obtain ⟨c1, c2, c3, c4, c5, c6, c7⟩ := hc
  subst c2 c3
  refine fx_val c1 hg.1 ha c4 hx hr c5 (fun t ht => by have := (c7 t ht).1; omega) (fun t ht k v g' hk h1 h2 h3 => ?_)
  obtain ⟨t1, t2⟩ := c7 t ht
  obtain ⟨z, e, rz, -⟩ := h3 t2
  subst e
  rw [hk, t1]
  refine kq z g' rz ⟨h1, fun j hj => ?_⟩
  have l : (ax_cl 151).1 / 256 = 364 := by decide +kernel
  rw [h2 151 j (by decide) (by omega) (f_okp (c := 151) (j := j) (by decide) (by decide +kernel)).1 (by
    have a : ax_ar 151 = true := by decide +kernel
    rw [a]
    exact c6)]
  exact hg.2 j hj
theorem sp_puts_1 (kq : ∀ g', g' = fcpn g 149 151 364 → Q 0 0 g') : ∀ (n k : Nat), k + n = 364 → fx W r 0 267 2 [1186, fI (k : Int)] [] (fcpn g 149 151 k) Q
  | n, k, hn => by
    refine fx_rg (fun hg => ?_)
    refine fx_li 1 3 (by decide +kernel) rfl ?_
    refine fx_ci (364) 6 (by decide +kernel) ?_
    refine fx_ige 27 9 (by decide +kernel) (by unfold fR; omega) (by unfold fR; omega) (fun h6 => ?_) (fun h6 => ?_)
    · refine fx_vret (by decide +kernel) ?_
      have e : k = 364 := by omega
      subst e
      exact kq _ rfl
    · refine fx_la 0 10 (v := 1186) (by decide +kernel) rfl (by decide +kernel) ?_
      refine fx_gp 1186 148 4 1210 13 (by decide +kernel) ?_
      refine fx_li 1 14 (by decide +kernel) rfl ?_
      refine fx_la 0 15 (v := 1186) (by decide +kernel) rfl (by decide +kernel) ?_
      refine fx_gp 1186 148 1 1194 18 (by decide +kernel) ?_
      refine fx_li 1 19 (by decide +kernel) rfl ?_
      refine fx_al 1194 149 764 20 (by decide +kernel) rfl (by omega) (by omega) rfl ?_
      have hv := hgA hg 764 (c := 149) (j := k) (by decide +kernel) (by omega)
      rw [show ((k : Int)).toNat = k from rfl]
      rw [fcpn_nc (by decide)] at hv ⊢
      unfold fR at hv
      refine fx_as 1210 151 364 21 (by decide +kernel) rfl (by omega) (by omega) rfl (by unfold fR; omega) ?_
      rw [show ((k : Int)).toNat = k from rfl, fcpn_s]
      refine fx_inc 1 24 (1) (by decide +kernel) rfl (Or.inr (f_n4p (v := 1186) rfl (by decide))) rfl ?_
      dsimp only [List.set]
      refine fx_go 2 (by decide +kernel) ?_
      match n, hn with
      | 0, hn => exfalso; omega
      | n + 1, hn => exact sp_puts_1 kq n (k + 1) (by omega)
theorem sp_puts (kq : Q 0 0 (fcpn g 149 151 364)) : fx W r 0 267 0 [1186, 7] [] g Q := by
  refine fx_ci (0) 1 (by decide +kernel) ?_
  refine fx_si 1 2 (by decide +kernel) (Or.inr (f_n4p (v := 1186) rfl (by decide))) rfl ?_
  dsimp only [List.set]
  have st := sp_puts_1 (W := W) (r := r) (Q := Q) (g := g) (fun g' e => by subst e; exact kq) 364 0 rfl
  rw [fcpn_0] at st
  exact st
theorem sp_comes_1 (kq : ∀ g', g' = fcpn g 151 149 364 → Q 0 0 g') : ∀ (n k : Nat), k + n = 364 → fx W r 0 293 2 [1186, fI (k : Int)] [] (fcpn g 151 149 k) Q
  | n, k, hn => by
    refine fx_rg (fun hg => ?_)
    refine fx_li 1 3 (by decide +kernel) rfl ?_
    refine fx_ci (364) 6 (by decide +kernel) ?_
    refine fx_ige 27 9 (by decide +kernel) (by unfold fR; omega) (by unfold fR; omega) (fun h6 => ?_) (fun h6 => ?_)
    · refine fx_vret (by decide +kernel) ?_
      have e : k = 364 := by omega
      subst e
      exact kq _ rfl
    · refine fx_la 0 10 (v := 1186) (by decide +kernel) rfl (by decide +kernel) ?_
      refine fx_gp 1186 148 1 1194 13 (by decide +kernel) ?_
      refine fx_li 1 14 (by decide +kernel) rfl ?_
      refine fx_la 0 15 (v := 1186) (by decide +kernel) rfl (by decide +kernel) ?_
      refine fx_gp 1186 148 4 1210 18 (by decide +kernel) ?_
      refine fx_li 1 19 (by decide +kernel) rfl ?_
      refine fx_al 1210 151 364 20 (by decide +kernel) rfl (by omega) (by omega) rfl ?_
      have hv := hgA hg 364 (c := 151) (j := k) (by decide +kernel) (by omega)
      rw [show ((k : Int)).toNat = k from rfl]
      rw [fcpn_nc (by decide)] at hv ⊢
      unfold fR at hv
      refine fx_as 1194 149 764 21 (by decide +kernel) rfl (by omega) (by omega) rfl (by unfold fR; omega) ?_
      rw [show ((k : Int)).toNat = k from rfl, fcpn_s]
      refine fx_inc 1 24 (1) (by decide +kernel) rfl (Or.inr (f_n4p (v := 1186) rfl (by decide))) rfl ?_
      dsimp only [List.set]
      refine fx_go 2 (by decide +kernel) ?_
      match n, hn with
      | 0, hn => exfalso; omega
      | n + 1, hn => exact sp_comes_1 kq n (k + 1) (by omega)
theorem sp_comes (kq : Q 0 0 (fcpn g 151 149 364)) : fx W r 0 293 0 [1186, 7] [] g Q := by
  refine fx_ci (0) 1 (by decide +kernel) ?_
  refine fx_si 1 2 (by decide +kernel) (Or.inr (f_n4p (v := 1186) rfl (by decide))) rfl ?_
  dsimp only [List.set]
  have st := sp_comes_1 (W := W) (r := r) (Q := Q) (g := g) (fun g' e => by subst e; exact kq) 364 0 rfl
  rw [fcpn_0] at st
  exact st
theorem ka_puts2 {c : ax_C} {d : Nat} (hc : KD W.N W.sy 267 d c) (hg : gHs g) (hr : 1 ≤ r) (kq : ∀ g', KA g g' → (∀ j, j < 364 → g' 149 j = g 149 j) → Q 0 0 g') : fx W r d 267 0 [1186, 7] [] g Q := by
  obtain ⟨c1, c2, c3, c4, c5⟩ := hc
  have wk : fx W r d 267 0 [1186, 7] [] g (fun k v g' => (k = 0 ∧ v = 0 ∧ g' = fcpn g 149 151 364) ∧ gHs g') := by
    rw [← c2]
    refine fx_hs (cav := [1186]) c1 hg (by rw [c3]; exact ⟨ax_Aq_m, True.intro⟩) c4 (by rw [c2]; exact f_xp (f_n4_1 (by decide)) (show 1 ≤ _ by decide +kernel)) hr c5 ?_
    rw [c2]
    exact fx.up (sp_puts ⟨rfl, rfl, rfl⟩) (Nat.le_refl _) (Nat.zero_le _)
  refine wk.mono (fun k v g' h => ?_)
  obtain ⟨⟨rfl, rfl, e⟩, h2⟩ := h
  refine kq g' ⟨h2, fun j hj => ?_⟩ (fun j hj => ?_)
  · rw [e]
    exact if_pos ⟨rfl, hj⟩
  · rw [e, fcpn_nc (by decide)]
theorem ka_puts {c : ax_C} {d : Nat} (hc : KD W.N W.sy 267 d c) (hg : gHs g) (hr : 1 ≤ r) (kq : ∀ g', KA g g' → Q 0 0 g') : fx W r d 267 0 [1186, 7] [] g Q := ka_puts2 hc hg hr (fun g' h _ => kq g' h)
theorem ka_comes {c : ax_C} {d : Nat} {g0 : Nat → Nat → Int} (hc : KD W.N W.sy 293 d c) (hg : KA g0 g) (hr : 1 ≤ r) (kq : ∀ g', KA g0 g' → (∀ j, j < 364 → g' 149 j = g0 149 j) → Q 0 0 g') : fx W r d 293 0 [1186, 7] [] g Q := by
  obtain ⟨c1, c2, c3, c4, c5⟩ := hc
  have wk : fx W r d 293 0 [1186, 7] [] g (fun k v g' => (k = 0 ∧ v = 0 ∧ g' = fcpn g 151 149 364) ∧ gHs g') := by
    rw [← c2]
    refine fx_hs (cav := [1186]) c1 hg.1 (by rw [c3]; exact ⟨ax_Aq_m, True.intro⟩) c4 (by rw [c2]; exact f_xp (f_n4_1 (by decide)) (show 1 ≤ _ by decide +kernel)) hr c5 ?_
    rw [c2]
    exact fx.up (sp_comes ⟨rfl, rfl, rfl⟩) (Nat.le_refl _) (Nat.zero_le _)
  refine wk.mono (fun k v g' h => ?_)
  obtain ⟨⟨rfl, rfl, e⟩, h2⟩ := h
  refine kq g' ⟨h2, fun j hj => ?_⟩ (fun j hj => ?_)
  · rw [e, fcpn_nc (by decide)]
    exact hg.2 j hj
  · rw [e]
    refine Eq.trans (if_pos ⟨rfl, hj⟩) (hg.2 j hj)
theorem sp_isPerson {v : Int} (hv : fR v) (h0 : 0 ≤ g 149 3) (h1 : g 149 3 ≤ 8) (k1 : 0 ≤ v ∧ v ≤ 7 → Q 1 (fI 1) g) (k2 : Q 1 (fI 0) g) : fx W r 1 297 0 [1186, fI v] [] g Q := by
  refine fx_li 1 1 (by decide +kernel) rfl ?_
  refine fx_ci (0) 2 (by decide +kernel) ?_
  refine fx_la 0 3 (v := 1186) (by decide +kernel) rfl (by decide +kernel) ?_
  refine fx_gp 1186 148 1 1194 6 (by decide +kernel) ?_
  refine fx_ci (3) 7 (by decide +kernel) ?_
  refine fx_al 1194 149 764 8 (by decide +kernel) rfl (by omega) (by omega) rfl ?_
  try simp only [fu_app, fcy_app, Nat.reduceEqDiff, and_true, and_false, false_and, true_and, if_true, if_false, ite_true, ite_false, reduceIte, Int.reduceToNat, fx_simp0]
  refine fx_ci (1) 9 (by decide +kernel) ?_
  refine fx_sub 10 (by decide +kernel) rfl ?_
  refine fx_c3 265 22 13 0 [] (f_q22 (by decide +kernel)) (by decide) (fI_n4 _) (fI_n4 _) (fI_n4 _) rfl (by first | decide | omega) ?_
  refine sp_isIn hv (by unfold fR; omega) (by unfold fR; omega) (fun t => fK1 ?_) (fun t => fK1 ?_)
  · refine fx_retb (by decide +kernel) (by first | exact Or.inl rfl | exact Or.inr rfl | omega) ?_
    exact k1 (by omega)
  · refine fx_retb (by decide +kernel) (by first | exact Or.inl rfl | exact Or.inr rfl | omega) ?_
    exact k2
theorem sp_isNights {v : Int} (hv : fR v) (k1 : 0 ≤ v ∧ v ≤ 60 → Q 1 (fI 1) g) (k2 : Q 1 (fI 0) g) : fx W r 1 397 0 [fI v] [] g Q := by
  refine fx_li 0 1 (by decide +kernel) rfl ?_
  refine fx_ci (0) 2 (by decide +kernel) ?_
  refine fx_ci (60) 4 (by decide +kernel) ?_
  refine fx_c3 265 22 7 0 [] (f_q22 (by decide +kernel)) (by decide) (fI_n4 _) (fI_n4 _) (fI_n4 _) rfl (by first | decide | omega) ?_
  refine sp_isIn hv (by unfold fR; omega) (by unfold fR; omega) (fun t => fK1 ?_) (fun t => fK1 ?_)
  · refine fx_retb (by decide +kernel) (by first | exact Or.inl rfl | exact Or.inr rfl | omega) ?_
    exact k1 t
  · refine fx_retb (by decide +kernel) (by first | exact Or.inl rfl | exact Or.inr rfl | omega) ?_
    exact k2
theorem sp_greater {v w : Int} (hv : fR v) (hw : fR w) (kq : ∀ z, fR z → Q 1 (fI z) g) : fx W r 0 316 0 [fI v, fI w] [] g Q := by
  have hv2 := hv
  have hw2 := hw
  unfold fR at hv2 hw2
  refine fx_li 0 1 (by decide +kernel) rfl ?_
  refine fx_li 1 2 (by decide +kernel) rfl ?_
  refine fx_ile 9 5 (by decide +kernel) (by unfold fR; omega) (by unfold fR; omega) (fun h2 => ?_) (fun h2 => ?_)
  · refine fx_li 1 10 (by decide +kernel) rfl ?_
    refine fx_ret (by decide +kernel) ?_
    exact kq _ hw
  · refine fx_li 0 6 (by decide +kernel) rfl ?_
    refine fx_go 10 (by decide +kernel) ?_
    refine fx_ret (by decide +kernel) ?_
    exact kq _ hv
theorem sp_lesser {v w : Int} (hv : fR v) (hw : fR w) (kq : ∀ z, fR z → Q 1 (fI z) g) : fx W r 0 321 0 [fI v, fI w] [] g Q := by
  have hv2 := hv
  have hw2 := hw
  unfold fR at hv2 hw2
  refine fx_li 0 1 (by decide +kernel) rfl ?_
  refine fx_li 1 2 (by decide +kernel) rfl ?_
  refine fx_ige 9 5 (by decide +kernel) (by unfold fR; omega) (by unfold fR; omega) (fun h2 => ?_) (fun h2 => ?_)
  · refine fx_li 1 10 (by decide +kernel) rfl ?_
    refine fx_ret (by decide +kernel) ?_
    exact kq _ hw
  · refine fx_li 0 6 (by decide +kernel) rfl ?_
    refine fx_go 10 (by decide +kernel) ?_
    refine fx_ret (by decide +kernel) ?_
    exact kq _ hv
theorem gHs_m3 {h : sx_H} (q : ax_Hs h) (v : HV h g) : 0 ≤ g 149 3 ∧ g 149 3 ≤ 8 := Hs_b q v 149 3 0 8 (by decide +kernel) (4, 0, 2147483648, 2147483656, 0, 0) (by decide +kernel) rfl rfl rfl
theorem fx_m3 {d mi pc : Nat} {L S : List Nat} (hg : gHs g) (k : 0 ≤ g 149 3 ∧ g 149 3 ≤ 8 → fx W r d mi pc L S g Q) : fx W r d mi pc L S g Q := fun D h cs ss hD v => k (gHs_m3 (hg h v) v) D h cs ss hD v
end FYS
end
section
/-! fx: starves, ahead, trial, span leave m as it was -/
section FYT
variable {W : ax_W} {r dd : Nat} {g : Nat → Nat → Int} {Q : Nat → Nat → (Nat → Nat → Int) → Prop} {cP cB cI cG cM cO cC cT cA : ax_C}
theorem gHs_th {z : Int} (hg : gHs g) (h0 : fR (g 148 0)) (hz : fR z) : gHs (fu g 148 0 z) := gHs_fu hg (by decide) (by decide +kernel) (by decide +kernel) (by decide +kernel) (e := 1) (by decide +kernel) h0 hz
theorem gHs_11 {z : Int} (hg : gHs g) (h0 : fR (g 149 11)) (hz : fR z) : gHs (fu g 149 11 z) := gHs_fu hg (by decide) (by decide +kernel) (by decide +kernel) (by decide +kernel) (e := 12) (by decide +kernel) h0 hz
theorem as_1 : ax_As [(0, 1186, 0)] [1186] := ⟨ax_Aq_m, True.intro⟩
theorem as_p {v : Int} (h0 : 0 ≤ v) (h1 : v ≤ 7) : ax_As [(0, 1186, 0), (1, 2147483648, 2147483655)] [1186, fI v] := ⟨ax_Aq_m, ax_Aq_r (by unfold fR; omega) (by omega) (by omega), True.intro⟩
theorem as_g {v w : Int} (h0 : 0 ≤ v) (h1 : v ≤ 60) (h2 : 0 ≤ w) (h3 : w ≤ 1) : ax_As [(0, 1186, 0), (1, 2147483648, 2147483708), (1, 2147483648, 2147483649)] [1186, fI v, fI w] := ⟨ax_Aq_m, ax_Aq_r (by unfold fR; omega) (by omega) (by omega), ax_Aq_r (by unfold fR; omega) (by omega) (by omega), True.intro⟩
theorem as_o {v w : Int} (h0 : 0 ≤ v) (h1 : v ≤ 7) (h2 : 0 ≤ w) (h3 : w ≤ 6) : ax_As [(0, 1186, 0), (1, 2147483648, 2147483655), (1, 2147483648, 2147483654)] [1186, fI v, fI w] := ⟨ax_Aq_m, ax_Aq_r (by unfold fR; omega) (by omega) (by omega), ax_Aq_r (by unfold fR; omega) (by omega) (by omega), True.intro⟩
theorem sp_starves_2 {g0 : Nat → Nat → Int} {v a : Int} {x3 x4 : Nat} (hr : 1 ≤ r) (kB : KD W.N W.sy 293 dd cB) (kq : ∀ v g', (∀ j, j < 364 → g' 149 j = g0 149 j) → Q 1 v g') (hg : KA g0 g) : fx W r (dd + 1) 393 77 [1186, fI v, fI a, x3, x4] [] g Q := by
  refine fx_la 0 78 (v := 1186) (by decide +kernel) rfl (by decide +kernel) ?_
  refine fx_c1 293 21 81 dd [7] (by decide +kernel) (by decide) rfl (by first | decide | omega) ?_
  refine ka_comes (W := fWl W 0) kB hg hr (fun g1 h1 h2 => fK0 ?_)
  refine fx_li 2 82 (by decide +kernel) rfl ?_
  refine fx_ret (by decide +kernel) ?_
  exact kq _ _ h2
theorem sp_starves_1 {g0 : Nat → Nat → Int} {v : Int} (hr : 1 ≤ r) (v0 : 0 ≤ v) (v1 : v ≤ 7) (kB : KD W.N W.sy 293 dd cB) (kI : KC W.N W.sy 300 [(0, 1186, 0), (1, 2147483648, 2147483655)] dd cI) (kG : KC W.N W.sy 337 [(0, 1186, 0), (1, 2147483648, 2147483708), (1, 2147483648, 2147483649)] dd cG) (kM : KC W.N W.sy 299 [(0, 1186, 0), (1, 2147483648, 2147483655)] dd cM)
    (kq : ∀ v g', (∀ j, j < 364 → g' 149 j = g0 149 j) → Q 1 v g') : ∀ (n k : Nat) (a : Int) (x4 : Nat) (g : Nat → Nat → Int), k + n = 61 → fR a → KA g0 g → fx W r (dd + 1) 393 34 [1186, fI v, fI a, fI (k : Int), x4] [] g Q
  | n, k, a, x4, g, hn, ha, hg => by
    have ha2 := ha
    unfold fR at ha2
    refine fx_li 3 35 (by decide +kernel) rfl ?_
    refine fx_ci (60) 37 (by decide +kernel) ?_
    refine fx_igt 77 40 (by decide +kernel) (by unfold fR; omega) (by unfold fR; omega) (fun h37 => ?_) (fun h37 => ?_)
    · exact sp_starves_2 hr kB kq hg
    · refine fx_li 2 41 (by decide +kernel) rfl ?_
      refine fx_cn (-1) 42 (by decide +kernel) (fun v41 c41 => ?_)
      refine fx_ine 77 45 (by decide +kernel) (by unfold fR; omega) (by unfold fR; omega) (fun h42 => ?_) (fun h42 => ?_)
      · exact sp_starves_2 hr kB kq hg
      · refine fx_la 0 46 (v := 1186) (by decide +kernel) rfl (by decide +kernel) ?_
        refine fx_li 1 47 (by decide +kernel) rfl ?_
        refine fx_c2 300 21 50 dd [] (by decide +kernel) (by decide) (by decide) (fI_n4 _) rfl (by first | decide | omega) ?_
        refine fx_ka (W := fWl W 0) kI hg (as_p v0 v1) (f_xp (f_n4_2 (by decide)) (show 2 ≤ _ by decide +kernel)) hr (fun z1 g1 r1 hg1 => fK1 ?_)
        unfold fR at r1
        refine fx_zeq 77 53 (by decide +kernel) (by unfold fR; omega) (fun h50 => ?_) (fun h50 => ?_)
        · exact sp_starves_2 hr kB kq hg1
        · refine fx_la 0 54 (v := 1186) (by decide +kernel) rfl (by decide +kernel) ?_
          refine fx_ci (1) 55 (by decide +kernel) ?_
          refine fx_ci (0) 56 (by decide +kernel) ?_
          refine fx_c3 337 21 59 dd [7, 7] (by decide +kernel) (by decide) (by decide) (fI_n4 _) (fI_n4 _) rfl (by first | decide | omega) ?_
          refine fx_ka (W := fWl W 0) kG hg1 (as_g (by decide) (by decide) (by decide) (by decide)) (f_xp (f_n4_3 (by decide)) (show 3 ≤ _ by decide +kernel)) hr (fun z2 g2 r2 hg2 => fK1 ?_)
          refine fx_si 4 61 (by decide +kernel) (Or.inr (fI_n4 _)) rfl ?_
          dsimp only [List.set]
          refine fx_la 0 62 (v := 1186) (by decide +kernel) rfl (by decide +kernel) ?_
          refine fx_li 1 63 (by decide +kernel) rfl ?_
          refine fx_c2 299 21 66 dd [] (by decide +kernel) (by decide) (by decide) (fI_n4 _) rfl (by first | decide | omega) ?_
          refine fx_ka (W := fWl W 0) kM hg2 (as_p v0 v1) (f_xp (f_n4_2 (by decide)) (show 2 ≤ _ by decide +kernel)) hr (fun z3 g3 r3 hg3 => fK1 ?_)
          unfold fR at r3
          refine fx_zeq 71 69 (by decide +kernel) (by unfold fR; omega) (fun h66 => ?_) (fun h66 => ?_)
          · refine fx_inc 3 74 (1) (by decide +kernel) rfl (Or.inr (fI_n4 _)) rfl ?_
            dsimp only [List.set]
            refine fx_go 34 (by decide +kernel) ?_
            match n, hn with
            | 0, hn => exfalso; omega
            | n + 1, hn => exact sp_starves_1 hr v0 v1 kB kI kG kM kq n (k + 1) a _ g3 (by omega) ha hg3
          · refine fx_li 3 70 (by decide +kernel) rfl ?_
            refine fx_si 2 71 (by decide +kernel) (Or.inr (fI_n4 _)) rfl ?_
            dsimp only [List.set]
            refine fx_inc 3 74 (1) (by decide +kernel) rfl (Or.inr (fI_n4 _)) rfl ?_
            dsimp only [List.set]
            refine fx_go 34 (by decide +kernel) ?_
            match n, hn with
            | 0, hn => exfalso; omega
            | n + 1, hn => exact sp_starves_1 hr v0 v1 kB kI kG kM kq n (k + 1) (k : Int) _ g3 (by omega) (by unfold fR; omega) hg3
theorem sp_starves {v : Int} (h3 : 3 ≤ dd) (hr : 1 ≤ r) (hv : fR v) (hg : gHs g) (kP : KD W.N W.sy 267 dd cP) (kB : KD W.N W.sy 293 dd cB) (kI : KC W.N W.sy 300 [(0, 1186, 0), (1, 2147483648, 2147483655)] dd cI) (kG : KC W.N W.sy 337 [(0, 1186, 0), (1, 2147483648, 2147483708), (1, 2147483648, 2147483649)] dd cG) (kM : KC W.N W.sy 299 [(0, 1186, 0), (1, 2147483648, 2147483655)] dd cM)
    (kq : ∀ v g', (∀ j, j < 364 → g' 149 j = g 149 j) → Q 1 v g') : fx W r (dd + 1) 393 0 [1186, fI v, 7, 7, 7] [] g Q := by
  refine fx_m3 hg (fun b3 => ?_)
  refine fx_rg (fun hr0 => ?_)
  have r0 := hr0 148 0 (by decide) (by decide +kernel) (by decide +kernel)
  refine fx_la 0 1 (v := 1186) (by decide +kernel) rfl (by decide +kernel) ?_
  refine fx_la 0 2 (v := 1186) (by decide +kernel) rfl (by decide +kernel) ?_
  refine fx_li 1 3 (by decide +kernel) rfl ?_
  refine fx_c2 297 21 6 1 [] (by decide +kernel) (by decide) (by decide) (fI_n4 _) rfl (by first | decide | omega) ?_
  refine sp_isPerson hv b3.1 b3.2 (fun t => fK1 ?_) (fK1 ?_)
  · refine fx_zne 13 9 (by decide +kernel) (by unfold fR; omega) (fun _ => ?_) (fun hc => absurd hc (by decide))
    refine fx_ci (0) 14 (by decide +kernel) ?_
    refine fx_pi 1186 148 0 17 (by decide +kernel) (by unfold fR; omega) ?_
    refine fx_la 0 18 (v := 1186) (by decide +kernel) rfl (by decide +kernel) ?_
    refine fx_gi 1186 148 0 21 (by decide +kernel) ?_
    try simp only [fu_app, fcy_app, Nat.reduceEqDiff, and_true, and_false, false_and, true_and, if_true, if_false, ite_true, ite_false, reduceIte, Int.reduceToNat, fx_simp0]
    refine fx_zle 26 24 (by decide +kernel) (by unfold fR; omega) (fun h21 => ?_) (fun h21 => ?_)
    · refine fx_la 0 27 (v := 1186) (by decide +kernel) rfl (by decide +kernel) ?_
      refine fx_c1 267 21 30 dd [7] (by decide +kernel) (by decide) rfl (by first | decide | omega) ?_
      refine ka_puts (W := fWl W 0) kP (gHs_th hg r0 (by unfold fR; omega)) hr (fun g2 h2 => fK0 ?_)
      refine fx_cn (-1) 31 (by decide +kernel) (fun v30 c30 => ?_)
      refine fx_si 2 32 (by decide +kernel) (Or.inr (fI_n4 _)) rfl ?_
      dsimp only [List.set]
      refine fx_ci (1) 33 (by decide +kernel) ?_
      refine fx_si 3 34 (by decide +kernel) (Or.inr (fI_n4 _)) rfl ?_
      dsimp only [List.set]
      exact sp_starves_1 hr t.1 t.2 kB kI kG kM kq 60 1 _ _ _ rfl (by unfold fR; omega) (KA_fu (by decide) h2)
    · refine fx_ci (0) 25 (by decide +kernel) ?_
      refine fx_ret (by decide +kernel) ?_
      exact kq _ _ (fun j hj => fu_nc (by decide))
  · refine fx_zne 13 9 (by decide +kernel) (by unfold fR; omega) (fun hc => absurd hc (by decide)) (fun _ => ?_)
    refine fx_ci (1) 10 (by decide +kernel) ?_
    refine fx_go 14 (by decide +kernel) ?_
    refine fx_pi 1186 148 0 17 (by decide +kernel) (by unfold fR; omega) ?_
    refine fx_la 0 18 (v := 1186) (by decide +kernel) rfl (by decide +kernel) ?_
    refine fx_gi 1186 148 0 21 (by decide +kernel) ?_
    try simp only [fu_app, fcy_app, Nat.reduceEqDiff, and_true, and_false, false_and, true_and, if_true, if_false, ite_true, ite_false, reduceIte, Int.reduceToNat, fx_simp0]
    refine fx_zle 26 24 (by decide +kernel) (by unfold fR; omega) (fun h21 => ?_) (fun h21 => ?_)
    · exfalso; omega
    · refine fx_ci (0) 25 (by decide +kernel) ?_
      refine fx_ret (by decide +kernel) ?_
      exact kq _ _ (fun j hj => fu_nc (by decide))
theorem sp_ahead {v w : Int} (h3 : 3 ≤ dd) (hr : 1 ≤ r) (hv : fR v) (hw : fR w) (hg : gHs g) (kP : KD W.N W.sy 267 dd cP) (kB : KD W.N W.sy 293 dd cB) (kG : KC W.N W.sy 337 [(0, 1186, 0), (1, 2147483648, 2147483708), (1, 2147483648, 2147483649)] dd cG) (kO : KC W.N W.sy 298 [(0, 1186, 0), (1, 2147483648, 2147483655), (1, 2147483648, 2147483654)] dd cO)
    (kq : ∀ v g', (∀ j, j < 364 → g' 149 j = g 149 j) → Q 1 v g') : fx W r (dd + 1) 396 0 [1186, fI v, fI w, 7, 7] [] g Q := by
  refine fx_m3 hg (fun b3 => ?_)
  refine fx_rg (fun hr0 => ?_)
  have r0 := hr0 148 0 (by decide) (by decide +kernel) (by decide +kernel)
  refine fx_la 0 1 (v := 1186) (by decide +kernel) rfl (by decide +kernel) ?_
  refine fx_la 0 2 (v := 1186) (by decide +kernel) rfl (by decide +kernel) ?_
  refine fx_li 1 3 (by decide +kernel) rfl ?_
  refine fx_c2 297 21 6 1 [] (by decide +kernel) (by decide) (by decide) (fI_n4 _) rfl (by first | decide | omega) ?_
  refine sp_isPerson hv b3.1 b3.2 (fun t => fK1 ?_) (fK1 ?_)
  · refine fx_zne 13 9 (by decide +kernel) (by unfold fR; omega) (fun _ => ?_) (fun hc => absurd hc (by decide))
    refine fx_li 2 14 (by decide +kernel) rfl ?_
    refine fx_c1 397 22 17 1 [] (f_q22 (by decide +kernel)) (fI_n4 _) rfl (by first | decide | omega) ?_
    refine sp_isNights hw (fun u => fK1 ?_) (fK1 ?_)
    · refine fx_zne 24 20 (by decide +kernel) (by unfold fR; omega) (fun _ => ?_) (fun hc => absurd hc (by decide))
      refine fx_ci (0) 25 (by decide +kernel) ?_
      refine fx_pi 1186 148 0 28 (by decide +kernel) (by unfold fR; omega) ?_
      refine fx_la 0 29 (v := 1186) (by decide +kernel) rfl (by decide +kernel) ?_
      refine fx_gi 1186 148 0 32 (by decide +kernel) ?_
      try simp only [fu_app, fcy_app, Nat.reduceEqDiff, and_true, and_false, false_and, true_and, if_true, if_false, ite_true, ite_false, reduceIte, Int.reduceToNat, fx_simp0]
      refine fx_zle 37 35 (by decide +kernel) (by unfold fR; omega) (fun h32 => ?_) (fun h32 => ?_)
      · refine fx_la 0 38 (v := 1186) (by decide +kernel) rfl (by decide +kernel) ?_
        refine fx_c1 267 21 41 dd [7] (by decide +kernel) (by decide) rfl (by first | decide | omega) ?_
        refine ka_puts (W := fWl W 0) kP (gHs_th hg r0 (by unfold fR; omega)) hr (fun g2 h2 => fK0 ?_)
        refine fx_la 0 42 (v := 1186) (by decide +kernel) rfl (by decide +kernel) ?_
        refine fx_li 2 43 (by decide +kernel) rfl ?_
        refine fx_ci (0) 44 (by decide +kernel) ?_
        refine fx_c3 337 21 47 dd [7, 7] (by decide +kernel) (by decide) (by decide) (fI_n4 _) (fI_n4 _) rfl (by first | decide | omega) ?_
        refine fx_ka (W := fWl W 0) kG h2 (as_g u.1 u.2 (by decide) (by decide)) (f_xp (f_n4_3 (by decide)) (show 3 ≤ _ by decide +kernel)) hr (fun z3 g3 r3 h3 => fK1 ?_)
        refine fx_si 3 48 (by decide +kernel) (Or.inr (fI_n4 _)) rfl ?_
        dsimp only [List.set]
        refine fx_la 0 49 (v := 1186) (by decide +kernel) rfl (by decide +kernel) ?_
        refine fx_li 1 50 (by decide +kernel) rfl ?_
        refine fx_ci (6) 52 (by decide +kernel) ?_
        refine fx_c3 298 21 55 dd [] (by decide +kernel) (by decide) (by decide) (fI_n4 _) (fI_n4 _) rfl (by first | decide | omega) ?_
        refine fx_ka (W := fWl W 0) kO h3 (as_o t.1 t.2 (by decide) (by decide)) (f_xp (f_n4_3 (by decide)) (show 3 ≤ _ by decide +kernel)) hr (fun z4 g4 r4 h4 => fK1 ?_)
        refine fx_si 4 57 (by decide +kernel) (Or.inr (fI_n4 _)) rfl ?_
        dsimp only [List.set]
        refine fx_la 0 58 (v := 1186) (by decide +kernel) rfl (by decide +kernel) ?_
        refine fx_c1 293 21 61 dd [7] (by decide +kernel) (by decide) rfl (by first | decide | omega) ?_
        refine ka_comes (W := fWl W 0) kB (KA_fu (by decide) h4) hr (fun g5 h5 h6 => fK0 ?_)
        refine fx_li 4 63 (by decide +kernel) rfl ?_
        refine fx_ret (by decide +kernel) ?_
        exact kq _ _ h6
      · refine fx_ci (0) 36 (by decide +kernel) ?_
        refine fx_ret (by decide +kernel) ?_
        exact kq _ _ (fun j hj => fu_nc (by decide))
    · refine fx_zne 24 20 (by decide +kernel) (by unfold fR; omega) (fun hc => absurd hc (by decide)) (fun _ => ?_)
      refine fx_ci (2) 21 (by decide +kernel) ?_
      refine fx_go 25 (by decide +kernel) ?_
      refine fx_pi 1186 148 0 28 (by decide +kernel) (by unfold fR; omega) ?_
      refine fx_la 0 29 (v := 1186) (by decide +kernel) rfl (by decide +kernel) ?_
      refine fx_gi 1186 148 0 32 (by decide +kernel) ?_
      try simp only [fu_app, fcy_app, Nat.reduceEqDiff, and_true, and_false, false_and, true_and, if_true, if_false, ite_true, ite_false, reduceIte, Int.reduceToNat, fx_simp0]
      refine fx_zle 37 35 (by decide +kernel) (by unfold fR; omega) (fun h32 => ?_) (fun h32 => ?_)
      · exfalso; omega
      · refine fx_ci (0) 36 (by decide +kernel) ?_
        refine fx_ret (by decide +kernel) ?_
        exact kq _ _ (fun j hj => fu_nc (by decide))
  · refine fx_zne 13 9 (by decide +kernel) (by unfold fR; omega) (fun hc => absurd hc (by decide)) (fun _ => ?_)
    refine fx_ci (1) 10 (by decide +kernel) ?_
    refine fx_go 25 (by decide +kernel) ?_
    refine fx_pi 1186 148 0 28 (by decide +kernel) (by unfold fR; omega) ?_
    refine fx_la 0 29 (v := 1186) (by decide +kernel) rfl (by decide +kernel) ?_
    refine fx_gi 1186 148 0 32 (by decide +kernel) ?_
    try simp only [fu_app, fcy_app, Nat.reduceEqDiff, and_true, and_false, false_and, true_and, if_true, if_false, ite_true, ite_false, reduceIte, Int.reduceToNat, fx_simp0]
    refine fx_zle 37 35 (by decide +kernel) (by unfold fR; omega) (fun h32 => ?_) (fun h32 => ?_)
    · exfalso; omega
    · refine fx_ci (0) 36 (by decide +kernel) ?_
      refine fx_ret (by decide +kernel) ?_
      exact kq _ _ (fun j hj => fu_nc (by decide))
theorem sp_trial {v w : Int} (h3 : 3 ≤ dd) (hr : 1 ≤ r) (hv : fR v) (hw : fR w) (hg : gHs g) (kP : KD W.N W.sy 267 dd cP) (kB : KD W.N W.sy 293 dd cB) (kG : KC W.N W.sy 337 [(0, 1186, 0), (1, 2147483648, 2147483708), (1, 2147483648, 2147483649)] dd cG) (kC : KC W.N W.sy 399 [(0, 1186, 0)] dd cC) (kT : KC W.N W.sy 400 [(0, 1186, 0)] dd cT)
    (kq : ∀ v g', (∀ j, j < 364 → g' 149 j = g 149 j) → Q 1 v g') : fx W r (dd + 1) 398 0 [1186, fI v, fI w, 7, 7] [] g Q := by
  refine fx_rg (fun hr0 => ?_)
  have r0 := hr0 148 0 (by decide) (by decide +kernel) (by decide +kernel)
  have hw2 := hw
  unfold fR at hw2
  refine fx_la 0 1 (v := 1186) (by decide +kernel) rfl (by decide +kernel) ?_
  refine fx_li 1 2 (by decide +kernel) rfl ?_
  refine fx_c1 397 22 5 1 [] (f_q22 (by decide +kernel)) (fI_n4 _) rfl (by first | decide | omega) ?_
  refine sp_isNights hv (fun u => fK1 ?_) (fK1 ?_)
  · refine fx_zne 12 8 (by decide +kernel) (by unfold fR; omega) (fun _ => ?_) (fun hc => absurd hc (by decide))
    refine fx_ci (0) 13 (by decide +kernel) ?_
    refine fx_pi 1186 148 0 16 (by decide +kernel) (by unfold fR; omega) ?_
    refine fx_la 0 17 (v := 1186) (by decide +kernel) rfl (by decide +kernel) ?_
    refine fx_gi 1186 148 0 20 (by decide +kernel) ?_
    try simp only [fu_app, fcy_app, Nat.reduceEqDiff, and_true, and_false, false_and, true_and, if_true, if_false, ite_true, ite_false, reduceIte, Int.reduceToNat, fx_simp0]
    refine fx_zle 25 23 (by decide +kernel) (by unfold fR; omega) (fun h20 => ?_) (fun h20 => ?_)
    · refine fx_la 0 26 (v := 1186) (by decide +kernel) rfl (by decide +kernel) ?_
      refine fx_c1 267 21 29 dd [7] (by decide +kernel) (by decide) rfl (by first | decide | omega) ?_
      refine ka_puts (W := fWl W 0) kP (gHs_th hg r0 (by unfold fR; omega)) hr (fun g2 h2 => fK0 ?_)
      refine fx_la 0 30 (v := 1186) (by decide +kernel) rfl (by decide +kernel) ?_
      refine fx_li 1 31 (by decide +kernel) rfl ?_
      refine fx_ci (1) 32 (by decide +kernel) ?_
      refine fx_c3 337 21 35 dd [7, 7] (by decide +kernel) (by decide) (by decide) (fI_n4 _) (fI_n4 _) rfl (by first | decide | omega) ?_
      refine fx_ka (W := fWl W 0) kG h2 (as_g u.1 u.2 (by decide) (by decide)) (f_xp (f_n4_3 (by decide)) (show 3 ≤ _ by decide +kernel)) hr (fun z3 g3 r3 h3 => fK1 ?_)
      refine fx_si 3 36 (by decide +kernel) (Or.inr (fI_n4 _)) rfl ?_
      dsimp only [List.set]
      refine fx_li 2 37 (by decide +kernel) rfl ?_
      refine fx_zeq 47 40 (by decide +kernel) (by unfold fR; omega) (fun h37 => ?_) (fun h37 => ?_)
      · refine fx_la 0 48 (v := 1186) (by decide +kernel) rfl (by decide +kernel) ?_
        refine fx_c1 400 21 51 dd [7, 7] (by decide +kernel) (by decide) rfl (by first | decide | omega) ?_
        refine fx_ka (W := fWl W 0) kT h3 as_1 (f_xp (f_n4_1 (by decide)) (show 1 ≤ _ by decide +kernel)) hr (fun z4 g4 r4 h4 => fK1 ?_)
        refine fx_si 4 53 (by decide +kernel) (Or.inr (fI_n4 _)) rfl ?_
        dsimp only [List.set]
        refine fx_la 0 54 (v := 1186) (by decide +kernel) rfl (by decide +kernel) ?_
        refine fx_c1 293 21 57 dd [7] (by decide +kernel) (by decide) rfl (by first | decide | omega) ?_
        refine ka_comes (W := fWl W 0) kB (KA_fu (by decide) h4) hr (fun g5 h5 h6 => fK0 ?_)
        refine fx_li 4 59 (by decide +kernel) rfl ?_
        refine fx_ret (by decide +kernel) ?_
        exact kq _ _ h6
      · refine fx_la 0 41 (v := 1186) (by decide +kernel) rfl (by decide +kernel) ?_
        refine fx_c1 399 21 44 dd [7, 7] (by decide +kernel) (by decide) rfl (by first | decide | omega) ?_
        refine fx_ka (W := fWl W 0) kC h3 as_1 (f_xp (f_n4_1 (by decide)) (show 1 ≤ _ by decide +kernel)) hr (fun z4 g4 r4 h4 => fK1 ?_)
        refine fx_go 51 (by decide +kernel) ?_
        refine fx_si 4 53 (by decide +kernel) (Or.inr (fI_n4 _)) rfl ?_
        dsimp only [List.set]
        refine fx_la 0 54 (v := 1186) (by decide +kernel) rfl (by decide +kernel) ?_
        refine fx_c1 293 21 57 dd [7] (by decide +kernel) (by decide) rfl (by first | decide | omega) ?_
        refine ka_comes (W := fWl W 0) kB (KA_fu (by decide) h4) hr (fun g5 h5 h6 => fK0 ?_)
        refine fx_li 4 59 (by decide +kernel) rfl ?_
        refine fx_ret (by decide +kernel) ?_
        exact kq _ _ h6
    · refine fx_ci (0) 24 (by decide +kernel) ?_
      refine fx_ret (by decide +kernel) ?_
      exact kq _ _ (fun j hj => fu_nc (by decide))
  · refine fx_zne 12 8 (by decide +kernel) (by unfold fR; omega) (fun hc => absurd hc (by decide)) (fun _ => ?_)
    refine fx_ci (1) 9 (by decide +kernel) ?_
    refine fx_go 13 (by decide +kernel) ?_
    refine fx_pi 1186 148 0 16 (by decide +kernel) (by unfold fR; omega) ?_
    refine fx_la 0 17 (v := 1186) (by decide +kernel) rfl (by decide +kernel) ?_
    refine fx_gi 1186 148 0 20 (by decide +kernel) ?_
    try simp only [fu_app, fcy_app, Nat.reduceEqDiff, and_true, and_false, false_and, true_and, if_true, if_false, ite_true, ite_false, reduceIte, Int.reduceToNat, fx_simp0]
    refine fx_zle 25 23 (by decide +kernel) (by unfold fR; omega) (fun h20 => ?_) (fun h20 => ?_)
    · exfalso; omega
    · refine fx_ci (0) 24 (by decide +kernel) ?_
      refine fx_ret (by decide +kernel) ?_
      exact kq _ _ (fun j hj => fu_nc (by decide))
theorem sp_span_1 {g0 : Nat → Nat → Int} {v w : Int} (h3 : 3 ≤ dd) (hr : 1 ≤ r) (v0 : 0 ≤ v) (v1 : v ≤ 60) (hw : fR w) (kB : KD W.N W.sy 293 dd cB) (kG : KC W.N W.sy 337 [(0, 1186, 0), (1, 2147483648, 2147483708), (1, 2147483648, 2147483649)] dd cG) (kA : KC W.N W.sy 402 [(0, 1186, 0)] dd cA)
    (kq : ∀ v g', (∀ j, j < 364 → g' 149 j = g0 149 j) → Q 1 v g') : ∀ (n k : Nat) (a : Int) (x5 x6 : Nat) (g : Nat → Nat → Int), k + n = 7 → fR a → KA g0 g → (∀ j, j < 364 → g 149 j = g0 149 j) → fx W r (dd + 1) 401 34 [1186, fI v, fI w, fI a, fI (k : Int), x5, x6] [] g Q
  | n, k, a, x5, x6, g, hn, ha, hg, hm => by
    have ha2 := ha
    have hw2 := hw
    unfold fR at ha2 hw2
    refine fx_rg (fun hr0 => ?_)
    have r0 := hgA hr0 764 (c := 149) (j := 11) (by decide +kernel) (by omega)
    refine fx_li 4 36 (by decide +kernel) rfl ?_
    refine fx_ci (6) 38 (by decide +kernel) ?_
    refine fx_igt 104 41 (by decide +kernel) (by unfold fR; omega) (by unfold fR; omega) (fun h38 => ?_) (fun h38 => ?_)
    · refine fx_li 3 105 (by decide +kernel) rfl ?_
      refine fx_ret (by decide +kernel) ?_
      exact kq _ _ hm
    · refine fx_la 0 42 (v := 1186) (by decide +kernel) rfl (by decide +kernel) ?_
      refine fx_gp 1186 148 1 1194 45 (by decide +kernel) ?_
      refine fx_ci (11) 47 (by decide +kernel) ?_
      refine fx_li 4 49 (by decide +kernel) rfl ?_
      refine fx_as 1194 149 764 50 (by decide +kernel) rfl (by omega) (by omega) rfl (by unfold fR; omega) ?_
      have hg1 : KA g0 (fu g 149 11 (k : Int)) := ⟨gHs_11 hg.1 r0 (by unfold fR; omega), fun j hj => by rw [fu_nc (by decide)]; exact hg.2 j hj⟩
      refine fx_la 0 51 (v := 1186) (by decide +kernel) rfl (by decide +kernel) ?_
      refine fx_li 1 52 (by decide +kernel) rfl ?_
      refine fx_ci (1) 53 (by decide +kernel) ?_
      refine fx_c3 337 21 56 dd [7, 7] (by decide +kernel) (by decide) (by decide) (fI_n4 _) (fI_n4 _) rfl (by first | decide | omega) ?_
      refine fx_ka (W := fWl W 0) kG hg1 (as_g v0 v1 (by decide) (by decide)) (f_xp (f_n4_3 (by decide)) (show 3 ≤ _ by decide +kernel)) hr (fun z3 g3 r3 h3 => fK1 ?_)
      refine fx_si 5 58 (by decide +kernel) (Or.inr (fI_n4 _)) rfl ?_
      dsimp only [List.set]
      refine fx_la 0 59 (v := 1186) (by decide +kernel) rfl (by decide +kernel) ?_
      refine fx_c1 402 21 62 dd [7, 7] (by decide +kernel) (by decide) rfl (by first | decide | omega) ?_
      refine fx_ka (W := fWl W 0) kA h3 as_1 (f_xp (f_n4_1 (by decide)) (show 1 ≤ _ by decide +kernel)) hr (fun z4 g4 r4 h4 => fK1 ?_)
      refine fx_si 6 64 (by decide +kernel) (Or.inr (fI_n4 _)) rfl ?_
      dsimp only [List.set]
      refine fx_la 0 65 (v := 1186) (by decide +kernel) rfl (by decide +kernel) ?_
      refine fx_c1 293 21 68 dd [7] (by decide +kernel) (by decide) rfl (by first | decide | omega) ?_
      refine ka_comes (W := fWl W 0) kB h4 hr (fun g5 h5 h6 => fK0 ?_)
      refine fx_li 3 69 (by decide +kernel) rfl ?_
      refine fx_cn (-1) 70 (by decide +kernel) (fun v69 c69 => ?_)
      refine fx_ine 78 73 (by decide +kernel) (by unfold fR; omega) (by unfold fR; omega) (fun h70 => ?_) (fun h70 => ?_)
      · refine fx_li 2 79 (by decide +kernel) rfl ?_
        refine fx_zeq 91 82 (by decide +kernel) (by unfold fR; omega) (fun h79 => ?_) (fun h79 => ?_)
        · refine fx_li 3 92 (by decide +kernel) rfl ?_
          refine fx_li 6 94 (by decide +kernel) rfl ?_
          refine fx_c2 321 22 97 0 [] (f_q22 (by decide +kernel)) (by decide) (fI_n4 _) (fI_n4 _) rfl (by first | decide | omega) ?_
          refine sp_lesser ha r4 (fun z7 r7 => fK1 ?_)
          refine fx_si 3 98 (by decide +kernel) (Or.inr (fI_n4 _)) rfl ?_
          dsimp only [List.set]
          refine fx_inc 4 101 (1) (by decide +kernel) rfl (Or.inr (fI_n4 _)) rfl ?_
          dsimp only [List.set]
          refine fx_go 34 (by decide +kernel) ?_
          match n, hn with
          | 0, hn => exfalso; omega
          | n + 1, hn => exact sp_span_1 (by assumption) hr v0 v1 hw kB kG kA kq n (k + 1) z7 _ _ g5 (by omega) r7 h5 h6
        · refine fx_li 3 83 (by decide +kernel) rfl ?_
          refine fx_li 6 85 (by decide +kernel) rfl ?_
          refine fx_c2 316 22 88 0 [] (f_q22 (by decide +kernel)) (by decide) (fI_n4 _) (fI_n4 _) rfl (by first | decide | omega) ?_
          refine sp_greater ha r4 (fun z7 r7 => fK1 ?_)
          refine fx_go 97 (by decide +kernel) ?_
          refine fx_si 3 98 (by decide +kernel) (Or.inr (fI_n4 _)) rfl ?_
          dsimp only [List.set]
          refine fx_inc 4 101 (1) (by decide +kernel) rfl (Or.inr (fI_n4 _)) rfl ?_
          dsimp only [List.set]
          refine fx_go 34 (by decide +kernel) ?_
          match n, hn with
          | 0, hn => exfalso; omega
          | n + 1, hn => exact sp_span_1 (by assumption) hr v0 v1 hw kB kG kA kq n (k + 1) z7 _ _ g5 (by omega) r7 h5 h6
      · refine fx_li 6 75 (by decide +kernel) rfl ?_
        refine fx_go 97 (by decide +kernel) ?_
        refine fx_si 3 98 (by decide +kernel) (Or.inr (fI_n4 _)) rfl ?_
        dsimp only [List.set]
        refine fx_inc 4 101 (1) (by decide +kernel) rfl (Or.inr (fI_n4 _)) rfl ?_
        dsimp only [List.set]
        refine fx_go 34 (by decide +kernel) ?_
        match n, hn with
        | 0, hn => exfalso; omega
        | n + 1, hn => exact sp_span_1 (by assumption) hr v0 v1 hw kB kG kA kq n (k + 1) z4 _ _ g5 (by omega) r4 h5 h6
theorem sp_span {v w : Int} (h3 : 3 ≤ dd) (hr : 1 ≤ r) (hv : fR v) (hw : fR w) (hg : gHs g) (kP : KD W.N W.sy 267 dd cP) (kB : KD W.N W.sy 293 dd cB) (kG : KC W.N W.sy 337 [(0, 1186, 0), (1, 2147483648, 2147483708), (1, 2147483648, 2147483649)] dd cG) (kA : KC W.N W.sy 402 [(0, 1186, 0)] dd cA)
    (kq : ∀ v g', (∀ j, j < 364 → g' 149 j = g 149 j) → Q 1 v g') : fx W r (dd + 1) 401 0 [1186, fI v, fI w, 7, 7, 7, 7] [] g Q := by
  refine fx_rg (fun hr0 => ?_)
  have r0 := hr0 148 0 (by decide) (by decide +kernel) (by decide +kernel)
  refine fx_la 0 1 (v := 1186) (by decide +kernel) rfl (by decide +kernel) ?_
  refine fx_li 1 2 (by decide +kernel) rfl ?_
  refine fx_c1 397 22 5 1 [] (f_q22 (by decide +kernel)) (fI_n4 _) rfl (by first | decide | omega) ?_
  refine sp_isNights hv (fun u => fK1 ?_) (fK1 ?_)
  · refine fx_zne 12 8 (by decide +kernel) (by unfold fR; omega) (fun _ => ?_) (fun hc => absurd hc (by decide))
    refine fx_ci (0) 13 (by decide +kernel) ?_
    refine fx_pi 1186 148 0 16 (by decide +kernel) (by unfold fR; omega) ?_
    refine fx_la 0 17 (v := 1186) (by decide +kernel) rfl (by decide +kernel) ?_
    refine fx_gi 1186 148 0 20 (by decide +kernel) ?_
    try simp only [fu_app, fcy_app, Nat.reduceEqDiff, and_true, and_false, false_and, true_and, if_true, if_false, ite_true, ite_false, reduceIte, Int.reduceToNat, fx_simp0]
    refine fx_zle 25 23 (by decide +kernel) (by unfold fR; omega) (fun h20 => ?_) (fun h20 => ?_)
    · refine fx_la 0 26 (v := 1186) (by decide +kernel) rfl (by decide +kernel) ?_
      refine fx_c1 267 21 29 dd [7] (by decide +kernel) (by decide) rfl (by first | decide | omega) ?_
      refine ka_puts2 (W := fWl W 0) kP (gHs_th hg r0 (by unfold fR; omega)) hr (fun g2 h2 h2m => fK0 ?_)
      refine fx_cn (-1) 30 (by decide +kernel) (fun v29 c29 => ?_)
      refine fx_si 3 31 (by decide +kernel) (Or.inr (fI_n4 _)) rfl ?_
      dsimp only [List.set]
      refine fx_ci (1) 32 (by decide +kernel) ?_
      refine fx_si 4 34 (by decide +kernel) (Or.inr (fI_n4 _)) rfl ?_
      dsimp only [List.set]
      exact sp_span_1 h3 hr u.1 u.2 hw kB kG kA kq 6 1 _ _ _ _ rfl (by unfold fR; omega) (KA_fu (by decide) h2) (fun j hj => by rw [h2m j hj, fu_nc (by decide)])
    · refine fx_ci (0) 24 (by decide +kernel) ?_
      refine fx_ret (by decide +kernel) ?_
      exact kq _ _ (fun j hj => fu_nc (by decide))
  · refine fx_zne 12 8 (by decide +kernel) (by unfold fR; omega) (fun hc => absurd hc (by decide)) (fun _ => ?_)
    refine fx_ci (1) 9 (by decide +kernel) ?_
    refine fx_go 13 (by decide +kernel) ?_
    refine fx_pi 1186 148 0 16 (by decide +kernel) (by unfold fR; omega) ?_
    refine fx_la 0 17 (v := 1186) (by decide +kernel) rfl (by decide +kernel) ?_
    refine fx_gi 1186 148 0 20 (by decide +kernel) ?_
    try simp only [fu_app, fcy_app, Nat.reduceEqDiff, and_true, and_false, false_and, true_and, if_true, if_false, ite_true, ite_false, reduceIte, Int.reduceToNat, fx_simp0]
    refine fx_zle 25 23 (by decide +kernel) (by unfold fR; omega) (fun h20 => ?_) (fun h20 => ?_)
    · exfalso; omega
    · refine fx_ci (0) 24 (by decide +kernel) ?_
      refine fx_ret (by decide +kernel) ?_
      exact kq _ _ (fun j hj => fu_nc (by decide))
end FYT
end
section
/-! fx: contracts of starves, ahead, trial, span leave m as it was -/
theorem gx_validm {N : Nat} {sy : sx_Y} {c : ax_C} {md d : Nat} (hv : ax_Valid N sy c) (hmd : ∀ i, i ≠ 4768 → ax_tb c.2.2.2.2.1 i = true → ax_tb md i = true) (hd : d ≤ c.2.1) (hfr : ax_tb c.2.2.2.2.1 5120 = false)
    (hf : ∀ W : ax_W, W.N = N → W.sy = sy → ∀ cav h g Lj, ax_As c.2.2.1 cav → ax_Ps c.2.2.2.1 h → gHs g → sx_xp cav (sx_im (sx_mt c.1).2) = some Lj → fx W 1 d c.1 0 Lj [] g (fun _ _ g' => ∀ j, j < 364 → g' 149 j = g 149 j)) : ax_Valid N sy (c.1, c.2.1, c.2.2.1, c.2.2.2.1, md, c.2.2.2.2.2.1, c.2.2.2.2.2.2) := by
  intro D cav h cs ss Lj h1 h2 h3 h4 h5 h6 h7
  have h1 : c.2.1 ≤ D := h1
  obtain ⟨co, ev, a1, a2, t, a3, a4⟩ := hv D cav h cs ss Lj h1 h2 h3 h4 h5 h6 h7
  refine ⟨co, ev, a1, a2, t, a3, ?_⟩
  obtain ⟨E1, E2, E3, E4, E5, E6, E7, E8, E9, E10⟩ := a4
  refine ⟨E1, E2, E3, E4, E5, E6, E7, E8, ⟨fun c' j hc hj hb => ?_, fun _ => E9.2 hfr⟩, E10⟩
  by_cases m : c' = 149
  · subst m
    by_cases j3 : j < 364
    · have v := HV_of h4
      obtain ⟨o, ev2, -, -, g', v', q', -⟩ := hf (N, sy, h, 0, 0, 0, 0, 0) rfl rfl cav h (fG h) Lj h2 h3 (gHs_of h4 v) h7 D h cs ss (by omega) v (by omega) (by omega)
      have e : co = o := cx_uniq (W := (N, sy, h, 0, 0, 0, 0, 0)) ev ev2
      subst e
      rw [(v'.2 _ j hc hj).1, (v.2 _ j hc hj).1, q' j j3]
    · exact E9.2 hfr j (by omega)
  · refine E9.1 c' j hc hj ?_
    cases e : ax_tb c.2.2.2.2.1 (ax_bit (ax_ar c') c' j) with
    | false => rfl
    | true =>
      have hb : ax_tb md (ax_bit (ax_ar c') c' j) = false := hb
      rw [hmd _ (by
        have l := ax_len32 c' hc
        show 32 * c' + cond (ax_ar c') 0 j ≠ 4768
        cases hr : ax_ar c' with
        | true => show 32 * c' + 0 ≠ 4768; omega
        | false => show 32 * c' + j ≠ 4768; have := l hr; omega) e] at hb
      cases hb
theorem ax_Aq_of {lo hi v : Nat} (h : ax_Aq (1, lo, hi) v) : ∃ z, fR z ∧ v = fI z := by
  rcases h with ⟨k, -⟩ | ⟨-, k, -⟩ | ⟨-, -, P, e, -⟩
  · cases k
  · cases k
  · exact ⟨P.toInt, ⟨by have := Int32.le_toInt P; omega, by have := Int32.toInt_lt P; omega⟩, by rw [e]; exact fI_of_toBv P⟩
theorem ax_As_i1 {l1 u1 : Nat} {cav : List Nat} (h : ax_As [(0, 1186, 0), (1, l1, u1)] cav) : ∃ z, fR z ∧ cav = [1186, fI z] := by
  match cav, h with
  | a :: l, h =>
    obtain ⟨h1, h⟩ := h
    have e : [a] = [1186] := ax_As2 (p := 1186) ⟨h1, True.intro⟩ (by decide)
    cases e
    match l, h with
    | [b], h =>
      obtain ⟨z, hz, rfl⟩ := ax_Aq_of h.1
      exact ⟨z, hz, rfl⟩
    | [], h => exact h.elim
    | _ :: _ :: _, h => exact h.2.elim
  | [], h => exact h.elim
theorem ax_As_i2 {l1 u1 l2 u2 : Nat} {cav : List Nat} (h : ax_As [(0, 1186, 0), (1, l1, u1), (1, l2, u2)] cav) : ∃ z w, fR z ∧ fR w ∧ cav = [1186, fI z, fI w] := by
  match cav, h with
  | a :: l, h =>
    obtain ⟨h1, h⟩ := h
    have e : [a] = [1186] := ax_As2 (p := 1186) ⟨h1, True.intro⟩ (by decide)
    cases e
    match l, h with
    | [b, c], h =>
      obtain ⟨z, hz, rfl⟩ := ax_Aq_of h.1
      obtain ⟨w, hw, rfl⟩ := ax_Aq_of h.2.1
      exact ⟨z, w, hz, hw, rfl⟩
    | [], h => exact h.elim
    | [_], h => exact h.2.elim
    | _ :: _ :: _ :: _, h => exact h.2.2.elim
  | [], h => exact h.elim
section FYU
variable {N : Nat} {sy : sx_Y} {c : ax_C} {md dd l1 u1 l2 u2 : Nat} {cP cB cI cG cM cO cC cT cA : ax_C}
theorem gx_starves (hv : ax_Valid N sy c) (h1 : c.1 = 393) (h2 : c.2.2.1 = [(0, 1186, 0), (1, l1, u1)]) (hd : dd + 1 ≤ c.2.1) (h3 : 3 ≤ dd) (hmd : ∀ i, i ≠ 4768 → ax_tb c.2.2.2.2.1 i = true → ax_tb md i = true) (hfr : ax_tb c.2.2.2.2.1 5120 = false) (kP : KD N sy 267 dd cP) (kB : KD N sy 293 dd cB) (kI : KC N sy 300 [(0, 1186, 0), (1, 2147483648, 2147483655)] dd cI) (kG : KC N sy 337 [(0, 1186, 0), (1, 2147483648, 2147483708), (1, 2147483648, 2147483649)] dd cG) (kM : KC N sy 299 [(0, 1186, 0), (1, 2147483648, 2147483655)] dd cM) : ax_Valid N sy (c.1, c.2.1, c.2.2.1, c.2.2.2.1, md, c.2.2.2.2.2.1, c.2.2.2.2.2.2) :=
  gx_validm hv hmd hd hfr (fun W e1 e2 cav h g Lj a1 _ hg hx => by
    rw [h2] at a1
    obtain ⟨z, hz, rfl⟩ := ax_As_i1 a1
    rw [h1] at hx ⊢
    have hx : some [1186, fI z, 7, 7, 7] = some Lj := (f_xp (f_n4_2 (by decide)) (show 2 ≤ _ by decide +kernel)).symm.trans hx
    cases hx
    subst e1 e2
    exact sp_starves h3 (Nat.le_refl _) hz hg kP kB kI kG kM (fun v g' t => t))
theorem gx_ahead (hv : ax_Valid N sy c) (h1 : c.1 = 396) (h2 : c.2.2.1 = [(0, 1186, 0), (1, l1, u1), (1, l2, u2)]) (hd : dd + 1 ≤ c.2.1) (h3 : 3 ≤ dd) (hmd : ∀ i, i ≠ 4768 → ax_tb c.2.2.2.2.1 i = true → ax_tb md i = true) (hfr : ax_tb c.2.2.2.2.1 5120 = false) (kP : KD N sy 267 dd cP) (kB : KD N sy 293 dd cB) (kG : KC N sy 337 [(0, 1186, 0), (1, 2147483648, 2147483708), (1, 2147483648, 2147483649)] dd cG) (kO : KC N sy 298 [(0, 1186, 0), (1, 2147483648, 2147483655), (1, 2147483648, 2147483654)] dd cO) : ax_Valid N sy (c.1, c.2.1, c.2.2.1, c.2.2.2.1, md, c.2.2.2.2.2.1, c.2.2.2.2.2.2) :=
  gx_validm hv hmd hd hfr (fun W e1 e2 cav h g Lj a1 _ hg hx => by
    rw [h2] at a1
    obtain ⟨z, w, hz, hw, rfl⟩ := ax_As_i2 a1
    rw [h1] at hx ⊢
    have hx : some [1186, fI z, fI w, 7, 7] = some Lj := (f_xp (f_n4_3 (by decide)) (show 3 ≤ _ by decide +kernel)).symm.trans hx
    cases hx
    subst e1 e2
    exact sp_ahead h3 (Nat.le_refl _) hz hw hg kP kB kG kO (fun v g' t => t))
theorem gx_trial (hv : ax_Valid N sy c) (h1 : c.1 = 398) (h2 : c.2.2.1 = [(0, 1186, 0), (1, l1, u1), (1, l2, u2)]) (hd : dd + 1 ≤ c.2.1) (h3 : 3 ≤ dd) (hmd : ∀ i, i ≠ 4768 → ax_tb c.2.2.2.2.1 i = true → ax_tb md i = true) (hfr : ax_tb c.2.2.2.2.1 5120 = false) (kP : KD N sy 267 dd cP) (kB : KD N sy 293 dd cB) (kG : KC N sy 337 [(0, 1186, 0), (1, 2147483648, 2147483708), (1, 2147483648, 2147483649)] dd cG) (kC : KC N sy 399 [(0, 1186, 0)] dd cC) (kT : KC N sy 400 [(0, 1186, 0)] dd cT) : ax_Valid N sy (c.1, c.2.1, c.2.2.1, c.2.2.2.1, md, c.2.2.2.2.2.1, c.2.2.2.2.2.2) :=
  gx_validm hv hmd hd hfr (fun W e1 e2 cav h g Lj a1 _ hg hx => by
    rw [h2] at a1
    obtain ⟨z, w, hz, hw, rfl⟩ := ax_As_i2 a1
    rw [h1] at hx ⊢
    have hx : some [1186, fI z, fI w, 7, 7] = some Lj := (f_xp (f_n4_3 (by decide)) (show 3 ≤ _ by decide +kernel)).symm.trans hx
    cases hx
    subst e1 e2
    exact sp_trial h3 (Nat.le_refl _) hz hw hg kP kB kG kC kT (fun v g' t => t))
theorem gx_span (hv : ax_Valid N sy c) (h1 : c.1 = 401) (h2 : c.2.2.1 = [(0, 1186, 0), (1, l1, u1), (1, l2, u2)]) (hd : dd + 1 ≤ c.2.1) (h3 : 3 ≤ dd) (hmd : ∀ i, i ≠ 4768 → ax_tb c.2.2.2.2.1 i = true → ax_tb md i = true) (hfr : ax_tb c.2.2.2.2.1 5120 = false) (kP : KD N sy 267 dd cP) (kB : KD N sy 293 dd cB) (kG : KC N sy 337 [(0, 1186, 0), (1, 2147483648, 2147483708), (1, 2147483648, 2147483649)] dd cG) (kA : KC N sy 402 [(0, 1186, 0)] dd cA) : ax_Valid N sy (c.1, c.2.1, c.2.2.1, c.2.2.2.1, md, c.2.2.2.2.2.1, c.2.2.2.2.2.2) :=
  gx_validm hv hmd hd hfr (fun W e1 e2 cav h g Lj a1 _ hg hx => by
    rw [h2] at a1
    obtain ⟨z, w, hz, hw, rfl⟩ := ax_As_i2 a1
    rw [h1] at hx ⊢
    have hx : some [1186, fI z, fI w, 7, 7, 7, 7] = some Lj := (f_xp (f_n4_3 (by decide)) (show 3 ≤ _ by decide +kernel)).symm.trans hx
    cases hx
    subst e1 e2
    exact sp_span h3 (Nat.le_refl _) hz hw hg kP kB kG kA (fun v g' t => t))
end FYU
/-- a number with the bit more, and without -/
theorem gx_mb {m' m : Nat} (h : Nat.beq m' (Nat.lor m (2 ^ 4768)) = true) : ∀ i, i ≠ 4768 → ax_tb m' i = true → ax_tb m i = true := fun i hi ht => by
  have h : m' = m ||| 2 ^ 4768 := sx_beq h
  have tb : ∀ n, ax_tb n i = Nat.testBit n i := fun n => by
    unfold ax_tb Nat.testBit
    show Nat.beq ((n >>> i) % 2) 1 = (1 &&& n >>> i != 0)
    rw [Nat.one_and_eq_mod_two]
    rcases Nat.mod_two_eq_zero_or_one (n >>> i) with e | e <;> rw [e] <;> rfl
  rw [tb, h, Nat.testBit_or, Nat.testBit_two_pow_of_ne (by omega), Bool.or_false] at ht
  rw [tb]
  exact ht
end
section
/-! fx: what must be a place, a dish, two; members of sets -/
theorem fop_1 (x : Int) : fop 3 x 1 = 0 ∨ fop 3 x 1 = 1 := by
  have e : sx_bf 3 (Int32.ofInt x) (Int32.ofInt 1) = Int32.ofInt x &&& Int32.ofInt 1 := rfl
  have t : (Int32.ofInt x &&& Int32.ofInt 1).toBitVec.toNat ≤ 1 := by
    rw [Int32.toBitVec_and, BitVec.toNat_and]
    exact Nat.and_le_right
  unfold fop
  rw [e]
  show (Int32.ofInt x &&& Int32.ofInt 1).toBitVec.toInt = 0 ∨ (Int32.ofInt x &&& Int32.ofInt 1).toBitVec.toInt = 1
  rw [BitVec.toInt_eq_toNat_of_lt (by omega)]
  omega
/-- the k-th bit of a set -/
noncomputable def fbt (s k : Int) : Int := fop 3 (fop 7 s k) 1
theorem fbt_01 (s k : Int) : fbt s k = 0 ∨ fbt s k = 1 := fop_1 _
section FYV
variable {W : ax_W} {r : Nat} {g : Nat → Nat → Int} {Q : Nat → Nat → (Nat → Nat → Int) → Prop}
theorem sp_needPlace {v : Int} (hr : 1 ≤ r) (hv : fR v) (k1 : 0 ≤ v ∧ v ≤ 7 → Q 0 0 g) (k2 : ¬ (0 ≤ v ∧ v ≤ 7) → Q 4 0 g) : fx W r 0 140 0 [2, fI v] [] g Q := by
  have hv2 := hv
  unfold fR at hv2
  refine fx_li 1 1 (by decide +kernel) rfl ?_
  refine fx_zlt 10 4 (by decide +kernel) (by unfold fR; omega) (fun h1 => ?_) (fun h1 => ?_)
  · refine fx_throw 2 (by decide +kernel) rfl (by omega) ?_
    exact k2 (by omega)
  · refine fx_li 1 5 (by decide +kernel) rfl ?_
    refine fx_ci (8) 7 (by decide +kernel) ?_
    refine fx_ilt 21 10 (by decide +kernel) (by unfold fR; omega) (by unfold fR; omega) (fun h7 => ?_) (fun h7 => ?_)
    · refine fx_vret (by decide +kernel) ?_
      exact k1 (by omega)
    · refine fx_throw 2 (by decide +kernel) rfl (by omega) ?_
      exact k2 (by omega)
theorem sp_needTwo {v w : Int} (hr : 1 ≤ r) (hv : fR v) (hw : fR w) (k1 : v ≠ w → Q 0 0 g) (k2 : v = w → Q 2 0 g) : fx W r 0 148 0 [2, fI v, fI w] [] g Q := by
  have hv2 := hv
  have hw2 := hw
  unfold fR at hv2 hw2
  refine fx_li 1 1 (by decide +kernel) rfl ?_
  refine fx_li 2 2 (by decide +kernel) rfl ?_
  refine fx_ine 16 5 (by decide +kernel) (by unfold fR; omega) (by unfold fR; omega) (fun h2 => ?_) (fun h2 => ?_)
  · refine fx_vret (by decide +kernel) ?_
    exact k1 (by omega)
  · refine fx_throw 0 (by decide +kernel) rfl (by omega) ?_
    exact k2 (by omega)
theorem sp_needDish {v : Int} (hr : 1 ≤ r) (hv : fR v) (h0 : 0 ≤ g 3 5) (h1 : g 3 5 ≤ 6) (k1 : 0 ≤ v ∧ v < g 3 5 → Q 0 0 g) (k2 : ¬ (0 ≤ v ∧ v < g 3 5) → Q 4 0 g) : fx W r 0 139 0 [2, fI v] [] g Q := by
  have hv2 := hv
  unfold fR at hv2
  refine fx_li 1 1 (by decide +kernel) rfl ?_
  refine fx_zlt 15 4 (by decide +kernel) (by unfold fR; omega) (fun h1 => ?_) (fun h1 => ?_)
  · refine fx_throw 2 (by decide +kernel) rfl (by omega) ?_
    exact k2 (by omega)
  · refine fx_li 1 5 (by decide +kernel) rfl ?_
    refine fx_la 0 6 (v := 2) (by decide +kernel) rfl (by decide +kernel) ?_
    refine fx_gp 2 0 1 26 9 (by decide +kernel) ?_
    refine fx_gi 26 3 5 12 (by decide +kernel) ?_
    refine fx_ilt 26 15 (by decide +kernel) (by unfold fR; omega) (by first | exact hg 3 5 (by decide) (by decide +kernel) (by decide +kernel) | (unfold fR; omega)) (fun h12 => ?_) (fun h12 => ?_)
    · refine fx_vret (by decide +kernel) ?_
      exact k1 (by omega)
    · refine fx_throw 2 (by decide +kernel) rfl (by omega) ?_
      exact k2 (by omega)
theorem sp_chas {s k : Int} (kq : Q 1 (fI (fbt s k)) g) : fx W r 0 23 0 [fI s, fI k] [] g Q := by
  have h01 := fop_1 (fop 7 s k)
  refine fx_li 0 1 (by decide +kernel) rfl ?_
  refine fx_li 1 2 (by decide +kernel) rfl ?_
  refine fx_bin 7 3 (by decide +kernel) rfl (fun h => absurd h (by decide)) ?_
  refine fx_ci (1) 4 (by decide +kernel) ?_
  refine fx_bin 3 5 (by decide +kernel) rfl (fun h => absurd h (by decide)) ?_
  refine fx_zeq 12 8 (by decide +kernel) (by first | exact fop_R _ _ _ | (unfold fR; omega)) (fun h5 => ?_) (fun h5 => ?_)
  · refine fx_ci (0) 13 (by decide +kernel) ?_
    refine fx_retb (by decide +kernel) (by first | exact Or.inl rfl | exact Or.inr rfl | omega) ?_
    rw [show fbt s k = 0 by unfold fbt; omega] at kq
    exact kq
  · refine fx_ci (1) 9 (by decide +kernel) ?_
    refine fx_go 13 (by decide +kernel) ?_
    refine fx_retb (by decide +kernel) (by first | exact Or.inl rfl | exact Or.inr rfl | omega) ?_
    rw [show fbt s k = 1 by unfold fbt; omega] at kq
    exact kq
theorem sp_misOf {s k : Int} (kq : Q 1 (fI (fbt s k)) g) : fx W r 0 306 0 [fI s, fI k] [] g Q := by
  have h01 := fop_1 (fop 7 s k)
  refine fx_li 0 1 (by decide +kernel) rfl ?_
  refine fx_li 1 2 (by decide +kernel) rfl ?_
  refine fx_bin 7 3 (by decide +kernel) rfl (fun h => absurd h (by decide)) ?_
  refine fx_ci (1) 4 (by decide +kernel) ?_
  refine fx_bin 3 5 (by decide +kernel) rfl (fun h => absurd h (by decide)) ?_
  refine fx_ci (1) 6 (by decide +kernel) ?_
  refine fx_ine 13 9 (by decide +kernel) (by first | exact fop_R _ _ _ | (unfold fR; omega)) (by unfold fR; omega) (fun h6 => ?_) (fun h6 => ?_)
  · refine fx_ci (0) 14 (by decide +kernel) ?_
    refine fx_retb (by decide +kernel) (by first | exact Or.inl rfl | exact Or.inr rfl | omega) ?_
    rw [show fbt s k = 0 by unfold fbt; omega] at kq
    exact kq
  · refine fx_ci (1) 10 (by decide +kernel) ?_
    refine fx_go 14 (by decide +kernel) ?_
    refine fx_retb (by decide +kernel) (by first | exact Or.inl rfl | exact Or.inr rfl | omega) ?_
    rw [show fbt s k = 1 by unfold fbt; omega] at kq
    exact kq
theorem sp_misPlace {v : Int} (hv : fR v) (k1 : 0 ≤ v ∧ v ≤ 7 → Q 1 (fI 1) g) (k2 : ¬ (0 ≤ v ∧ v ≤ 7) → Q 1 (fI 0) g) : fx W r 1 312 0 [fI v] [] g Q := by
  refine fx_li 0 1 (by decide +kernel) rfl ?_
  refine fx_ci (0) 2 (by decide +kernel) ?_
  refine fx_ci (7) 4 (by decide +kernel) ?_
  refine fx_c3 265 22 7 0 [] (f_q22 (by decide +kernel)) (by decide) (fI_n4 _) (fI_n4 _) (fI_n4 _) rfl (by first | decide | omega) ?_
  refine sp_isIn hv (by unfold fR; omega) (by unfold fR; omega) (fun t => fK1 ?_) (fun t => fK1 ?_)
  · refine fx_retb (by decide +kernel) (by first | exact Or.inl rfl | exact Or.inr rfl | omega) ?_
    exact k1 t
  · refine fx_retb (by decide +kernel) (by first | exact Or.inl rfl | exact Or.inr rfl | omega) ?_
    exact k2 t
theorem sp_misDish {v : Int} (hv : fR v) (h0 : 0 ≤ g 149 4) (h1 : g 149 4 ≤ 6) (k1 : 0 ≤ v ∧ v < g 149 4 → Q 1 (fI 1) g) (k2 : ¬ (0 ≤ v ∧ v < g 149 4) → Q 1 (fI 0) g) : fx W r 1 311 0 [1186, fI v] [] g Q := by
  refine fx_li 1 1 (by decide +kernel) rfl ?_
  refine fx_ci (0) 2 (by decide +kernel) ?_
  refine fx_la 0 3 (v := 1186) (by decide +kernel) rfl (by decide +kernel) ?_
  refine fx_gp 1186 148 1 1194 6 (by decide +kernel) ?_
  refine fx_ci (4) 7 (by decide +kernel) ?_
  refine fx_al 1194 149 764 8 (by decide +kernel) rfl (by omega) (by omega) rfl ?_
  try simp only [fu_app, fcy_app, Nat.reduceEqDiff, and_true, and_false, false_and, true_and, if_true, if_false, ite_true, ite_false, reduceIte, Int.reduceToNat, fx_simp0]
  refine fx_ci (1) 9 (by decide +kernel) ?_
  refine fx_sub 10 (by decide +kernel) rfl ?_
  refine fx_c3 265 22 13 0 [] (f_q22 (by decide +kernel)) (by decide) (fI_n4 _) (fI_n4 _) (fI_n4 _) rfl (by first | decide | omega) ?_
  refine sp_isIn hv (by unfold fR; omega) (by unfold fR; omega) (fun t => fK1 ?_) (fun t => fK1 ?_)
  · refine fx_retb (by decide +kernel) (by first | exact Or.inl rfl | exact Or.inr rfl | omega) ?_
    exact k1 (by omega)
  · refine fx_retb (by decide +kernel) (by first | exact Or.inl rfl | exact Or.inr rfl | omega) ?_
    exact k2 (by omega)
end FYV
/-- nothing of what is kept is touched -/
def fKp (g g' : Nat → Nat → Int) : Prop := ∀ c j, gx_K c j ∨ (c = 1 ∧ j = 1) ∨ (c = 148 ∧ j = 8) ∨ (c = 0 ∧ j = 15) ∨ (c = 148 ∧ j = 3) → g' c j = g c j
theorem fKp.inv {g g' : Nat → Nat → Int} (h : fKp g g') (hI : LInv g) (hs : gHs g') : LInv g' := by
  refine ⟨hs, gxg_cg hI.2.1 (fun c j k _ _ => h c j (Or.inl k)) (fun r k h1 h2 h3 => ?_), ?_, ?_⟩
  · rw [h 148 6 (Or.inl (by unfold gx_K; omega))] at h1
    rw [h _ _ (Or.inl (by unfold gx_K; omega)), h _ _ (Or.inl (Or.inl ⟨rfl, h3⟩))]
    exact hI.2.1.2.2.2 r k h1 h2 h3
  · rw [h 1 1 (by omega), h 148 8 (by omega)]
    exact hI.2.2.1
  · rw [h 0 15 (by omega), h 148 3 (by omega)]
    exact hI.2.2.2
theorem fKp.tr {g g' g'' : Nat → Nat → Int} (h : fKp g g') (h' : fKp g' g'') : fKp g g'' := fun c j k => by rw [h' c j k, h c j k]
theorem fKp.rf {g : Nat → Nat → Int} : fKp g g := fun _ _ _ => rfl
theorem fKp.out {g : Nat → Nat → Int} {j : Nat} {z : Int} : fKp g (fu g 159 j z) := fun c j' k => fu_ne (by unfold gx_K at k; omega)
theorem fKp.thr {g : Nat → Nat → Int} {z : Int} : fKp g (fu g 148 0 z) := fun c j' k => fu_ne (by unfold gx_K gx_P at k; omega)
theorem ax_Aq_p {p : Nat} (hp : 2 ≤ p % 8 ∧ p % 8 ≤ 6 ∧ p < 1280 ∧ (p % 8 = 2 → p / 8 < 160)) : ax_Aq (0, p, 0) p := Or.inl ⟨rfl, [], ax_V.ref ⟨hp.1, hp.2.1, (by show p < _; omega), hp.2.2.2⟩⟩
/-- what the class has said, of an int: refused (1), or told (0) -/
def PWi (ok : Prop) (val : Int) (g : Nat → Nat → Int) (k v : Nat) (g1 : Nat → Nat → Int) : Prop := k = 1 ∧ fKp g g1 ∧ (∀ j, g1 149 j = g 149 j) ∧ ((¬ ok ∧ v = fI 1) ∨ (ok ∧ v = fI 0 ∧ g1 159 0 = ((fJ val - 4 : Nat) : Int)))
/-- what the reference has said -/
def PMi (ok : Prop) (val : Int) (g1 : Nat → Nat → Int) (k w : Nat) (g2 : Nat → Nat → Int) : Prop := k = 1 ∧ ∃ zw, w = fI zw ∧ fR zw ∧ fKp g1 g2 ∧ g2 159 0 = g1 159 0 ∧ ((¬ ok ∧ g2 148 0 = 1) ∨ (ok ∧ g2 148 0 = 0 ∧ zw = val))
end
section
/-! fx: eaten, on both sides -/
section G8
variable {W : ax_W} {r : Nat} {g : Nat → Nat → Int} {Q : Nat → Nat → (Nat → Nat → Int) → Prop}
theorem sp_ceatenAt {a b : Int} (ha : 0 ≤ a ∧ a < 6) (hb : 0 ≤ b ∧ b ≤ 7) (kq : Q 1 (fI (g 6 (a * 8 + b).toNat)) g) : fx W r 0 24 0 [26, fI a, fI b] [] g Q := by
  refine fx_la 0 1 (v := 26) (by decide +kernel) rfl (by decide +kernel) ?_
  refine fx_gp 26 3 2 50 4 (by decide +kernel) ?_
  refine fx_li 1 5 (by decide +kernel) rfl ?_
  refine fx_ci (8) 7 (by decide +kernel) ?_
  refine fx_mul 8 (by decide +kernel) rfl ?_
  refine fx_li 2 9 (by decide +kernel) rfl ?_
  refine fx_add 10 (by decide +kernel) rfl ?_
  refine fx_al 50 6 48 11 (by decide +kernel) rfl (by omega) (by omega) rfl ?_
  refine fx_ret (by decide +kernel) ?_
  exact kq
theorem sp_meatenOf {a b : Int} (ha : 0 ≤ a ∧ a < 6) (hb : 0 ≤ b ∧ b ≤ 7) (kq : Q 1 (fI (g 149 (68 + 8 * a + b).toNat)) g) : fx W r 0 313 0 [1186, fI a, fI b] [] g Q := by
  refine fx_la 0 1 (v := 1186) (by decide +kernel) rfl (by decide +kernel) ?_
  refine fx_gp 1186 148 1 1194 4 (by decide +kernel) ?_
  refine fx_ci (68) 6 (by decide +kernel) ?_
  refine fx_ci (8) 8 (by decide +kernel) ?_
  refine fx_li 1 9 (by decide +kernel) rfl ?_
  refine fx_mul 10 (by decide +kernel) rfl ?_
  refine fx_add 11 (by decide +kernel) rfl ?_
  refine fx_li 2 12 (by decide +kernel) rfl ?_
  refine fx_add 13 (by decide +kernel) rfl ?_
  refine fx_al 1194 149 764 14 (by decide +kernel) rfl (by omega) (by omega) rfl ?_
  refine fx_ret (by decide +kernel) ?_
  exact kq
theorem sp_ceaten {a b : Int} (hr : 1 ≤ r) (ha : fR a) (hb : fR b) (h0 : 0 ≤ g 3 5) (h1 : g 3 5 ≤ 6) (k1 : ¬ ((0 ≤ a ∧ a < g 3 5) ∧ 0 ≤ b ∧ b ≤ 7) → Q 4 0 g) (k3 : (0 ≤ a ∧ a < g 3 5) ∧ 0 ≤ b ∧ b ≤ 7 → Q 1 (fI (g 6 (a * 8 + b).toNat)) g) : fx W r 1 138 0 [2, fI a, fI b] [] g Q := by
  refine fx_la 0 1 (v := 2) (by decide +kernel) rfl (by decide +kernel) ?_
  refine fx_li 1 2 (by decide +kernel) rfl ?_
  refine fx_c2 139 21 5 0 [] (by decide +kernel) (by decide) (by decide) (fI_n4 _) rfl (by first | decide | omega) ?_
  refine sp_needDish hr ha h0 h1 (fun t1 => fK0 ?_) (fun t1 => fK2 (k := 2) ?_)
  · refine fx_la 0 6 (v := 2) (by decide +kernel) rfl (by decide +kernel) ?_
    refine fx_li 2 7 (by decide +kernel) rfl ?_
    refine fx_c2 140 21 10 0 [] (by decide +kernel) (by decide) (by decide) (fI_n4 _) rfl (by first | decide | omega) ?_
    refine sp_needPlace hr hb (fun t2 => fK0 ?_) (fun t2 => fK2 (k := 2) ?_)
    · refine fx_la 0 11 (v := 2) (by decide +kernel) rfl (by decide +kernel) ?_
      refine fx_gp 2 0 1 26 14 (by decide +kernel) ?_
      refine fx_li 1 15 (by decide +kernel) rfl ?_
      refine fx_li 2 16 (by decide +kernel) rfl ?_
      refine fx_c3 24 21 19 0 [] (by decide +kernel) (by decide) (by decide) (fI_n4 _) (fI_n4 _) rfl (by first | decide | omega) ?_
      refine sp_ceatenAt ⟨t1.1, by omega⟩ t2 (fK1 ?_)
      refine fx_ret (by decide +kernel) ?_
      exact k3 ⟨t1, t2⟩
    · exact k1 (fun t => t2 t.2)
  · exact k1 (fun t => t1 t.1)
theorem sp_meaten {a b : Int} (ha : fR a) (hb : fR b) (h0 : 0 ≤ g 149 4) (h1 : g 149 4 ≤ 6) (k1 : ¬ ((0 ≤ a ∧ a < g 149 4) ∧ 0 ≤ b ∧ b ≤ 7) → Q 1 (fI 0) (fu g 148 0 1)) (k3 : (0 ≤ a ∧ a < g 149 4) ∧ 0 ≤ b ∧ b ≤ 7 → Q 1 (fI (g 149 (68 + 8 * a + b).toNat)) (fu g 148 0 0)) : fx W r 2 310 0 [1186, fI a, fI b] [] g Q := by
  have ha2 := ha
  have hb2 := hb
  unfold fR at ha2 hb2
  refine fx_la 0 1 (v := 1186) (by decide +kernel) rfl (by decide +kernel) ?_
  refine fx_la 0 2 (v := 1186) (by decide +kernel) rfl (by decide +kernel) ?_
  refine fx_li 1 3 (by decide +kernel) rfl ?_
  refine fx_c2 311 21 6 1 [] (by decide +kernel) (by decide) (by decide) (fI_n4 _) rfl (by first | decide | omega) ?_
  refine sp_misDish ha h0 h1 (fun t1 => fK1 ?_) (fun t1 => fK1 ?_)
  · refine fx_zeq 16 9 (by decide +kernel) (by unfold fR; omega) (fun hc => absurd hc (by decide)) (fun _ => ?_)
    refine fx_li 2 10 (by decide +kernel) rfl ?_
    refine fx_c1 312 22 13 1 [] (f_q22 (by decide +kernel)) (fI_n4 _) rfl (by first | decide | omega) ?_
    refine sp_misPlace hb (fun t2 => fK1 ?_) (fun t2 => fK1 ?_)
    · refine fx_zne 20 16 (by decide +kernel) (by unfold fR; omega) (fun _ => ?_) (fun hc => absurd hc (by decide))
      refine fx_ci (0) 21 (by decide +kernel) ?_
      refine fx_pi 1186 148 0 24 (by decide +kernel) (by unfold fR; omega) ?_
      refine fx_la 0 25 (v := 1186) (by decide +kernel) rfl (by decide +kernel) ?_
      refine fx_gi 1186 148 0 28 (by decide +kernel) ?_
      try simp only [fu_app, fcy_app, Nat.reduceEqDiff, and_true, and_false, false_and, true_and, if_true, if_false, ite_true, ite_false, reduceIte, Int.reduceToNat, fx_simp0]
      refine fx_zle 35 31 (by decide +kernel) (by unfold fR; omega) (fun h28 => ?_) (fun h28 => ?_)
      · refine fx_la 0 36 (v := 1186) (by decide +kernel) rfl (by decide +kernel) ?_
        refine fx_li 1 37 (by decide +kernel) rfl ?_
        refine fx_li 2 38 (by decide +kernel) rfl ?_
        refine fx_c3 313 21 41 0 [] (by decide +kernel) (by decide) (by decide) (fI_n4 _) (fI_n4 _) rfl (by first | decide | omega) ?_
        refine sp_meatenOf ⟨t1.1, by omega⟩ t2 (fK1 ?_)
        refine fx_ret (by decide +kernel) ?_
        exact k3 ⟨t1, t2⟩
      · refine fx_ci (0) 32 (by decide +kernel) ?_
        refine fx_go 41 (by decide +kernel) ?_
        refine fx_ret (by decide +kernel) ?_
        exfalso; omega
    · refine fx_zne 20 16 (by decide +kernel) (by unfold fR; omega) (fun hc => absurd hc (by decide)) (fun _ => ?_)
      refine fx_ci (1) 17 (by decide +kernel) ?_
      refine fx_go 21 (by decide +kernel) ?_
      refine fx_pi 1186 148 0 24 (by decide +kernel) (by unfold fR; omega) ?_
      refine fx_la 0 25 (v := 1186) (by decide +kernel) rfl (by decide +kernel) ?_
      refine fx_gi 1186 148 0 28 (by decide +kernel) ?_
      try simp only [fu_app, fcy_app, Nat.reduceEqDiff, and_true, and_false, false_and, true_and, if_true, if_false, ite_true, ite_false, reduceIte, Int.reduceToNat, fx_simp0]
      refine fx_zle 35 31 (by decide +kernel) (by unfold fR; omega) (fun h28 => ?_) (fun h28 => ?_)
      · exfalso; omega
      · refine fx_ci (0) 32 (by decide +kernel) ?_
        refine fx_go 41 (by decide +kernel) ?_
        refine fx_ret (by decide +kernel) ?_
        exact k1 (fun t => t2 t.2)
  · refine fx_zeq 16 9 (by decide +kernel) (by unfold fR; omega) (fun _ => ?_) (fun hc => absurd hc (by decide))
    refine fx_ci (1) 17 (by decide +kernel) ?_
    refine fx_go 21 (by decide +kernel) ?_
    refine fx_pi 1186 148 0 24 (by decide +kernel) (by unfold fR; omega) ?_
    refine fx_la 0 25 (v := 1186) (by decide +kernel) rfl (by decide +kernel) ?_
    refine fx_gi 1186 148 0 28 (by decide +kernel) ?_
    try simp only [fu_app, fcy_app, Nat.reduceEqDiff, and_true, and_false, false_and, true_and, if_true, if_false, ite_true, ite_false, reduceIte, Int.reduceToNat, fx_simp0]
    refine fx_zle 35 31 (by decide +kernel) (by unfold fR; omega) (fun h28 => ?_) (fun h28 => ?_)
    · exfalso; omega
    · refine fx_ci (0) 32 (by decide +kernel) ?_
      refine fx_go 41 (by decide +kernel) ?_
      refine fx_ret (by decide +kernel) ?_
      exact k1 (fun t => t1 t.1)
theorem sp_weaten {a b : Int} (hl : 1 ≤ W.lim) (ha : fR a) (hb : fR b) (h0 : 0 ≤ g 3 5) (h1 : g 3 5 ≤ 6) (k1 : ¬ ((0 ≤ a ∧ a < g 3 5) ∧ 0 ≤ b ∧ b ≤ 7) → Q 1 (fI 1) g) (k3 : (0 ≤ a ∧ a < g 3 5) ∧ 0 ≤ b ∧ b ≤ 7 → Q 1 (fI 0) (fu g 159 0 ((fJ (g 6 (a * 8 + b).toNat) - 4 : Nat) : Int))) : fx W 1 2 137 0 [2, fI a, fI b, 1274, 7] [] g Q := by
  refine fx_la 3 1 (v := 1274) (by decide +kernel) rfl (by decide +kernel) ?_
  refine fx_ci (0) 2 (by decide +kernel) ?_
  refine fx_la 0 3 (v := 2) (by decide +kernel) rfl (by decide +kernel) ?_
  refine fx_li 1 4 (by decide +kernel) rfl ?_
  refine fx_li 2 5 (by decide +kernel) rfl ?_
  obtain ⟨e1, e2⟩ := f_qm_ok (W := W) (L := [2, fI a, fI b, 1274, 7]) (g := g) (S := [fI b, fI a, 2, fI 0, 1274]) (rest := [fI 0, 1274]) (mi := 137) (pc := 5) (mj := 138) (n := 3) (op := 21) (a := 2) (av' := [fI a, fI b]) (by decide +kernel) (by decide +kernel) (fun K => rfl) (fun t => absurd t (by decide))
  refine fx_callH (l := 0) (r := 0) (by omega) e1 e2 (by decide +kernel) (dj := 1) (by decide) (by decide +kernel) (pc' := 8) rfl (Lj := [2, fI a, fI b]) (f_xp (f_n4_3 (by decide)) (show 3 ≤ _ by decide +kernel)) ?_
  refine sp_ceaten (Nat.le_refl 1) ha hb h0 h1 (fun t => ?_) (fun t => ?_)
  · refine fKH2 2 15 4 (by decide +kernel) (Or.inr (f_n4p (v := 1274) rfl (by decide))) rfl ?_
    dsimp only [List.set]
    exact fx_ci 1 16 (by decide +kernel) (fx_ret (by decide +kernel) (k1 t))
  · refine fKH1 ?_
    refine fx_i2l 9 (by decide +kernel) rfl ?_
    refine fx_las 1274 159 1 10 (by decide +kernel) rfl (by omega) (by omega) (by decide +kernel) (fJ_ok _).1 (fJ_ok _).2 ?_
    exact fx_go 17 (by decide +kernel) (fx_ci 0 18 (by decide +kernel) (fx_ret (by decide +kernel) (k3 t)))
end G8
end
section
/-! fx: how far two places are, on both sides -/
theorem fbt_lsb (x : Int) {p : Nat} (hp : p < 8) : fbt x (p : Int) = if (Int32.ofInt x).toBitVec.getLsbD p then 1 else 0 := by
  have e : fbt x (p : Int) = (Int32.ofInt ((Int32.ofInt x >>> (Int32.ofInt (p : Int) &&& 31)).toInt) &&& Int32.ofInt 1).toInt := rfl
  rw [e, Int32.ofInt_toInt]
  show (Int32.ofInt x >>> (Int32.ofInt (p : Int) &&& 31) &&& Int32.ofInt 1).toBitVec.toInt = _
  rw [Int32.toBitVec_and, Int32.toBitVec_shiftRight]
  have hs : ((Int32.ofInt (p : Int) &&& 31).toBitVec.smod 32) = BitVec.ofNat 32 p := by
    have h : ∀ q : Fin 8, ((Int32.ofInt ((q.val : Nat) : Int) &&& 31).toBitVec.smod 32) = BitVec.ofNat 32 q.val := by decide +kernel
    exact h ⟨p, hp⟩
  rw [hs]
  have h1 : (Int32.ofInt 1).toBitVec = 1#32 := by decide
  rw [h1, BitVec.and_one_eq_setWidth_ofBool_getLsbD]
  have h2 : ((Int32.ofInt x).toBitVec.sshiftRight' (BitVec.ofNat 32 p)).getLsbD 0 = (Int32.ofInt x).toBitVec.getLsbD p := by
    have t : (BitVec.ofNat 32 p).toNat = p := by rw [BitVec.toNat_ofNat]; omega
    unfold BitVec.sshiftRight'
    rw [t, BitVec.getLsbD_sshiftRight]
    simp
    intro q
    omega
  rw [h2]
  cases (Int32.ofInt x).toBitVec.getLsbD p <;> decide
theorem fbt_or (x y : Int) {p : Nat} (hp : p < 8) : fbt (fop 4 x y) (p : Int) = 1 ↔ fbt x (p : Int) = 1 ∨ fbt y (p : Int) = 1 := by
  rw [fbt_lsb _ hp, fbt_lsb _ hp, fbt_lsb _ hp]
  have e : Int32.ofInt (fop 4 x y) = Int32.ofInt x ||| Int32.ofInt y := by
    have e1 : fop 4 x y = (Int32.ofInt x ||| Int32.ofInt y).toInt := rfl
    rw [e1, Int32.ofInt_toInt]
  rw [e, Int32.toBitVec_or, BitVec.getLsbD_or]
  cases (Int32.ofInt x).toBitVec.getLsbD p <;> cases (Int32.ofInt y).toBitVec.getLsbD p <;> decide
theorem f_shl8 : ∀ q : Fin 8, fop 6 1 ((q.val : Nat) : Int) = ((2 ^ q.val : Nat) : Int) := by decide +kernel
theorem f_lsb8 : ∀ a p : Fin 8, (Int32.ofInt ((2 ^ a.val : Nat) : Int)).toBitVec.getLsbD p.val = decide (p.val = a.val) := by decide +kernel
theorem fbt_sh {a p : Nat} (ha : a < 8) (hp : p < 8) : fbt (fop 6 1 (a : Int)) (p : Int) = 1 ↔ p = a := by
  rw [f_shl8 ⟨a, ha⟩, fbt_lsb _ hp, f_lsb8 ⟨a, ha⟩ ⟨p, hp⟩]
  by_cases h : p = a
  · simp [h]
  · simp [h]
/-- places where one can be by n roads at most -/
def pS (rd : Nat → Int) (a : Nat) : Nat → Nat → Prop
  | 0, p => p = a
  | n + 1, p => pS rd a n p ∨ ∃ q, q < 8 ∧ pS rd a n q ∧ fbt (rd q) (p : Int) = 1
theorem pS_mono {rd : Nat → Int} {a p : Nat} : ∀ {m n : Nat}, n ≤ m → pS rd a n p → pS rd a m p
  | 0, n, h, q => by
    have e : n = 0 := by omega
    subst e; exact q
  | m + 1, n, h, q => by
    by_cases e : n = m + 1
    · subst e; exact q
    · exact Or.inl (pS_mono (m := m) (by omega) q)
/-- by n roads, and by no fewer -/
def pE (rd : Nat → Int) (a n p : Nat) : Prop := pS rd a n p ∧ ∀ i, i < n → ¬ pS rd a i p
theorem pE_ex {rd : Nat → Int} {a p : Nat} : ∀ {n : Nat}, pS rd a n p → ∃ i, i ≤ n ∧ pE rd a i p
  | 0, h => ⟨0, Nat.le_refl _, h, fun i hi => absurd hi (Nat.not_lt_zero _)⟩
  | n + 1, h => by
    by_cases q : pS rd a n p
    · obtain ⟨i, h1, h2⟩ := pE_ex q
      exact ⟨i, by omega, h2⟩
    · exact ⟨n + 1, Nat.le_refl _, h, fun i hi t => q (pS_mono (by omega) t)⟩
theorem pE_uniq {rd : Nat → Int} {a p i j : Nat} (h1 : pE rd a i p) (h2 : pE rd a j p) : i = j := by
  rcases Nat.lt_trichotomy i j with h | h | h
  · exact absurd h1.1 (h2.2 i h)
  · exact h
  · exact absurd h2.1 (h1.2 j h)
noncomputable def pD (rd : Nat → Int) (a b : Nat) : Nat → Nat → Int
  | 0, _ => -1
  | l + 1, n => @ite Int (pS rd a n b) (Classical.propDecidable _) (n : Int) (pD rd a b l (n + 1))
theorem pD_b (rd : Nat → Int) (a b : Nat) : ∀ l n : Nat, -1 ≤ pD rd a b l n ∧ pD rd a b l n ≤ n + l
  | 0, n => ⟨Int.le_refl _, by show (-1 : Int) ≤ n + 0; omega⟩
  | l + 1, n => by
    classical
    have h := pD_b rd a b l (n + 1)
    have e : pD rd a b (l + 1) n = if pS rd a n b then (n : Int) else pD rd a b l (n + 1) := rfl
    rw [e]
    split <;> omega
/-- what the reference's row says behind n rounds -/
def pF (rd : Nat → Int) (a n : Nat) (F : Nat → Int) : Prop := ∀ p : Nat, p < 8 → (pS rd a n p → ∃ i : Nat, i ≤ n ∧ F p = (i : Int) ∧ pE rd a i p) ∧ (¬ pS rd a n p → F p = -1)
theorem pF_D {rd : Nat → Int} {a b : Nat} {F : Nat → Int} (h : pF rd a 7 F) (hb : b < 8) : ∀ l n : Nat, n + l = 8 → (∀ i, i < n → ¬ pS rd a i b) → pD rd a b l n = F b
  | 0, n, hn, hi => by
    have e : n = 8 := by omega
    subst e
    show (-1 : Int) = F b
    exact ((h b hb).2 (hi 7 (by omega))).symm
  | l + 1, n, hn, hi => by
    classical
    have e : pD rd a b (l + 1) n = if pS rd a n b then (n : Int) else pD rd a b l (n + 1) := rfl
    rw [e]
    by_cases q : pS rd a n b
    · rw [if_pos q]
      obtain ⟨i, h1, h2, h3⟩ := (h b hb).1 (pS_mono (by omega) q)
      rw [h2, pE_uniq h3 ⟨q, hi⟩]
    · rw [if_neg q]
      exact pF_D h hb l (n + 1) (by omega) (fun i h1 => by
        by_cases t : i = n
        · subst t; exact q
        · exact hi i (by omega))
/-- within round n + 1, at the road from k to o -/
def pX (rd : Nat → Int) (a n k o p : Nat) : Prop := ∃ q, q < 8 ∧ (q < k ∨ (q = k ∧ p < o)) ∧ pE rd a n q ∧ fbt (rd q) (p : Int) = 1
def pG (rd : Nat → Int) (a n k o : Nat) (F : Nat → Int) : Prop := ∀ p : Nat, p < 8 → (pS rd a n p → ∃ i : Nat, i ≤ n ∧ F p = (i : Int) ∧ pE rd a i p) ∧ (¬ pS rd a n p → (F p = (n : Int) + 1 ∧ pX rd a n k o p) ∨ (F p = -1 ∧ ¬ pX rd a n k o p))
theorem pG_0 {rd : Nat → Int} {a n : Nat} {F : Nat → Int} (h : pF rd a n F) : pG rd a n 0 0 F := fun p hp => ⟨(h p hp).1, fun t => Or.inr ⟨(h p hp).2 t, fun ⟨q, _, q2, _⟩ => by omega⟩⟩
theorem pG_8 {rd : Nat → Int} {a n : Nat} {F : Nat → Int} (h : pG rd a n 8 0 F) : pF rd a (n + 1) F := fun p hp => by
  obtain ⟨h1, h2⟩ := h p hp
  refine ⟨fun t => ?_, fun t => ?_⟩
  · by_cases q : pS rd a n p
    · obtain ⟨i, i1, i2, i3⟩ := h1 q
      exact ⟨i, by omega, i2, i3⟩
    · rcases t with t | ⟨q', q1, q2, q3⟩
      · exact absurd t q
      · have ee : pE rd a n q' := by
          refine ⟨q2, fun i hi t2 => q ?_⟩
          exact pS_mono (n := i + 1) (by omega) (Or.inr ⟨q', q1, t2, q3⟩)
        rcases h2 q with ⟨f1, -⟩ | ⟨-, f2⟩
        · exact ⟨n + 1, Nat.le_refl _, by rw [f1]; rfl, Or.inr ⟨q', q1, q2, q3⟩, fun i hi t2 => q (pS_mono (by omega) t2)⟩
        · exact absurd ⟨q', q1, Or.inl q1, ee, q3⟩ f2
  · rcases h2 (fun q => t (Or.inl q)) with ⟨-, q', q1, -, q3, q4⟩ | ⟨f1, -⟩
    · exact absurd (Or.inr ⟨q', q1, q3.1, q4⟩) t
    · exact f1
theorem pX_k {rd : Nat → Int} {a n k p : Nat} (hp : p < 8) (hk : k < 8) : pX rd a n k 8 p ↔ pX rd a n (k + 1) 0 p :=
  ⟨fun ⟨q, q1, q2, q3⟩ => ⟨q, q1, by omega, q3⟩, fun ⟨q, q1, q2, q3⟩ => ⟨q, q1, by omega, q3⟩⟩
theorem pG_k {rd : Nat → Int} {a n k : Nat} {F : Nat → Int} (hk : k < 8) (h : pG rd a n k 8 F) : pG rd a n (k + 1) 0 F := fun p hp => ⟨(h p hp).1, fun t => by
  rw [← pX_k hp hk]
  exact (h p hp).2 t⟩
theorem pX_o {rd : Nat → Int} {a n k o p : Nat} (hk : k < 8) : pX rd a n k (o + 1) p ↔ pX rd a n k o p ∨ (p = o ∧ pE rd a n k ∧ fbt (rd k) (p : Int) = 1) := by
  constructor
  · rintro ⟨q, q1, q2, q3, q4⟩
    by_cases t : q = k ∧ p = o
    · obtain ⟨rfl, rfl⟩ := t
      exact Or.inr ⟨rfl, q3, q4⟩
    · exact Or.inl ⟨q, q1, by omega, q3, q4⟩
  · rintro (⟨q, q1, q2, q3⟩ | ⟨rfl, q3, q4⟩)
    · exact ⟨q, q1, by omega, q3⟩
    · exact ⟨k, hk, Or.inr ⟨rfl, by omega⟩, q3, q4⟩
/-- the test of far[k] says whether k lies just n roads away -/
theorem pG_t {rd : Nat → Int} {a n k o p : Nat} {F : Nat → Int} (h : pG rd a n k o F) (hp : p < 8) : F p = (n : Int) ↔ pE rd a n p := by
  obtain ⟨h1, h2⟩ := h p hp
  by_cases q : pS rd a n p
  · obtain ⟨i, i1, i2, i3⟩ := h1 q
    constructor
    · intro t
      have e : i = n := by omega
      rw [← e]; exact i3
    · intro t
      rw [i2, pE_uniq i3 t]
  · constructor
    · intro t
      rcases h2 q with ⟨f1, -⟩ | ⟨f1, -⟩ <;> omega
    · intro t
      exact absurd t.1 q
/-- nothing is set at the road from k to o -/
theorem pG_n {rd : Nat → Int} {a n k o : Nat} {F : Nat → Int} (hk : k < 8) (h : pG rd a n k o F) (ho : o < 8) (t : ¬ (F k = (n : Int) ∧ fbt (rd k) (o : Int) = 1 ∧ F o = -1)) : pG rd a n k (o + 1) F := fun p hp => by
  obtain ⟨h1, h2⟩ := h p hp
  refine ⟨h1, fun q => ?_⟩
  rw [pX_o hk]
  rcases h2 q with ⟨f1, f2⟩ | ⟨f1, f2⟩
  · exact Or.inl ⟨f1, Or.inl f2⟩
  · refine Or.inr ⟨f1, fun u => ?_⟩
    rcases u with u | ⟨rfl, u1, u2⟩
    · exact f2 u
    · exact t ⟨(pG_t h hk).mpr u1, u2, f1⟩
/-- o is set -/
theorem pG_y {rd : Nat → Int} {a n k o : Nat} {F F' : Nat → Int} (hk : k < 8) (h : pG rd a n k o F) (ho : o < 8) (t1 : F k = (n : Int)) (t2 : fbt (rd k) (o : Int) = 1) (t3 : F o = -1) (e1 : F' o = (n : Int) + 1) (e2 : ∀ p, p ≠ o → F' p = F p) : pG rd a n k (o + 1) F' := fun p hp => by
  obtain ⟨h1, h2⟩ := h p hp
  by_cases e : p = o
  · subst e
    refine ⟨fun q => ?_, fun q => Or.inl ⟨e1, (pX_o hk).mpr (Or.inr ⟨rfl, (pG_t h hk).mp t1, t2⟩)⟩⟩
    obtain ⟨i, i1, i2, i3⟩ := h1 q
    omega
  · rw [e2 p e]
    refine ⟨h1, fun q => ?_⟩
    rw [pX_o hk]
    rcases h2 q with ⟨f1, f2⟩ | ⟨f1, f2⟩
    · exact Or.inl ⟨f1, Or.inl f2⟩
    · exact Or.inr ⟨f1, fun u => u.elim f2 (fun u => e u.1)⟩
section G19
variable {W : ax_W} {r : Nat} {g : Nat → Nat → Int} {Q : Nat → Nat → (Nat → Nat → Int) → Prop}
theorem sp_reach_1 {pl : Int} (hpl : fR pl) (kq : ∀ z, fR z → (∀ p : Nat, p < 8 → (fbt z (p : Int) = 1 ↔ fbt pl (p : Int) = 1 ∨ ∃ q : Nat, q < 8 ∧ fbt pl (q : Int) = 1 ∧ fbt (g 7 q) (p : Int) = 1)) → Q 1 (fI z) g) : ∀ (l k : Nat) (z : Int), k + l = 8 → fR z → (∀ p : Nat, p < 8 → (fbt z (p : Int) = 1 ↔ fbt pl (p : Int) = 1 ∨ ∃ q : Nat, q < k ∧ fbt pl (q : Int) = 1 ∧ fbt (g 7 q) (p : Int) = 1)) → fx W r 1 135 4 [26, fI pl, fI z, fI (k : Int)] [] g Q
  | l, k, z, hl, hz, hi => by
    refine fx_li 3 5 (by decide +kernel) rfl ?_
    refine fx_ci (8) 7 (by decide +kernel) ?_
    refine fx_ige 33 10 (by decide +kernel) (by unfold fR; omega) (by unfold fR; omega) (fun h7 => ?_) (fun h7 => ?_)
    · refine fx_li 2 34 (by decide +kernel) rfl ?_
      refine fx_ret (by decide +kernel) ?_
      have e : k = 8 := by omega
      subst e
      exact kq z hz hi
    · refine fx_li 1 11 (by decide +kernel) rfl ?_
      refine fx_li 3 12 (by decide +kernel) rfl ?_
      refine fx_c2 23 22 15 0 [] (f_q22 (by decide +kernel)) (by decide) (fI_n4 _) (fI_n4 _) rfl (by first | decide | omega) ?_
      refine sp_chas (fK1 ?_)
      have h01 := fbt_01 pl (k : Int)
      refine fx_zeq 27 18 (by decide +kernel) (by unfold fR; omega) (fun h15 => ?_) (fun h15 => ?_)
      · refine fx_inc 3 30 (1) (by decide +kernel) rfl (Or.inr (fI_n4 _)) rfl ?_
        dsimp only [List.set]
        refine fx_go 4 (by decide +kernel) ?_
        match l, hl with
        | 0, hl => exfalso; omega
        | l + 1, hl =>
          refine sp_reach_1 hpl kq l (k + 1) z (by omega) hz (fun p hp => (hi p hp).trans ⟨fun t => ?_, fun t => ?_⟩)
          · rcases t with t | ⟨q, q1, q2, q3⟩
            · exact Or.inl t
            · exact Or.inr ⟨q, by omega, q2, q3⟩
          · rcases t with t | ⟨q, q1, q2, q3⟩
            · exact Or.inl t
            · by_cases e : q = k
              · subst e; omega
              · exact Or.inr ⟨q, by omega, q2, q3⟩
      · refine fx_li 2 19 (by decide +kernel) rfl ?_
        refine fx_la 0 20 (v := 26) (by decide +kernel) rfl (by decide +kernel) ?_
        refine fx_gp 26 3 3 58 23 (by decide +kernel) ?_
        refine fx_li 3 24 (by decide +kernel) rfl ?_
        refine fx_al 58 7 8 25 (by decide +kernel) rfl (by omega) (by omega) rfl ?_
        try simp only [fu_app, fcy_app, Nat.reduceEqDiff, and_true, and_false, false_and, true_and, if_true, if_false, ite_true, ite_false, reduceIte, Int.reduceToNat, fx_simp0]
        rw [show ((k : Int)).toNat = k from rfl]
        refine fx_bin 4 26 (by decide +kernel) rfl (fun h => absurd h (by decide)) ?_
        refine fx_si 2 27 (by decide +kernel) (Or.inr (fI_n4 _)) rfl ?_
        dsimp only [List.set]
        refine fx_inc 3 30 (1) (by decide +kernel) rfl (Or.inr (fI_n4 _)) rfl ?_
        dsimp only [List.set]
        refine fx_go 4 (by decide +kernel) ?_
        have hor : ∀ p : Nat, p < 8 → (fbt (fop 4 z (g 7 k)) (p : Int) = 1 ↔ fbt z (p : Int) = 1 ∨ fbt (g 7 k) (p : Int) = 1) := fun p hp => fbt_or z (g 7 k) hp
        have hzr : fR (fop 4 z (g 7 k)) := fop_R 4 z (g 7 k)
        generalize fop 4 z (g 7 k) = z' at hor hzr ⊢
        match l, hl with
        | 0, hl => exfalso; omega
        | l + 1, hl =>
          refine sp_reach_1 hpl kq l (k + 1) z' (by omega) hzr (fun p hp => (hor p hp).trans ⟨fun t => ?_, fun t => ?_⟩)
          · rcases t with t | t
            · rcases (hi p hp).mp t with t | ⟨q, q1, q2, q3⟩
              · exact Or.inl t
              · exact Or.inr ⟨q, by omega, q2, q3⟩
            · exact Or.inr ⟨k, by omega, by omega, t⟩
          · rcases t with t | ⟨q, q1, q2, q3⟩
            · exact Or.inl ((hi p hp).mpr (Or.inl t))
            · by_cases e : q = k
              · subst e
                exact Or.inr q3
              · exact Or.inl ((hi p hp).mpr (Or.inr ⟨q, by omega, q2, q3⟩))
theorem sp_reach {pl : Int} (hpl : fR pl) (kq : ∀ z, fR z → (∀ p : Nat, p < 8 → (fbt z (p : Int) = 1 ↔ fbt pl (p : Int) = 1 ∨ ∃ q : Nat, q < 8 ∧ fbt pl (q : Int) = 1 ∧ fbt (g 7 q) (p : Int) = 1)) → Q 1 (fI z) g) : fx W r 1 135 0 [26, fI pl, 7, 7] [] g Q := by
  refine fx_li 1 1 (by decide +kernel) rfl ?_
  refine fx_si 2 2 (by decide +kernel) (Or.inr (fI_n4 _)) rfl ?_
  dsimp only [List.set]
  refine fx_ci (0) 3 (by decide +kernel) ?_
  refine fx_si 3 4 (by decide +kernel) (Or.inr (fI_n4 _)) rfl ?_
  dsimp only [List.set]
  exact sp_reach_1 hpl kq 8 0 pl rfl hpl (fun p hp => ⟨fun t => Or.inl t, fun t => t.elim id (fun ⟨q, q1, _⟩ => absurd q1 (Nat.not_lt_zero _))⟩)
theorem sp_dist_1 {a b : Nat} (ha : a < 8) (hb : b < 8) (kq : Q 1 (fI (pD (g 7) a b 8 0)) g) : ∀ (l n : Nat) (z : Int), n + l = 8 → fR z → (∀ p : Nat, p < 8 → (fbt z (p : Int) = 1 ↔ pS (g 7) a n p)) → pD (g 7) a b l n = pD (g 7) a b 8 0 → fx W r 2 134 7 [26, fI (a : Int), fI (b : Int), fI z, fI (n : Int)] [] g Q
  | l, n, z, hl, hz, hi, e => by
    classical
    refine fx_li 4 9 (by decide +kernel) rfl ?_
    refine fx_ci (8) 11 (by decide +kernel) ?_
    refine fx_ige 37 14 (by decide +kernel) (by unfold fR; omega) (by unfold fR; omega) (fun h11 => ?_) (fun h11 => ?_)
    · refine fx_ci (-1) 38 (by decide +kernel) ?_
      refine fx_ret (by decide +kernel) ?_
      have e0 : l = 0 := by omega
      subst e0
      rw [← e] at kq
      exact kq
    · refine fx_li 3 15 (by decide +kernel) rfl ?_
      refine fx_li 2 16 (by decide +kernel) rfl ?_
      refine fx_c2 23 22 19 0 [] (f_q22 (by decide +kernel)) (by decide) (fI_n4 _) (fI_n4 _) rfl (by first | decide | omega) ?_
      refine sp_chas (fK1 ?_)
      have h01 := fbt_01 z (b : Int)
      refine fx_zeq 25 22 (by decide +kernel) (by unfold fR; omega) (fun h19 => ?_) (fun h19 => ?_)
      · refine fx_la 0 26 (v := 26) (by decide +kernel) rfl (by decide +kernel) ?_
        refine fx_li 3 27 (by decide +kernel) rfl ?_
        refine fx_c2 135 21 30 1 [7, 7] (by decide +kernel) (by decide) (by decide) (fI_n4 _) rfl (by first | decide | omega) ?_
        refine sp_reach hz (fun z' hz' hi' => fK1 ?_)
        refine fx_si 3 31 (by decide +kernel) (Or.inr (fI_n4 _)) rfl ?_
        dsimp only [List.set]
        refine fx_inc 4 34 (1) (by decide +kernel) rfl (Or.inr (fI_n4 _)) rfl ?_
        dsimp only [List.set]
        refine fx_go 7 (by decide +kernel) ?_
        match l, hl, e with
        | 0, hl, e => exfalso; omega
        | l + 1, hl, e =>
          have e1 : pD (g 7) a b (l + 1) n = pD (g 7) a b l (n + 1) := if_neg (fun t => by have := (hi b hb).mpr t; omega)
          refine sp_dist_1 ha hb kq l (n + 1) z' (by omega) hz' (fun p hp => (hi' p hp).trans ⟨fun t => ?_, fun t => ?_⟩) (e1.symm.trans e)
          · rcases t with t | ⟨q, q1, q2, q3⟩
            · exact Or.inl ((hi p hp).mp t)
            · exact Or.inr ⟨q, q1, (hi q q1).mp q2, q3⟩
          · rcases t with t | ⟨q, q1, q2, q3⟩
            · exact Or.inl ((hi p hp).mpr t)
            · exact Or.inr ⟨q, q1, (hi q q1).mpr q2, q3⟩
      · refine fx_li 4 24 (by decide +kernel) rfl ?_
        refine fx_ret (by decide +kernel) ?_
        match l, hl, e with
        | 0, hl, e => exfalso; omega
        | l + 1, hl, e =>
          have e1 : pD (g 7) a b (l + 1) n = (n : Int) := if_pos ((hi b hb).mp (by omega))
          rw [← e, e1] at kq
          exact kq
theorem sp_dist {a b : Nat} (ha : a < 8) (hb : b < 8) (kq : Q 1 (fI (pD (g 7) a b 8 0)) g) : fx W r 2 134 0 [26, fI (a : Int), fI (b : Int), 7, 7] [] g Q := by
  refine fx_ci (1) 1 (by decide +kernel) ?_
  refine fx_li 1 2 (by decide +kernel) rfl ?_
  refine fx_bin 6 3 (by decide +kernel) rfl (fun h => absurd h (by decide)) ?_
  refine fx_si 3 4 (by decide +kernel) (Or.inr (fI_n4 _)) rfl ?_
  dsimp only [List.set]
  refine fx_ci (0) 5 (by decide +kernel) ?_
  refine fx_si 4 7 (by decide +kernel) (Or.inr (fI_n4 _)) rfl ?_
  dsimp only [List.set]
  exact sp_dist_1 ha hb kq 8 0 (fop 6 1 (a : Int)) rfl (fop_R 6 1 (a : Int)) (fun p hp => fbt_sh ha hp) rfl
def fFA (g g' : Nat → Nat → Int) : Prop := ∀ c j, c ≠ 155 → g' c j = g c j
theorem fFA.fu {g g' : Nat → Nat → Int} {j : Nat} {z : Int} (h : fFA g g') : fFA g (fu g' 155 j z) := fun c j' hc => by rw [fu_nc hc]; exact h c j' hc
theorem sp_fars_0 {a : Nat} (kq : ∀ (g' : Nat → Nat → Int) (x3 x4 : Nat), fFA g g' → pF (fun q => g 149 (116 + q)) a 0 (g' 155) → fx W r 1 309 32 [1186, fI (a : Int), fI 1, x3, x4] [] g' Q) (ha : a < 8) : ∀ (l k : Nat) (x3 x4 : Nat) (g' : Nat → Nat → Int), k + l = 8 → fFA g g' → (∀ p : Nat, p < k → g' 155 p = if p = a then 0 else -1) → fx W r 1 309 2 [1186, fI (a : Int), fI (k : Int), x3, x4] [] g' Q
  | l, k, x3, x4, g', hl, hf, hi => by
    refine fx_li 2 3 (by decide +kernel) rfl ?_
    refine fx_ci (8) 5 (by decide +kernel) ?_
    refine fx_ige 30 8 (by decide +kernel) (by unfold fR; omega) (by unfold fR; omega) (fun h5 => ?_) (fun h5 => ?_)
    · refine fx_ci (1) 31 (by decide +kernel) ?_
      refine fx_si 2 32 (by decide +kernel) (Or.inr (fI_n4 _)) rfl ?_
      dsimp only [List.set]
      refine kq g' _ _ hf (fun p hp => ⟨fun t => ⟨0, Nat.le_refl _, ?_, t, fun i hi => absurd hi (Nat.not_lt_zero _)⟩, fun t => ?_⟩)
      · rw [hi p (by omega), if_pos (show p = a from t)]; rfl
      · rw [hi p (by omega), if_neg (show ¬ p = a from t)]
    · refine fx_la 0 9 (v := 1186) (by decide +kernel) rfl (by decide +kernel) ?_
      refine fx_gp 1186 148 20 1242 12 (by decide +kernel) ?_
      refine fx_li 2 13 (by decide +kernel) rfl ?_
      refine fx_li 2 14 (by decide +kernel) rfl ?_
      refine fx_li 1 15 (by decide +kernel) rfl ?_
      refine fx_ine 22 18 (by decide +kernel) (by unfold fR; omega) (by unfold fR; omega) (fun h15 => ?_) (fun h15 => ?_)
      · refine fx_cn (-1) 23 (by decide +kernel) (fun v22 c22 => ?_)
        refine fx_as 1242 155 8 24 (by decide +kernel) rfl (by omega) (by omega) rfl (by unfold fR; omega) ?_
        refine fx_inc 2 27 (1) (by decide +kernel) rfl (Or.inr (fI_n4 _)) rfl ?_
        dsimp only [List.set]
        refine fx_go 2 (by decide +kernel) ?_
        match l, hl with
        | 0, hl => exfalso; omega
        | l + 1, hl =>
          refine sp_fars_0 kq ha l (k + 1) _ _ _ (by omega) hf.fu (fun p hp => ?_)
          by_cases e : p = k
          · subst e
            have e2 : ¬ p = a := by omega
            rw [show ((p : Int)).toNat = p from rfl, fu_eq, if_neg e2, c22]
          · rw [show ((k : Int)).toNat = k from rfl, fu_nj e, hi p (by omega)]
      · refine fx_ci (0) 19 (by decide +kernel) ?_
        refine fx_go 23 (by decide +kernel) ?_
        refine fx_as 1242 155 8 24 (by decide +kernel) rfl (by omega) (by omega) rfl (by unfold fR; omega) ?_
        refine fx_inc 2 27 (1) (by decide +kernel) rfl (Or.inr (fI_n4 _)) rfl ?_
        dsimp only [List.set]
        refine fx_go 2 (by decide +kernel) ?_
        match l, hl with
        | 0, hl => exfalso; omega
        | l + 1, hl =>
          refine sp_fars_0 kq ha l (k + 1) _ _ _ (by omega) hf.fu (fun p hp => ?_)
          by_cases e : p = k
          · subst e
            have e2 : p = a := by omega
            rw [show ((p : Int)).toNat = p from rfl, fu_eq, if_pos e2]
          · rw [show ((k : Int)).toNat = k from rfl, fu_nj e, hi p (by omega)]
theorem sp_fars_3 {a n k : Nat} (hn : n < 7) (hk : k < 8) (kq : ∀ (g' : Nat → Nat → Int) (x4 : Nat), fFA g g' → pG (fun q => g 149 (116 + q)) a n k 8 (g' 155) → fx W r 1 309 40 [1186, fI (a : Int), fI ((n : Int) + 1), fI ((k : Int) + 1), x4] [] g' Q) : ∀ (l o : Nat) (g' : Nat → Nat → Int), o + l = 8 → fFA g g' → pG (fun q => g 149 (116 + q)) a n k o (g' 155) → fx W r 1 309 49 [1186, fI (a : Int), fI ((n : Int) + 1), fI (k : Int), fI (o : Int)] [] g' Q
  | l, o, g', hl, hf, hi => by
    refine fx_rg (fun hg => ?_)
    have f1 := hgA hg 8 (c := 155) (j := k) (by decide +kernel) hk
    unfold fR at f1
    refine fx_li 4 51 (by decide +kernel) rfl ?_
    refine fx_ci (8) 53 (by decide +kernel) ?_
    refine fx_ige 110 56 (by decide +kernel) (by unfold fR; omega) (by unfold fR; omega) (fun h53 => ?_) (fun h53 => ?_)
    · refine fx_inc 3 113 (1) (by decide +kernel) rfl (Or.inr (fI_n4 _)) rfl ?_
      dsimp only [List.set]
      refine fx_go 40 (by decide +kernel) ?_
      have e : o = 8 := by omega
      subst e
      exact kq g' _ hf hi
    · refine fx_la 0 57 (v := 1186) (by decide +kernel) rfl (by decide +kernel) ?_
      refine fx_gp 1186 148 20 1242 60 (by decide +kernel) ?_
      refine fx_li 3 61 (by decide +kernel) rfl ?_
      refine fx_al 1242 155 8 62 (by decide +kernel) rfl (by omega) (by omega) rfl ?_
      rw [show ((k : Int)).toNat = k from rfl]
      refine fx_li 2 63 (by decide +kernel) rfl ?_
      refine fx_ci (1) 64 (by decide +kernel) ?_
      refine fx_sub 65 (by decide +kernel) rfl ?_
      refine fx_ine 104 68 (by decide +kernel) (by unfold fR; omega) (by unfold fR; omega) (fun h65 => ?_) (fun h65 => ?_)
      · refine fx_inc 4 107 (1) (by decide +kernel) rfl (Or.inr (fI_n4 _)) rfl ?_
        dsimp only [List.set]
        refine fx_go 49 (by decide +kernel) ?_
        match l, hl with
        | 0, hl => exfalso; omega
        | l + 1, hl =>
          refine sp_fars_3 hn hk kq l (o + 1) _ (by omega) hf (pG_n hk hi (by omega) (fun t => ?_))
          have t2 : fbt (g 149 (116 + k)) (o : Int) = 1 := t.2.1
          omega
      · refine fx_la 0 69 (v := 1186) (by decide +kernel) rfl (by decide +kernel) ?_
        refine fx_gp 1186 148 1 1194 72 (by decide +kernel) ?_
        refine fx_ci (116) 74 (by decide +kernel) ?_
        refine fx_li 3 75 (by decide +kernel) rfl ?_
        refine fx_add 76 (by decide +kernel) rfl ?_
        refine fx_al 1194 149 764 77 (by decide +kernel) rfl (by omega) (by omega) rfl ?_
        rw [show (116 + (k : Int)).toNat = 116 + k by omega, hf 149 _ (by decide)]
        refine fx_li 4 79 (by decide +kernel) rfl ?_
        refine fx_c2 306 22 82 0 [] (f_q22 (by decide +kernel)) (by decide) (fI_n4 _) (fI_n4 _) rfl (by first | decide | omega) ?_
        refine sp_misOf (fK1 ?_)
        have h01 := fbt_01 (g 149 (116 + k)) (o : Int)
        have f2 := hgA hg 8 (c := 155) (j := o) (by decide +kernel) (by omega)
        unfold fR at f2
        refine fx_zeq 104 85 (by decide +kernel) (by unfold fR; omega) (fun h82 => ?_) (fun h82 => ?_)
        · refine fx_inc 4 107 (1) (by decide +kernel) rfl (Or.inr (fI_n4 _)) rfl ?_
          dsimp only [List.set]
          refine fx_go 49 (by decide +kernel) ?_
          match l, hl with
          | 0, hl => exfalso; omega
          | l + 1, hl =>
            refine sp_fars_3 hn hk kq l (o + 1) _ (by omega) hf (pG_n hk hi (by omega) (fun t => ?_))
            have t2 : fbt (g 149 (116 + k)) (o : Int) = 1 := t.2.1
            omega
        · refine fx_la 0 86 (v := 1186) (by decide +kernel) rfl (by decide +kernel) ?_
          refine fx_gp 1186 148 20 1242 89 (by decide +kernel) ?_
          refine fx_li 4 91 (by decide +kernel) rfl ?_
          refine fx_al 1242 155 8 92 (by decide +kernel) rfl (by omega) (by omega) rfl ?_
          try simp only [fu_app, fcy_app, Nat.reduceEqDiff, and_true, and_false, false_and, true_and, if_true, if_false, ite_true, ite_false, reduceIte, Int.reduceToNat, fx_simp0]
          rw [show ((o : Int)).toNat = o from rfl]
          refine fx_cn (-1) 93 (by decide +kernel) (fun v92 c92 => ?_)
          refine fx_ine 104 96 (by decide +kernel) (by unfold fR; omega) (by unfold fR; omega) (fun h93 => ?_) (fun h93 => ?_)
          · refine fx_inc 4 107 (1) (by decide +kernel) rfl (Or.inr (fI_n4 _)) rfl ?_
            dsimp only [List.set]
            refine fx_go 49 (by decide +kernel) ?_
            match l, hl with
            | 0, hl => exfalso; omega
            | l + 1, hl =>
              refine sp_fars_3 hn hk kq l (o + 1) _ (by omega) hf (pG_n hk hi (by omega) (fun t => ?_))
              have t2 : fbt (g 149 (116 + k)) (o : Int) = 1 := t.2.1
              omega
          · refine fx_la 0 97 (v := 1186) (by decide +kernel) rfl (by decide +kernel) ?_
            refine fx_gp 1186 148 20 1242 100 (by decide +kernel) ?_
            refine fx_li 4 102 (by decide +kernel) rfl ?_
            refine fx_li 2 103 (by decide +kernel) rfl ?_
            refine fx_as 1242 155 8 104 (by decide +kernel) rfl (by omega) (by omega) rfl (by unfold fR; omega) ?_
            refine fx_inc 4 107 (1) (by decide +kernel) rfl (Or.inr (fI_n4 _)) rfl ?_
            dsimp only [List.set]
            refine fx_go 49 (by decide +kernel) ?_
            match l, hl with
            | 0, hl => exfalso; omega
            | l + 1, hl =>
              refine sp_fars_3 hn hk kq l (o + 1) _ (by omega) hf.fu (pG_y hk hi (by omega) (by omega) (show fbt (g 149 (116 + k)) (o : Int) = 1 by omega) (by omega) ?_ (fun p hp => ?_))
              · rw [show ((o : Int)).toNat = o from rfl, fu_eq]
              · rw [show ((o : Int)).toNat = o from rfl, fu_nj hp]
theorem sp_fars_2 {a n : Nat} (hn : n < 7) (kq : ∀ (g' : Nat → Nat → Int) (x3 x4 : Nat), fFA g g' → pF (fun q => g 149 (116 + q)) a (n + 1) (g' 155) → fx W r 1 309 32 [1186, fI (a : Int), fI ((n : Int) + 1 + 1), x3, x4] [] g' Q) : ∀ (l k : Nat) (x4 : Nat) (g' : Nat → Nat → Int), k + l = 8 → fFA g g' → pG (fun q => g 149 (116 + q)) a n k 0 (g' 155) → fx W r 1 309 40 [1186, fI (a : Int), fI ((n : Int) + 1), fI (k : Int), x4] [] g' Q
  | l, k, x4, g', hl, hf, hi => by
    refine fx_li 3 41 (by decide +kernel) rfl ?_
    refine fx_ci (8) 43 (by decide +kernel) ?_
    refine fx_ige 116 46 (by decide +kernel) (by unfold fR; omega) (by unfold fR; omega) (fun h43 => ?_) (fun h43 => ?_)
    · refine fx_inc 2 119 (1) (by decide +kernel) rfl (Or.inr (fI_n4 _)) rfl ?_
      dsimp only [List.set]
      refine fx_go 32 (by decide +kernel) ?_
      have e : k = 8 := by omega
      subst e
      exact kq g' _ _ hf (pG_8 hi)
    · refine fx_ci (0) 47 (by decide +kernel) ?_
      refine fx_si 4 49 (by decide +kernel) (Or.inr (fI_n4 _)) rfl ?_
      dsimp only [List.set]
      match l, hl with
      | 0, hl => exfalso; omega
      | l + 1, hl => exact sp_fars_3 hn (by omega) (fun g2 y4 hf2 hi2 => sp_fars_2 hn kq l (k + 1) y4 g2 (by omega) hf2 (pG_k (by omega) hi2)) 8 0 g' rfl hf hi
theorem sp_fars_1 {a : Nat} (kq : ∀ g', fFA g g' → pF (fun q => g 149 (116 + q)) a 7 (g' 155) → Q 0 0 g') : ∀ (l n : Nat) (x3 x4 : Nat) (g' : Nat → Nat → Int), n + l = 7 → fFA g g' → pF (fun q => g 149 (116 + q)) a n (g' 155) → fx W r 1 309 32 [1186, fI (a : Int), fI ((n : Int) + 1), x3, x4] [] g' Q
  | l, n, x3, x4, g', hl, hf, hi => by
    refine fx_li 2 33 (by decide +kernel) rfl ?_
    refine fx_ci (8) 35 (by decide +kernel) ?_
    refine fx_ige 122 38 (by decide +kernel) (by unfold fR; omega) (by unfold fR; omega) (fun h35 => ?_) (fun h35 => ?_)
    · refine fx_vret (by decide +kernel) ?_
      have e : n = 7 := by omega
      subst e
      exact kq g' hf hi
    · refine fx_ci (0) 39 (by decide +kernel) ?_
      refine fx_si 3 40 (by decide +kernel) (Or.inr (fI_n4 _)) rfl ?_
      dsimp only [List.set]
      match l, hl with
      | 0, hl => exfalso; omega
      | l + 1, hl => exact sp_fars_2 (by omega) (fun g2 y3 y4 hf2 hi2 => sp_fars_1 kq l (n + 1) y3 y4 g2 (by omega) hf2 hi2) 8 0 x4 g' rfl hf (pG_0 hi)
theorem sp_fars {a : Nat} (ha : a < 8) (kq : ∀ g', fFA g g' → pF (fun q => g 149 (116 + q)) a 7 (g' 155) → Q 0 0 g') : fx W r 1 309 0 [1186, fI (a : Int), 7, 7, 7] [] g Q := by
  refine fx_ci (0) 1 (by decide +kernel) ?_
  refine fx_si 2 2 (by decide +kernel) (Or.inr (fI_n4 _)) rfl ?_
  dsimp only [List.set]
  exact sp_fars_0 (fun g' x3 x4 hf hi => sp_fars_1 kq 7 0 x3 x4 g' rfl hf hi) ha 8 0 7 7 g rfl (fun _ _ _ => rfl) (fun p hp => absurd hp (Nat.not_lt_zero _))
theorem sp_cfar {a b : Int} (hr : 1 ≤ r) (ha : fR a) (hb : fR b) (k1 : ¬ ((0 ≤ a ∧ a ≤ 7) ∧ 0 ≤ b ∧ b ≤ 7) → Q 4 0 g) (k3 : (0 ≤ a ∧ a ≤ 7) ∧ 0 ≤ b ∧ b ≤ 7 → Q 1 (fI (pD (g 7) a.toNat b.toNat 8 0)) g) : fx W r 3 180 0 [2, fI a, fI b] [] g Q := by
  refine fx_la 0 1 (v := 2) (by decide +kernel) rfl (by decide +kernel) ?_
  refine fx_li 1 2 (by decide +kernel) rfl ?_
  refine fx_c2 140 21 5 0 [] (by decide +kernel) (by decide) (by decide) (fI_n4 _) rfl (by first | decide | omega) ?_
  refine sp_needPlace hr ha (fun t1 => fK0 ?_) (fun t1 => fK2 (k := 2) ?_)
  · refine fx_la 0 6 (v := 2) (by decide +kernel) rfl (by decide +kernel) ?_
    refine fx_li 2 7 (by decide +kernel) rfl ?_
    refine fx_c2 140 21 10 0 [] (by decide +kernel) (by decide) (by decide) (fI_n4 _) rfl (by first | decide | omega) ?_
    refine sp_needPlace hr hb (fun t2 => fK0 ?_) (fun t2 => fK2 (k := 2) ?_)
    · refine fx_la 0 11 (v := 2) (by decide +kernel) rfl (by decide +kernel) ?_
      refine fx_gp 2 0 1 26 14 (by decide +kernel) ?_
      refine fx_li 1 15 (by decide +kernel) rfl ?_
      refine fx_li 2 16 (by decide +kernel) rfl ?_
      refine fx_c3 134 21 19 2 [7, 7] (by decide +kernel) (by decide) (by decide) (fI_n4 _) (fI_n4 _) rfl (by first | decide | omega) ?_
      have ea : a = ((a.toNat : Nat) : Int) := by omega
      have eb : b = ((b.toNat : Nat) : Int) := by omega
      rw [ea, eb]
      refine sp_dist (by omega) (by omega) (fK1 ?_)
      refine fx_ret (by decide +kernel) ?_
      exact k3 ⟨t1, t2⟩
    · exact k1 (fun t => t2 t.2)
  · exact k1 (fun t => t1 t.1)
theorem sp_mfar {a b : Int} (ha : fR a) (hb : fR b) (k1 : ¬ ((0 ≤ a ∧ a ≤ 7) ∧ 0 ≤ b ∧ b ≤ 7) → Q 1 (fI 0) (fu g 148 0 1)) (k3 : (0 ≤ a ∧ a ≤ 7) ∧ 0 ≤ b ∧ b ≤ 7 → ∀ g', fFA (fu g 148 0 0) g' → Q 1 (fI (pD (fun q => g 149 (116 + q)) a.toNat b.toNat 8 0)) g') : fx W r 2 338 0 [1186, fI a, fI b] [] g Q := by
  have ha2 := ha
  have hb2 := hb
  unfold fR at ha2 hb2
  refine fx_la 0 1 (v := 1186) (by decide +kernel) rfl (by decide +kernel) ?_
  refine fx_li 1 2 (by decide +kernel) rfl ?_
  refine fx_c1 312 22 5 1 [] (f_q22 (by decide +kernel)) (fI_n4 _) rfl (by first | decide | omega) ?_
  refine sp_misPlace ha (fun t1 => fK1 ?_) (fun t1 => fK1 ?_)
  · refine fx_zeq 15 8 (by decide +kernel) (by unfold fR; omega) (fun hc => absurd hc (by decide)) (fun _ => ?_)
    refine fx_li 2 9 (by decide +kernel) rfl ?_
    refine fx_c1 312 22 12 1 [] (f_q22 (by decide +kernel)) (fI_n4 _) rfl (by first | decide | omega) ?_
    refine sp_misPlace hb (fun t2 => fK1 ?_) (fun t2 => fK1 ?_)
    · refine fx_zne 19 15 (by decide +kernel) (by unfold fR; omega) (fun _ => ?_) (fun hc => absurd hc (by decide))
      refine fx_ci (0) 20 (by decide +kernel) ?_
      refine fx_pi 1186 148 0 23 (by decide +kernel) (by unfold fR; omega) ?_
      refine fx_la 0 24 (v := 1186) (by decide +kernel) rfl (by decide +kernel) ?_
      refine fx_gi 1186 148 0 27 (by decide +kernel) ?_
      try simp only [fu_app, fcy_app, Nat.reduceEqDiff, and_true, and_false, false_and, true_and, if_true, if_false, ite_true, ite_false, reduceIte, Int.reduceToNat, fx_simp0]
      refine fx_zle 32 30 (by decide +kernel) (by unfold fR; omega) (fun h27 => ?_) (fun h27 => ?_)
      · refine fx_la 0 33 (v := 1186) (by decide +kernel) rfl (by decide +kernel) ?_
        refine fx_li 1 34 (by decide +kernel) rfl ?_
        refine fx_c2 309 21 37 1 [7, 7, 7] (by decide +kernel) (by decide) (by decide) (fI_n4 _) rfl (by first | decide | omega) ?_
        have ea : a = ((a.toNat : Nat) : Int) := by omega
        have eb : b = ((b.toNat : Nat) : Int) := by omega
        rw [ea, eb]
        refine sp_fars (by omega) (fun g' hf hp => fK0 ?_)
        have hD := pF_D hp (show b.toNat < 8 by omega) 8 0 rfl (fun i hi => absurd hi (Nat.not_lt_zero _))
        refine fx_la 0 38 (v := 1186) (by decide +kernel) rfl (by decide +kernel) ?_
        refine fx_gp 1186 148 20 1242 41 (by decide +kernel) ?_
        refine fx_li 2 42 (by decide +kernel) rfl ?_
        refine fx_al 1242 155 8 43 (by decide +kernel) rfl (by omega) (by omega) rfl ?_
        try simp only [fu_app, fcy_app, Nat.reduceEqDiff, and_true, and_false, false_and, true_and, if_true, if_false, ite_true, ite_false, reduceIte, Int.reduceToNat, fx_simp0]
        refine fx_ret (by decide +kernel) ?_
        have kk := k3 ⟨t1, t2⟩ g' hf
        rw [show (((b.toNat : Nat) : Int)).toNat = b.toNat from rfl, ← hD]
        exact kk
      · refine fx_ci (0) 31 (by decide +kernel) ?_
        refine fx_ret (by decide +kernel) ?_
        exfalso; omega
    · refine fx_zne 19 15 (by decide +kernel) (by unfold fR; omega) (fun hc => absurd hc (by decide)) (fun _ => ?_)
      refine fx_ci (1) 16 (by decide +kernel) ?_
      refine fx_go 20 (by decide +kernel) ?_
      refine fx_pi 1186 148 0 23 (by decide +kernel) (by unfold fR; omega) ?_
      refine fx_la 0 24 (v := 1186) (by decide +kernel) rfl (by decide +kernel) ?_
      refine fx_gi 1186 148 0 27 (by decide +kernel) ?_
      try simp only [fu_app, fcy_app, Nat.reduceEqDiff, and_true, and_false, false_and, true_and, if_true, if_false, ite_true, ite_false, reduceIte, Int.reduceToNat, fx_simp0]
      refine fx_zle 32 30 (by decide +kernel) (by unfold fR; omega) (fun h27 => ?_) (fun h27 => ?_)
      · exfalso; omega
      · refine fx_ci (0) 31 (by decide +kernel) ?_
        refine fx_ret (by decide +kernel) ?_
        exact k1 (fun t => t2 t.2)
  · refine fx_zeq 15 8 (by decide +kernel) (by unfold fR; omega) (fun _ => ?_) (fun hc => absurd hc (by decide))
    refine fx_ci (1) 16 (by decide +kernel) ?_
    refine fx_go 20 (by decide +kernel) ?_
    refine fx_pi 1186 148 0 23 (by decide +kernel) (by unfold fR; omega) ?_
    refine fx_la 0 24 (v := 1186) (by decide +kernel) rfl (by decide +kernel) ?_
    refine fx_gi 1186 148 0 27 (by decide +kernel) ?_
    try simp only [fu_app, fcy_app, Nat.reduceEqDiff, and_true, and_false, false_and, true_and, if_true, if_false, ite_true, ite_false, reduceIte, Int.reduceToNat, fx_simp0]
    refine fx_zle 32 30 (by decide +kernel) (by unfold fR; omega) (fun h27 => ?_) (fun h27 => ?_)
    · exfalso; omega
    · refine fx_ci (0) 31 (by decide +kernel) ?_
      refine fx_ret (by decide +kernel) ?_
      exact k1 (fun t => t1 t.1)
theorem sp_wfar {a b : Int} (hl : 1 ≤ W.lim) (ha : fR a) (hb : fR b) (k1 : ¬ ((0 ≤ a ∧ a ≤ 7) ∧ 0 ≤ b ∧ b ≤ 7) → Q 1 (fI 1) g) (k3 : (0 ≤ a ∧ a ≤ 7) ∧ 0 ≤ b ∧ b ≤ 7 → Q 1 (fI 0) (fu g 159 0 ((fJ (pD (g 7) a.toNat b.toNat 8 0) - 4 : Nat) : Int))) : fx W 1 4 179 0 [2, fI a, fI b, 1274, 7] [] g Q := by
  refine fx_la 3 1 (v := 1274) (by decide +kernel) rfl (by decide +kernel) ?_
  refine fx_ci (0) 2 (by decide +kernel) ?_
  refine fx_la 0 3 (v := 2) (by decide +kernel) rfl (by decide +kernel) ?_
  refine fx_li 1 4 (by decide +kernel) rfl ?_
  refine fx_li 2 5 (by decide +kernel) rfl ?_
  obtain ⟨e1, e2⟩ := f_qm_ok (W := W) (L := [2, fI a, fI b, 1274, 7]) (g := g) (S := [fI b, fI a, 2, fI 0, 1274]) (rest := [fI 0, 1274]) (mi := 179) (pc := 5) (mj := 180) (n := 3) (op := 21) (a := 2) (av' := [fI a, fI b]) (by decide +kernel) (by decide +kernel) (fun K => rfl) (fun t => absurd t (by decide))
  refine fx_callH (l := 0) (r := 0) (by omega) e1 e2 (by decide +kernel) (dj := 3) (by decide) (by decide +kernel) (pc' := 8) rfl (Lj := [2, fI a, fI b]) (f_xp (f_n4_3 (by decide)) (show 3 ≤ _ by decide +kernel)) ?_
  refine sp_cfar (Nat.le_refl 1) ha hb (fun t => ?_) (fun t => ?_)
  · refine fKH2 2 15 4 (by decide +kernel) (Or.inr (f_n4p (v := 1274) rfl (by decide))) rfl ?_
    dsimp only [List.set]
    exact fx_ci 1 16 (by decide +kernel) (fx_ret (by decide +kernel) (k1 t))
  · refine fKH1 ?_
    refine fx_i2l 9 (by decide +kernel) rfl ?_
    refine fx_las 1274 159 1 10 (by decide +kernel) rfl (by omega) (by omega) (by decide +kernel) (fJ_ok _).1 (fJ_ok _).2 ?_
    exact fx_go 17 (by decide +kernel) (fx_ci 0 18 (by decide +kernel) (fx_ret (by decide +kernel) (k3 t)))
end G19
end
section
/-! fx: the class reads the law: places, words, signs, numbers -/
/-- the letters T of the tape, E of them -/
def CTL (T : Int → Int) (E : Int) (g : Nat → Nat → Int) : Prop := g 34 4 = E ∧ 0 ≤ E ∧ E ≤ 400 ∧ ∀ k, 0 ≤ k → k < 400 → g 2 k.toNat = T k ∧ 0 ≤ T k ∧ T k ≤ 255
theorem CT_eqL {T : Int → Int} {E : Int} {g g' : Nat → Nat → Int} (h : CTL T E g) (h1 : g' 34 4 = g 34 4) (h2 : ∀ j, g' 2 j = g 2 j) : CTL T E g' := by
  obtain ⟨a1, a2, a3, a4⟩ := h
  refine ⟨by rw [h1]; exact a1, a2, a3, fun k k0 k1 => ?_⟩
  rw [h2]
  exact a4 k k0 k1
theorem CT_fuL {T : Int → Int} {E : Int} {g : Nat → Nat → Int} {c j : Nat} {z : Int} (h : CTL T E g) (h1 : c ≠ 2) (h2 : ¬ (34 = c ∧ 4 = j)) : CTL T E (fu g c j z) := CT_eqL h (fu_ne h2) (fun _ => fu_nc (Ne.symm h1))
theorem CT_tL {T : Int → Int} {E : Int} {g : Nat → Nat → Int} {k : Int} (h : CTL T E g) (h0 : 0 ≤ k) (h1 : k < E) : g 2 k.toNat = T k ∧ 0 ≤ T k ∧ T k ≤ 255 := h.2.2.2 k h0 (by have := h.2.2.1; omega)
section FXRL
variable {W : ax_W} {r : Nat} {g : Nat → Nat → Int} {Q : Nat → Nat → (Nat → Nat → Int) → Prop} {T : Int → Int} {E : Int}
theorem sp_adv_AL (h : CTL T E g) (kq : ∀ i, i = pSk T E (g 34 3) → fx W r 0 74 33 [274, fI i] [] g Q) : ∀ (n : Nat) (i : Int), (E - i).toNat = n → 0 ≤ i → i ≤ E → pSk T E i = pSk T E (g 34 3) → fx W r 0 74 5 [274, fI i] [] g Q
  | n, i, hn, h0, h1, hs => by
    have a1 := h.1
    have a3 := h.2.2.1
    refine fx_rg (fun hg => ?_)
    refine fx_li 1 6 (by decide +kernel) rfl ?_
    refine fx_la 0 7 (v := 274) (by decide +kernel) rfl (by decide +kernel) ?_
    refine fx_gi 274 34 4 10 (by decide +kernel) ?_
    refine fx_ige 33 13 (by decide +kernel) (by unfold fR; omega) (by first | exact hg 34 4 (by decide) (by decide +kernel) (by decide +kernel) | (unfold fR; omega)) (fun h10 => ?_) (fun h10 => ?_)
    · exact kq i (by rw [← hs]; exact (prun_stop (by omega)).symm)
    · refine fx_la 0 14 (v := 274) (by decide +kernel) rfl (by decide +kernel) ?_
      refine fx_gp 274 34 0 10 17 (by decide +kernel) ?_
      refine fx_gp 10 1 0 18 20 (by decide +kernel) ?_
      obtain ⟨t1, t2, t3⟩ := CT_tL h h0 (by omega)
      refine fx_li 1 21 (by decide +kernel) rfl ?_
      refine fx_al 18 2 400 22 (by decide +kernel) rfl (by omega) (by omega) rfl ?_
      rw [t1]
      refine fx_ci (32) 24 (by decide +kernel) ?_
      refine fx_ine 33 27 (by decide +kernel) (by unfold fR; omega) (by unfold fR; omega) (fun h24 => ?_) (fun h24 => ?_)
      · exact kq i (by rw [← hs]; exact (prun_no (by unfold isSp; exact decide_eq_false h24)).symm)
      · refine fx_inc 1 30 (1) (by decide +kernel) rfl (Or.inr (f_n4p (v := 274) rfl (by decide))) rfl ?_
        dsimp only [List.set]
        refine fx_go 5 (by decide +kernel) ?_
        match n, hn with
        | 0, hn => exfalso; omega
        | n + 1, hn =>
          refine sp_adv_AL h kq n (i + 1) (by omega) (by omega) (by omega) ?_
          rw [← hs]
          exact (prun_step (by omega) (by unfold isSp; exact decide_eq_true h24)).symm
theorem sp_adv_BL {f : Int} (h : CTL T E g) (kq : fx W r 0 74 80 [274, fI (pWe T E f)] [] g Q) : ∀ (n : Nat) (i : Int), (E - i).toNat = n → 0 ≤ i → i ≤ E → pWe T E i = pWe T E f → fx W r 0 74 38 [274, fI i] [] g Q
  | n, i, hn, h0, h1, hs => by
    have a1 := h.1
    have a3 := h.2.2.1
    refine fx_rg (fun hg => ?_)
    have kx : pWe T E i = i → fx W r 0 74 80 [274, fI i] [] g Q := fun t => by rw [← hs, t] at kq; exact kq
    refine fx_li 1 39 (by decide +kernel) rfl ?_
    refine fx_la 0 40 (v := 274) (by decide +kernel) rfl (by decide +kernel) ?_
    refine fx_gi 274 34 4 43 (by decide +kernel) ?_
    refine fx_ige 80 46 (by decide +kernel) (by unfold fR; omega) (by first | exact hg 34 4 (by decide) (by decide +kernel) (by decide +kernel) | (unfold fR; omega)) (fun h43 => ?_) (fun h43 => ?_)
    · exact kx (prun_stop (by omega))
    · obtain ⟨t1, t2, t3⟩ := CT_tL h h0 (by omega)
      refine fx_la 0 47 (v := 274) (by decide +kernel) rfl (by decide +kernel) ?_
      refine fx_gp 274 34 0 10 50 (by decide +kernel) ?_
      refine fx_gp 10 1 0 18 53 (by decide +kernel) ?_
      refine fx_li 1 54 (by decide +kernel) rfl ?_
      refine fx_al 18 2 400 55 (by decide +kernel) rfl (by omega) (by omega) rfl ?_
      rw [t1]
      refine fx_ci (97) 57 (by decide +kernel) ?_
      refine fx_ilt 80 60 (by decide +kernel) (by unfold fR; omega) (by unfold fR; omega) (fun h57 => ?_) (fun h57 => ?_)
      · exact kx (prun_no (isLe_f (by omega)))
      · refine fx_la 0 61 (v := 274) (by decide +kernel) rfl (by decide +kernel) ?_
        refine fx_gp 274 34 0 10 64 (by decide +kernel) ?_
        refine fx_gp 10 1 0 18 67 (by decide +kernel) ?_
        refine fx_li 1 68 (by decide +kernel) rfl ?_
        refine fx_al 18 2 400 69 (by decide +kernel) rfl (by omega) (by omega) rfl ?_
        rw [t1]
        refine fx_ci (122) 71 (by decide +kernel) ?_
        refine fx_igt 80 74 (by decide +kernel) (by unfold fR; omega) (by unfold fR; omega) (fun h71 => ?_) (fun h71 => ?_)
        · exact kx (prun_no (isLe_f (by omega)))
        · refine fx_inc 1 77 (1) (by decide +kernel) rfl (Or.inr (f_n4p (v := 274) rfl (by decide))) rfl ?_
          dsimp only [List.set]
          refine fx_go 38 (by decide +kernel) ?_
          match n, hn with
          | 0, hn => exfalso; omega
          | n + 1, hn =>
            refine sp_adv_BL h kq n (i + 1) (by omega) (by omega) (by omega) ?_
            rw [← hs]
            exact (prun_step (by omega) (isLe_t (by omega))).symm
theorem sp_adv_CL {f : Int} (h : CTL T E g) (kq : fx W r 0 74 130 [274, fI (pDg T E f)] [] g Q) : ∀ (n : Nat) (i : Int), (E - i).toNat = n → 0 ≤ i → i ≤ E → pDg T E i = pDg T E f → fx W r 0 74 88 [274, fI i] [] g Q
  | n, i, hn, h0, h1, hs => by
    have a1 := h.1
    have a3 := h.2.2.1
    refine fx_rg (fun hg => ?_)
    have kx : pDg T E i = i → fx W r 0 74 130 [274, fI i] [] g Q := fun t => by rw [← hs, t] at kq; exact kq
    refine fx_li 1 89 (by decide +kernel) rfl ?_
    refine fx_la 0 90 (v := 274) (by decide +kernel) rfl (by decide +kernel) ?_
    refine fx_gi 274 34 4 93 (by decide +kernel) ?_
    refine fx_ige 130 96 (by decide +kernel) (by unfold fR; omega) (by first | exact hg 34 4 (by decide) (by decide +kernel) (by decide +kernel) | (unfold fR; omega)) (fun h93 => ?_) (fun h93 => ?_)
    · exact kx (prun_stop (by omega))
    · obtain ⟨t1, t2, t3⟩ := CT_tL h h0 (by omega)
      refine fx_la 0 97 (v := 274) (by decide +kernel) rfl (by decide +kernel) ?_
      refine fx_gp 274 34 0 10 100 (by decide +kernel) ?_
      refine fx_gp 10 1 0 18 103 (by decide +kernel) ?_
      refine fx_li 1 104 (by decide +kernel) rfl ?_
      refine fx_al 18 2 400 105 (by decide +kernel) rfl (by omega) (by omega) rfl ?_
      rw [t1]
      refine fx_ci (48) 107 (by decide +kernel) ?_
      refine fx_ilt 130 110 (by decide +kernel) (by unfold fR; omega) (by unfold fR; omega) (fun h107 => ?_) (fun h107 => ?_)
      · exact kx (prun_no (isDi_f (by omega)))
      · refine fx_la 0 111 (v := 274) (by decide +kernel) rfl (by decide +kernel) ?_
        refine fx_gp 274 34 0 10 114 (by decide +kernel) ?_
        refine fx_gp 10 1 0 18 117 (by decide +kernel) ?_
        refine fx_li 1 118 (by decide +kernel) rfl ?_
        refine fx_al 18 2 400 119 (by decide +kernel) rfl (by omega) (by omega) rfl ?_
        rw [t1]
        refine fx_ci (57) 121 (by decide +kernel) ?_
        refine fx_igt 130 124 (by decide +kernel) (by unfold fR; omega) (by unfold fR; omega) (fun h121 => ?_) (fun h121 => ?_)
        · exact kx (prun_no (isDi_f (by omega)))
        · refine fx_inc 1 127 (1) (by decide +kernel) rfl (Or.inr (f_n4p (v := 274) rfl (by decide))) rfl ?_
          dsimp only [List.set]
          refine fx_go 88 (by decide +kernel) ?_
          match n, hn with
          | 0, hn => exfalso; omega
          | n + 1, hn =>
            refine sp_adv_CL h kq n (i + 1) (by omega) (by omega) (by omega) ?_
            rw [← hs]
            exact (prun_step (by omega) (isDi_t (by omega))).symm
/-- the class stands at f -/
def cAtL (T : Int → Int) (E : Int) (g : Nat → Nat → Int) (f : Int) : Nat → Nat → Int := fu (fu g 34 2 f) 34 3 (pBh T E f)
theorem sp_advanceL (h : CTL T E g) (h0 : 0 ≤ g 34 3) (h1 : g 34 3 ≤ E) (kq : Q 0 0 (cAtL T E g (pSk T E (g 34 3)))) : fx W r 0 74 0 [274, 7] [] g Q := by
  have a1 := h.1
  have a3 := h.2.2.1
  refine fx_rg (fun hg => ?_)
  refine fx_la 0 1 (v := 274) (by decide +kernel) rfl (by decide +kernel) ?_
  refine fx_gi 274 34 3 4 (by decide +kernel) ?_
  refine fx_si 1 5 (by decide +kernel) (Or.inr (f_n4p (v := 274) rfl (by decide))) rfl ?_
  dsimp only [List.set]
  refine sp_adv_AL h (fun i hi => ?_) _ _ rfl h0 h1 rfl
  rw [← hi] at kq
  have i0 : 0 ≤ i := by have := pSk_ge T E (g 34 3); omega
  have i1 : i ≤ E := by have := pSk_le (T := T) h1; omega
  have w0 := pWe_ge T E i
  have w1 := pWe_le (T := T) i1
  have d0 := pDg_ge T E i
  have d1 := pDg_le (T := T) i1
  have h' : CTL T E (fu g 34 2 i) := CT_fuL h (by decide) (by decide)
  refine fx_la 0 34 (v := 274) (by decide +kernel) rfl (by decide +kernel) ?_
  refine fx_li 1 35 (by decide +kernel) rfl ?_
  refine fx_pi 274 34 2 38 (by decide +kernel) (by unfold fR; omega) ?_
  refine sp_adv_BL (f := i) h' ?_ _ _ rfl i0 i1 rfl
  have tail : ∀ e, (if e = i ∧ e < E then e + 1 else e) = pBh T E i → i ≤ e → e ≤ E → fx W r 0 74 130 [274, fI e] [] (fu g 34 2 i) Q := by
    intro e he e0 e1
    refine fx_la 0 131 (v := 274) (by decide +kernel) rfl (by decide +kernel) ?_
    refine fx_li 1 132 (by decide +kernel) rfl ?_
    refine fx_la 0 133 (v := 274) (by decide +kernel) rfl (by decide +kernel) ?_
    refine fx_gi 274 34 2 136 (by decide +kernel) ?_
    try simp only [fu_app, fcy_app, Nat.reduceEqDiff, and_true, and_false, false_and, true_and, if_true, if_false, ite_true, ite_false, reduceIte, Int.reduceToNat, fx_simp0]
    refine fx_ine 153 139 (by decide +kernel) (by unfold fR; omega) (by unfold fR; omega) (fun h136 => ?_) (fun h136 => ?_)
    · refine fx_li 1 154 (by decide +kernel) rfl ?_
      refine fx_pi 274 34 3 157 (by decide +kernel) (by unfold fR; omega) ?_
      refine fx_vret (by decide +kernel) ?_
      unfold cAtL at kq
      first
        | (rw [if_neg (by omega)] at he; rw [he]; exact kq)
        | (rw [if_pos (by omega)] at he; rw [he]; exact kq)
    · refine fx_li 1 140 (by decide +kernel) rfl ?_
      refine fx_la 0 141 (v := 274) (by decide +kernel) rfl (by decide +kernel) ?_
      refine fx_gi 274 34 4 144 (by decide +kernel) ?_
      try simp only [fu_app, fcy_app, Nat.reduceEqDiff, and_true, and_false, false_and, true_and, if_true, if_false, ite_true, ite_false, reduceIte, Int.reduceToNat, fx_simp0]
      refine fx_ige 153 147 (by decide +kernel) (by unfold fR; omega) (by unfold fR; omega) (fun h144 => ?_) (fun h144 => ?_)
      · refine fx_li 1 154 (by decide +kernel) rfl ?_
        refine fx_pi 274 34 3 157 (by decide +kernel) (by unfold fR; omega) ?_
        refine fx_vret (by decide +kernel) ?_
        unfold cAtL at kq
        first
          | (rw [if_neg (by omega)] at he; rw [he]; exact kq)
          | (rw [if_pos (by omega)] at he; rw [he]; exact kq)
      · refine fx_li 1 148 (by decide +kernel) rfl ?_
        refine fx_ci (1) 149 (by decide +kernel) ?_
        refine fx_add 150 (by decide +kernel) rfl ?_
        refine fx_go 154 (by decide +kernel) ?_
        refine fx_pi 274 34 3 157 (by decide +kernel) (by unfold fR; omega) ?_
        refine fx_vret (by decide +kernel) ?_
        unfold cAtL at kq
        first
          | (rw [if_neg (by omega)] at he; rw [he]; exact kq)
          | (rw [if_pos (by omega)] at he; rw [he]; exact kq)
  refine fx_li 1 81 (by decide +kernel) rfl ?_
  refine fx_la 0 82 (v := 274) (by decide +kernel) rfl (by decide +kernel) ?_
  refine fx_gi 274 34 2 85 (by decide +kernel) ?_
  try simp only [fu_app, fcy_app, Nat.reduceEqDiff, and_true, and_false, false_and, true_and, if_true, if_false, ite_true, ite_false, reduceIte, Int.reduceToNat, fx_simp0]
  refine fx_ine 130 88 (by decide +kernel) (by unfold fR; omega) (by unfold fR; omega) (fun h85 => ?_) (fun h85 => ?_)
  · exact tail _ (by unfold pBh; rw [if_neg (by omega), if_neg (by omega)]) w0 w1
  · rw [h85]
    refine sp_adv_CL (f := i) h' (tail _ ?_ d0 d1) _ _ rfl i0 i1 rfl
    unfold pBh
    rw [if_pos h85]
    by_cases c : pDg T E i = i ∧ i < E
    · rw [if_pos c, if_pos (by omega)]; omega
    · rw [if_neg c, if_neg (by omega)]
end FXRL
end
