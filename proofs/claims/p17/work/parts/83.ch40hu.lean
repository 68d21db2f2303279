/-! fx: the text of the house keeps the relation -/
theorem RMain_house {T : Int → Int} {E : Int} {us : List (List Int)} {g g1 g2 A : Nat → Nat → Int} (h : RMain g) (hE : 0 ≤ E) (he : pText T E (g 149 3) (g 149 4) = Sum.inr us) (hp0 : 0 ≤ g 149 3) (hp1 : g 149 3 ≤ 8) (hd0 : 0 ≤ g 149 4) (hd1 : g 149 4 ≤ 6)
    (hA : A = apCs T us (cpT (cpH (fUse T E g) 3 29) 16 22)) (x0' : frd g (fu g1 159 0 (g 159 0))) (x1 : g1 0 16 = 0) (x2 : g1 3 6 = g 3 6 + 1) (f1 : ∀ j, 4 ≤ j → j ≤ 9 → j ≠ 6 → g1 3 j = A 29 j) (f2 : ∀ i j, 1 ≤ i → i ≤ 4 → g1 (3 + i) j = A (29 + i) j) (f3 : ∀ j, 5 ≤ j → j ≤ 10 → g1 16 j = A 22 j) (f4 : ∀ i j, 1 ≤ i → i ≤ 5 → g1 (16 + i) j = A (22 + i) j)
    (m0 : frm g1 g2) (m1 : g2 148 6 = 0) (m2 : ∀ j, g2 149 j = fu (apLs T us g1) 149 0 (g1 149 0 + 1) 149 j) : RMain g2 := by
  obtain ⟨a1, a2, a3, a4, a5⟩ := h
  have x0 : ∀ c j, c ≠ 159 → ¬ (3 ≤ c ∧ c ≤ 3 + 4) → ¬ (16 ≤ c ∧ c ≤ 33) → ¬ (c = 1 ∧ j = 1) → ¬ (c = 0 ∧ (j = 18 ∨ j = 16)) → g1 c j = g c j := fun c j h0 h1 h2 h3 h4 => by
    rw [← x0' c j h1 h2 h3 h4, fu_nc h0]
  have em : g1 149 = g 149 := by
    funext j
    exact x0 _ _ (by decide) (by decide) (by decide) (fun t => absurd t.1 (by decide)) (fun t => absurd t.1 (by decide))
  have b0 : RFx 29 22 (cpT (cpH (fUse T E g) 3 29) 16 22) (g1 149) := by
    rw [em]
    refine ⟨RHf_eq a2 (fun j j1 j2 => ?_) (fun i j j1 j2 => ?_), RTf_eq a3.1 (fun j j1 j2 => ?_) (fun i j j1 j2 => ?_), a4⟩
    · rw [cpT_ne (by decide), cpH_f j1 j2, fUse_ne (by decide) (fun t => absurd t.1 (by decide))]
    · rw [cpT_ne (by omega), cpH_a j1 j2 (by decide), fUse_ne (by omega) (by omega)]
    · rw [cpT_f (by omega) j2, cpH_ne (by decide), fUse_ne (by decide) (fun t => absurd t.1 (by decide))]
    · rw [cpT_a j1 (by omega) (by decide), cpH_ne (by omega), fUse_ne (by omega) (by omega)]
  obtain ⟨c1, c2, c3, c4, c5⟩ := pText_relF (gm := g1) hE (by rw [em]; exact he) (by rw [em]; exact hp0) (by rw [em]; exact hp1) (by rw [em]; exact hd0) (by rw [em]; exact hd1) b0
  rw [← hA] at c1 c2 c3 c4
  have l5 : A 22 5 = g 16 5 := by rw [c3, cpT_f (by decide) (by decide), cpH_ne (by decide), fUse_ne (by decide) (fun t => absurd t.1 (by decide))]
  have l6 : A 22 6 = g 16 6 := by rw [c4, cpT_f (by decide) (by decide), cpH_ne (by decide), fUse_ne (by decide) (fun t => absurd t.1 (by decide))]
  have lr : ∀ j, A 27 j = g 21 j := fun j => by
    rw [c2]
    have := cpT_a (g := cpH (fUse T E g) 3 29) (a := 16) (b := 22) (i := 5) (j := j) (by decide) (by decide) (by decide)
    exact this.trans (by rw [cpH_ne (by decide), fUse_ne (by decide) (fun t => absurd t.1 (by decide))])
  have row : g2 149 = tU (apLs T us g1 149) 0 (g1 149 0 + 1) := by
    funext j
    rw [m2]
    unfold fu tU
    by_cases e : j = 0
    · rw [if_pos ⟨rfl, e⟩, if_pos e]
    · rw [if_neg (fun t => e t.2), if_neg e]
  have k : ∀ c j, c < 148 → g2 c j = g1 c j := fun c j hc => m0 c j (by omega) (by omega) (by omega)
  obtain ⟨d1, d2, d3⟩ := c1
  have lg : ∀ j, tLg j → j ≠ 0 → g2 149 j = g 149 j := fun j hj h0 => by
    rw [row, tU_ne h0, c5 j hj, em]
  obtain ⟨q1, q2, q3, q4, q5, q6, q7, q8, q9, q10⟩ := d1
  obtain ⟨s1, s2, s3, s4, s5, s6, s7, s8⟩ := d2
  have kh : ∀ j, 4 ≤ j → j ≤ 9 → j ≠ 6 → g2 3 j = A 29 j := fun j j1 j2 j3 => by rw [k _ _ (by decide)]; exact f1 j j1 j2 j3
  have ka : ∀ i j, 1 ≤ i → i ≤ 4 → g2 (3 + i) j = A (29 + i) j := fun i j j1 j2 => by rw [k _ _ (by omega)]; exact f2 i j j1 j2
  have kt : ∀ j, 5 ≤ j → j ≤ 10 → g2 16 j = A 22 j := fun j j1 j2 => by rw [k _ _ (by decide)]; exact f3 j j1 j2
  have kb : ∀ i j, 1 ≤ i → i ≤ 5 → g2 (16 + i) j = A (22 + i) j := fun i j j1 j2 => by rw [k _ _ (by omega)]; exact f4 i j j1 j2
  refine ⟨fun j hj => ?_, ?_, ⟨?_, ?_⟩, ?_, ?_⟩
  · rw [k _ _ (by decide), m0 153 j (by decide) (by decide) (fun t => absurd t.1 (by decide)), x0 _ _ (by decide) (by decide) (by decide) (fun t => absurd t.1 (by decide)) (fun t => absurd t.1 (by decide)), x0 153 j (by decide) (by decide) (by decide) (fun t => absurd t.1 (by decide)) (fun t => absurd t.1 (by decide))]
    exact a1 j hj
  · rw [row]
    refine ⟨?_, ?_, ?_, ?_, ?_, ?_, fun p hp => ?_, fun p hp => ?_, fun j hj => ?_, fun j hj => ?_⟩
    · rw [kh _ (by decide) (by decide) (by decide), tU_ne (by decide)]; exact q1
    · rw [kh _ (by decide) (by decide) (by decide), tU_ne (by decide)]; exact q2
    · rw [k _ _ (by decide), tU_eq, x2, em, a2.2.2.1]
    · rw [kh _ (by decide) (by decide) (by decide), tU_ne (by decide)]; exact q4
    · rw [kh _ (by decide) (by decide) (by decide), tU_ne (by decide)]; exact q5
    · rw [kh _ (by decide) (by decide) (by decide), tU_ne (by decide)]; exact q6
    · rw [ka _ _ (by decide) (by decide), tU_ne (by omega)]; exact q7 p hp
    · rw [ka _ _ (by decide) (by decide), tU_ne (by omega)]; exact q8 p hp
    · rw [kh _ (by decide) (by decide) (by decide)] at hj
      rw [ka _ _ (by decide) (by decide), tU_ne (by omega)]; exact q9 j hj
    · rw [ka _ _ (by decide) (by decide), tU_ne (by omega)]; exact q10 j hj
  · rw [row]
    refine ⟨fun p hp => ?_, fun p hp => ?_, fun p hp => ?_, fun p hp => ?_, fun p hp => ?_, ?_, ?_, ?_⟩
    · rw [kb _ _ (by decide) (by decide), tU_ne (by omega)]; exact s1 p hp
    · rw [kb _ _ (by decide) (by decide), tU_ne (by omega)]; exact s2 p hp
    · rw [kb _ _ (by decide) (by decide), tU_ne (by omega)]; exact s3 p hp
    · rw [kb _ _ (by decide) (by decide), tU_ne (by omega)]; exact s4 p hp
    · rw [kt _ (by decide) (by decide), tU_ne (by omega)]; exact s5 p hp
    · rw [kt _ (by decide) (by decide), tU_ne (by decide)]; exact s6
    · rw [kt _ (by decide) (by decide), tU_ne (by decide)]; exact s7
    · rw [kt _ (by decide) (by decide), tU_ne (by decide)]; exact s8
  · refine RLg_cg a3.2 (fun j j1 j2 => ?_) (fun j => ?_) (lg 10 (Or.inl rfl) (by decide)) (fun j j1 j2 => lg j (Or.inr (Or.inr ⟨j1, j2⟩)) (by omega))
    · rw [kt j j1 (by omega)]
      rcases (by omega : j = 5 ∨ j = 6) with rfl | rfl
      · exact l5
      · exact l6
    · have := kb 5 j (by decide) (by decide)
      exact this.trans (lr j)
  · rw [row]
    exact RIv_u d3 ⟨by decide, Or.inl (by decide)⟩
  · refine RPs_0 (by rw [k _ _ (by decide)]; exact x1) m1 ?_ ?_
    · rw [k _ _ (by decide), x0 _ _ (by decide) (by decide) (by decide) (by decide) (by decide)]; exact a5.2.2.2.1
    · rw [k _ _ (by decide), x0 _ _ (by decide) (by decide) (by decide) (by decide) (by decide)]; exact a5.2.2.2.2.1
