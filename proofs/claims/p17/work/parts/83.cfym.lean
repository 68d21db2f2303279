/-! fx: the reference's house behind the class's -/
/-- both are done: what holds then, and that the answers are alike -/
def PB (g : Nat → Nat → Int) (v w : Nat) (g2 : Nat → Nat → Int) : Prop := (∃ z, w = fI z ∧ fR z) ∧ gxg g2 ∧ g2 1 1 = g2 148 8 ∧ g2 0 15 = g2 148 3 ∧ ((v = fI 1 ∧ g2 148 0 = 1) ∨ (v = fI 2 ∧ g2 148 0 = 2) ∨ (v = fI 0 ∧ g2 148 0 = 0 ∧ w = fI (g 3 6 + 1) ∧ g2 159 0 = ((fJ (g 3 6 + 1) - 4 : Nat) : Int)))
section FYM
variable {W : ax_W} {r : Nat} {g g1 : Nat → Nat → Int}
theorem house_bad {g2 : Nat → Nat → Int} (hi : LInv g) (h1 : frc g g1) (hl : g1 1 1 = 0) (f1 : frm g1 g2) (f4 : g2 148 8 = 0) (f5 : g2 148 6 = g1 148 6) (f6 : ∀ j, g2 149 j = g1 149 j) : gxg g2 ∧ g2 1 1 = g2 148 8 ∧ g2 0 15 = g2 148 3 := by
  obtain ⟨-, hx, -, hI⟩ := hi
  have m1 : ∀ j, g1 149 j = g 149 j := fun j => h1 _ _ (by decide) (fun t => absurd t.1 (by decide)) (fun t => absurd t.1 (by decide))
  have a1 : ∀ j, g2 152 j = g 152 j := fun j => by rw [f1 _ _ (by decide) (by decide) (fun t => absurd t.1 (by decide)), h1 _ _ (by decide) (fun t => absurd t.1 (by decide)) (fun t => absurd t.1 (by decide))]
  have a2 : g2 148 6 = g 148 6 := by rw [f5, h1 _ _ (by decide) (by decide) (by decide)]
  refine ⟨gxg_cg hx (fun c j k e1 e2 => ?_) (fun r k q1 q2 q3 => ?_), ?_, ?_⟩
  · by_cases e : c = 149
    · subst e; rw [f6, m1]
    · unfold gx_K at k
      rw [f1 c j e (by omega) (by omega), h1 c j (by omega) (by omega) (by omega)]
  · rw [a2] at q1
    rw [a1, f6, m1]
    exact hx.2.2.2 r k q1 q2 q3
  · rw [f4, f1 _ _ (by decide) (by decide) (by decide)]; exact hl
  · rw [f1 0 15 (by decide) (by decide) (by decide), f1 148 3 (by decide) (by decide) (by decide), h1 0 15 (by decide) (by decide) (by decide), h1 148 3 (by decide) (by decide) (by decide)]
    exact hI
theorem RHx_of (hx : gxh g 3 149) (hd : g 3 5 ≤ 6) {gm : Nat → Nat → Int} (h : ∀ j, gm 149 j = g 149 j) : RHx 3 g gm := by
  obtain ⟨k1, k2, k3, k4, k5, -⟩ := hx
  exact ⟨by rw [h]; exact k1, by rw [h]; exact k2, by rw [h]; exact k3, fun j hj => by rw [h]; exact k4 j (by omega) hj, fun j hj => by rw [h]; exact k5 j hj⟩
theorem house_both {v : Nat} (hi : LInv g) (hb : LB g) (hw : PW (fun k => g 2 k.toNat) (g 1 1) g 1 v g1) : fx W r 9 267 0 [1186, 7] [] g1 (fun k w g2 => k = 1 ∧ PB g v w g2) := by
  obtain ⟨b1, b2, b3, b4, b5, -⟩ := hb
  have hx := hi.2.1
  have hxh := hx.2.1
  obtain ⟨x1, x2, x3, x4, x5, x6⟩ := hxh
  -- the reference's own cells are as before
  have same : ∀ c j, (c = 148 ∨ c = 149 ∨ c = 153) → g1 c j = g c j := fun c j hc => by
    rcases hw.2 with ⟨q, -, -, h, -⟩ | ⟨us, -, -, -, h, -⟩ | ⟨us, A, g0, -, -, -, -, h, -, -, -, -, e⟩
    · exact h c j (by omega) (by omega) (by omega)
    · exact h c j (by omega) (by omega) (by omega)
    · rw [e, fu_nc (by omega)]
      exact h c j (by omega) (by omega) (by omega) (by omega)
  have hT : ∀ k : Int, 0 ≤ k → k < 400 → g1 153 k.toNat = g 2 k.toNat ∧ 0 ≤ g 2 k.toNat ∧ g 2 k.toNat ≤ 255 := fun k k0 k1 => ⟨by rw [same _ _ (by decide)]; exact (hx.1 k.toNat (by omega)).symm, b4 k.toNat (by omega)⟩
  have m : ∀ j, g1 149 j = g 149 j := fun j => same _ j (by decide)
  have e3 : g1 149 3 = g 3 4 := by rw [m]; exact x1.symm
  have e4 : g1 149 4 = g 3 5 := by rw [m]; exact x2.symm
  have e0 : g1 149 0 = g 3 6 := by rw [m]; exact x3.symm
  refine sp_mhouse (T := fun k => g 2 k.toNat) (E := g 1 1) hT (by rw [same _ _ (by decide)]; exact hi.2.2.1.symm) b1.1 b1.2 (by omega) (by omega) (by omega) (by omega) (by omega) (by omega) (fun q t g2 f1 f2 f3 f4 f5 f6 => ?_) (fun us t t2 g2 f1 f2 f3 f4 f5 f6 => ?_) (fun us t t2 g2 f1 f2 f3 f4 f5 f6 => ?_)
  · rw [e3, e4] at t
    rcases hw.2 with ⟨q', t', hv, h, hl⟩ | ⟨us, t', -⟩ | ⟨us, A, g0, t', -⟩
    · obtain ⟨r1, r2, r3⟩ := house_bad hi h hl f1 f4 f5 f6
      exact ⟨rfl, ⟨0, rfl, by unfold fR; omega⟩, r1, r2, r3, Or.inl ⟨hv, f2⟩⟩
    · rw [t] at t'; cases t'
    · rw [t] at t'; cases t'
  · rw [e3, e4] at t
    rcases hw.2 with ⟨q', t', -⟩ | ⟨us', t', t3, hv, h, hl⟩ | ⟨us', A, g0, t', t3, -⟩
    · rw [t] at t'; cases t'
    · obtain ⟨r1, r2, r3⟩ := house_bad hi h hl f1 f4 f5 f6
      exact ⟨rfl, ⟨0, rfl, by unfold fR; omega⟩, r1, r2, r3, Or.inr (Or.inl ⟨hv, f2⟩)⟩
    · omega
  · rw [e3, e4] at t
    rcases hw.2 with ⟨q', t', -⟩ | ⟨us', t', t3, -⟩ | ⟨us', A, g0, t', t3, hv, hr, h, hl, ht, hf, ha, e⟩
    · rw [t] at t'; cases t'
    · omega
    · rw [t] at t'
      cases t'
      have R := hr g1 (RHx_of hx.2.1 b3.2 m) (by omega) (by omega) (by omega) (by omega)
      obtain ⟨R1, R2, R3, R4, R5⟩ := R
      have n2 : ∀ c j, c ≠ 149 → c ≠ 151 → ¬ (c = 148 ∧ (j = 0 ∨ j = 6 ∨ (8 ≤ j ∧ j ≤ 13))) → c ≠ 159 → g2 c j = g0 c j := fun c j q1 q2 q3 q4 => by rw [f1 c j q1 q2 q3, e, fu_nc q4]
      have hh : ∀ i j, i ≤ 4 → g2 (3 + i) j = g0 (3 + i) j := fun i j q => n2 _ j (by omega) (by omega) (by omega) (by omega)
      have m2 : ∀ j, j ≠ 0 → g2 149 j = apLs (fun k => g 2 k.toNat) us g1 149 j := fun j hj => by rw [f6, fu_nj hj]
      have n0 : ∀ c j, (c = 2 ∨ c = 153 ∨ c = 150 ∨ (56 ≤ c ∧ c ≤ 56 + 4)) → g2 c j = g c j := fun c j q => by rw [n2 c j (by omega) (by omega) (by omega) (by omega), h c j (by omega) (by omega) (by omega) (by omega)]
      have g05 : g2 3 5 = A 29 5 := by
        have := hh 0 5 (by decide)
        rw [show g2 3 5 = g0 3 5 from this]
        exact hf 5 (by decide) (by decide) (by decide)
      refine ⟨rfl, ⟨_, rfl, by unfold fR; omega⟩, ⟨fun j hj => ?_, ⟨?_, ?_, ?_, fun j j1 j2 => ?_, fun j j1 => ?_, ?_⟩, ?_, fun r k q1 => ?_⟩, ?_, ?_, Or.inr (Or.inr ⟨hv, f2, ?_, ?_⟩)⟩
      · rw [n0 _ _ (by decide), n0 _ _ (by decide)]; exact hx.1 j hj
      · rw [m2 3 (by decide), show g2 3 4 = g0 3 4 from hh 0 4 (by decide), hf 4 (by decide) (by decide) (by decide)]; exact R1
      · rw [m2 4 (by decide), g05]; exact R2
      · rw [f6, fu_eq, show g2 3 6 = g0 3 6 from hh 0 6 (by decide), ht, e0]
      · rw [g05] at j2
        rw [m2 _ (by omega), hh 3 j (by decide), ha 3 j (by decide) (by decide)]
        exact R4 j j2
      · rw [m2 _ (by omega), hh 4 j (by decide), ha 4 j (by decide) (by decide)]
        exact R5 j j1
      · rw [show g2 3 6 = g0 3 6 from hh 0 6 (by decide), ht]
        omega
      · obtain ⟨i1, i2, i3, i4, i5, i6⟩ := hx.2.2.1
        refine ⟨?_, ?_, ?_, fun j j1 j2 => ?_, fun j j1 => ?_, ?_⟩
        · rw [n0 _ _ (by decide), n0 _ _ (by decide)]; exact i1
        · rw [n0 _ _ (by decide), n0 _ _ (by decide)]; exact i2
        · rw [n0 _ _ (by decide), n0 _ _ (by decide)]; exact i3
        · rw [n0 _ _ (by decide)] at j2
          rw [n0 _ _ (by decide), n0 _ _ (by decide)]; exact i4 j j1 j2
        · rw [n0 _ _ (by decide), n0 _ _ (by decide)]; exact i5 j j1
        · rw [n0 _ _ (by decide)]; exact i6
      · rw [f5] at q1
        omega
      · rw [f4, n2 _ _ (by decide) (by decide) (by decide) (by decide)]; exact hl
      · rw [n2 0 15 (by decide) (by decide) (by decide) (by decide), n2 148 3 (by decide) (by decide) (by decide) (by decide), h 0 15 (by decide) (by decide) (by decide) (by decide), h 148 3 (by decide) (by decide) (by decide) (by decide)]
        exact hi.2.2.2
      · rw [e0]
      · rw [f1 _ _ (by decide) (by decide) (by decide), e, fu_eq]
end FYM
