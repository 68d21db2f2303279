/-! fx: the law's case of feed -/
section FYQ
variable {W : ax_W} {g : Nat → Nat → Int} {Q : Nat → Nat → (Nat → Nat → Int) → Prop}
def PE (L : Nat) (bs : Nat → Int) (g g1 : Nat → Nat → Int) : Prop := (400 < L + 20 ∧ g1 = g) ∨ (L + 20 ≤ 400 ∧ g1 = ffd g 2 1 1 L bs 20)
def PF (L : Nat) (bs : Nat → Int) (g1 g2 : Nat → Nat → Int) : Prop := (400 < L + 20 ∧ g2 = fu g1 148 0 0) ∨ (L + 20 ≤ 400 ∧ g2 = ffd (fu g1 148 0 0) 153 148 8 L bs 20)
theorem feed_both {g1 g2 : Nat → Nat → Int} {L : Nat} {bs : Nat → Int} (hI : LInv g) (hl : g 1 1 = (L : Nat)) (h1 : PE L bs g g1) (h2 : PF L bs g1 g2) : gxg g2 ∧ g2 1 1 = g2 148 8 ∧ g2 0 15 = g2 148 3 := by
  have hx := hI.2.1
  have key : ∀ c j, c ≠ 2 → c ≠ 153 → ¬ (c = 1 ∧ j = 1) → ¬ (c = 148 ∧ (j = 8 ∨ j = 0)) → g2 c j = g c j := fun c j a1 a2 a3 a4 => by
    rcases h1 with ⟨l1, e1⟩ | ⟨l1, e1⟩ <;> rcases h2 with ⟨l2, e2⟩ | ⟨l2, e2⟩
    · rw [e2, fu_ne (by omega), e1]
    · omega
    · omega
    · rw [e2, ffd_ne a2 (by omega), fu_ne (by omega), e1, ffd_ne a1 a3]
  have tp : (∀ j, j < 400 → g2 2 j = g2 153 j) ∧ g2 1 1 = g2 148 8 := by
    rcases h1 with ⟨l1, e1⟩ | ⟨l1, e1⟩ <;> rcases h2 with ⟨l2, e2⟩ | ⟨l2, e2⟩
    · rw [e2, e1]
      exact ⟨fun j hj => by rw [fu_nc (by decide), fu_nc (by decide)]; exact hx.1 j hj, by rw [fu_nc (by decide), fu_nj (by decide)]; exact hI.2.2.1⟩
    · omega
    · omega
    · rw [e2, e1]
      refine ⟨fun j hj => ?_, ?_⟩
      · rw [ffd_ne (by decide) (fun t => absurd t.1 (by decide)), fu_nc (by decide)]
        unfold ffd
        by_cases q : L ≤ j ∧ j < L + 20
        · rw [if_pos ⟨rfl, q⟩, if_pos ⟨rfl, q⟩]
        · rw [if_neg (fun t => q t.2), if_neg (fun t => absurd t.1 (by decide)), if_neg (fun t => q t.2), if_neg (fun t => absurd t.1 (by decide)), fu_nc (by decide), if_neg (fun t => absurd t.1 (by decide)), if_neg (fun t => absurd t.1 (by decide))]
          exact hx.1 j hj
      · rw [ffd_l (by decide), ffd_ne (by decide) (by decide), fu_nc (by decide), ffd_l (by decide)]
  refine ⟨?_, tp.2, ?_⟩
  · obtain ⟨k1, k2, k3, k4⟩ := hx
    have hm : ∀ a b, (a = 3 ∧ b = 149) ∨ (a = 56 ∧ b = 150) → gxh g a b → gxh g2 a b := by
      intro a b ab q
      obtain ⟨q1, q2, q3, q4, q5, q6⟩ := q
      have A : ∀ j, g2 a j = g a j := fun j => key a j (by omega) (by omega) (by omega) (by omega)
      have B : ∀ j, g2 b j = g b j := fun j => key b j (by omega) (by omega) (by omega) (by omega)
      have C : ∀ j, g2 (a + 3) j = g (a + 3) j := fun j => key _ j (by omega) (by omega) (by omega) (by omega)
      have D : ∀ j, g2 (a + 4) j = g (a + 4) j := fun j => key _ j (by omega) (by omega) (by omega) (by omega)
      exact ⟨by rw [A, B]; exact q1, by rw [A, B]; exact q2, by rw [A, B]; exact q3, fun j j1 j2 => by rw [A] at j2; rw [C, B]; exact q4 j j1 j2, fun j j1 => by rw [D, B]; exact q5 j j1, by rw [A]; exact q6⟩
    refine ⟨tp.1, hm _ _ (Or.inl ⟨rfl, rfl⟩) k2, hm _ _ (Or.inr ⟨rfl, rfl⟩) k3, fun r k a1 a2 a3 => ?_⟩
    rw [key _ _ (by decide) (by decide) (by decide) (by decide)] at a1
    rw [key _ _ (by decide) (by decide) (fun t => absurd t.1 (by decide)) (fun t => absurd t.1 (by decide)), key _ _ (by decide) (by decide) (fun t => absurd t.1 (by decide)) (fun t => absurd t.1 (by decide))]
    exact k4 r k a1 a2 a3
  · rw [key _ _ (by decide) (by decide) (by decide) (by decide), key _ _ (by decide) (by decide) (by decide) (by decide)]; exact hI.2.2.2
end FYQ
