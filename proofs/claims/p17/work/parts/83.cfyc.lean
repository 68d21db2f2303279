/-! fx: what is remembered -/
def fsh (g : Nat → Nat → Int) (n : Nat) : Nat → Nat → Int := fun c j => if c = 152 ∧ j < n then g 152 (j + 364) else g c j
theorem fsh_s {g : Nat → Nat → Int} {k : Nat} : fu (fsh g k) 152 k (g 152 (k + 364)) = fsh g (k + 1) := by
  funext c j
  unfold fu fsh
  by_cases h1 : c = 152 ∧ j = k
  · rw [if_pos h1, if_pos ⟨h1.1, by omega⟩, h1.2]
  · rw [if_neg h1]
    by_cases h2 : c = 152 ∧ j < k
    · rw [if_pos h2, if_pos ⟨h2.1, by omega⟩]
    · rw [if_neg h2, if_neg (by omega)]
theorem fsh_0 {g : Nat → Nat → Int} : fsh g 0 = g := by
  funext c j
  unfold fsh
  rw [if_neg (by omega)]
theorem fsh_nc {g : Nat → Nat → Int} {n c j : Nat} (h : c ≠ 152) : fsh g n c j = g c j := if_neg (fun t => h t.1)
/-- the row m as the row a of what is remembered -/
def frw (g : Nat → Nat → Int) (a n : Nat) : Nat → Nat → Int := fun c j => if c = 152 ∧ 364 * a ≤ j ∧ j < 364 * a + n then g 149 (j - 364 * a) else g c j
theorem frw_s {g : Nat → Nat → Int} {a k : Nat} : fu (frw g a k) 152 (364 * a + k) (g 149 k) = frw g a (k + 1) := by
  funext c j
  unfold fu frw
  by_cases h1 : c = 152 ∧ j = 364 * a + k
  · rw [if_pos h1, if_pos ⟨h1.1, by omega, by omega⟩, h1.2, show 364 * a + k - 364 * a = k by omega]
  · rw [if_neg h1]
    by_cases h2 : c = 152 ∧ 364 * a ≤ j ∧ j < 364 * a + k
    · rw [if_pos h2, if_pos ⟨h2.1, by omega, by omega⟩]
    · rw [if_neg h2, if_neg (by omega)]
theorem frw_0 {g : Nat → Nat → Int} {a : Nat} : frw g a 0 = g := by
  funext c j
  unfold frw
  rw [if_neg (by omega)]
theorem frw_nc {g : Nat → Nat → Int} {a n c j : Nat} (h : c ≠ 152) : frw g a n c j = g c j := if_neg (fun t => h t.1)
/-- what is kept, of the cells as a function -/
def gxh (g : Nat → Nat → Int) (a b : Nat) : Prop := g a 4 = g b 3 ∧ g a 5 = g b 4 ∧ g a 6 = g b 0 ∧ (∀ j : Nat, j < 48 → (j : Int) < 8 * g a 5 → g (a + 3) j = g b (68 + j)) ∧ (∀ j : Nat, j < 8 → g (a + 4) j = g b (116 + j)) ∧ 0 ≤ g a 6 ∧ g a 6 ≤ 12
def gxa (g : Nat → Nat → Int) : Prop := ∀ r k : Nat, (r : Int) < g 148 6 → r < 12 → gx_P k → g 152 (364 * r + k) = g 149 k
def gxg (g : Nat → Nat → Int) : Prop := (∀ j, j < 400 → g 2 j = g 153 j) ∧ gxh g 3 149 ∧ gxh g 56 150 ∧ gxa g
/-- the first three, where nothing of them is written -/
theorem gxg_cg {g g' : Nat → Nat → Int} (h : gxg g) (q : ∀ c j, gx_K c j → c ≠ 152 → ¬ (c = 148 ∧ j = 6) → g' c j = g c j) (ha : gxa g') : gxg g' := by
  obtain ⟨g1, g2, g3, g4⟩ := h
  have hm : ∀ a b, (a = 3 ∧ b = 149) ∨ (a = 56 ∧ b = 150) → gxh g a b → gxh g' a b := by
    intro a b ab g
    obtain ⟨k1, k2, k3, k4, k5, k6⟩ := g
    have f : ∀ j, 4 ≤ j → j ≤ 6 → g' a j = _ := fun j j1 j2 => q a j (Or.inr (Or.inr (Or.inl ⟨by omega, j1, j2⟩))) (by omega) (by omega)
    have m : ∀ j, gx_P j → g' b j = _ := fun j hj => q b j (by
      rcases ab with ⟨-, rfl⟩ | ⟨-, rfl⟩
      · exact Or.inl ⟨rfl, hj⟩
      · unfold gx_K; omega) (by omega) (by omega)
    have e1 : ∀ j, g' (a + 3) j = _ := fun j => q _ j (by unfold gx_K; omega) (by omega) (by omega)
    have e2 : ∀ j, g' (a + 4) j = _ := fun j => q _ j (by unfold gx_K; omega) (by omega) (by omega)
    refine ⟨?_, ?_, ?_, fun j j1 j2 => ?_, fun j j1 => ?_, by rw [f 6 (by omega) (by omega)]; exact k6⟩
    · rw [f 4 (by omega) (by omega), m 3 (by unfold gx_P; omega)]; exact k1
    · rw [f 5 (by omega) (by omega), m 4 (by unfold gx_P; omega)]; exact k2
    · rw [f 6 (by omega) (by omega), m 0 (by unfold gx_P; omega)]; exact k3
    · rw [f 5 (by omega) (by omega)] at j2
      rw [e1, m _ (by unfold gx_P; omega)]
      exact k4 j j1 j2
    · rw [e2, m _ (by unfold gx_P; omega)]
      exact k5 j j1
  refine ⟨fun j hj => ?_, hm _ _ (Or.inl ⟨rfl, rfl⟩) g2, hm _ _ (Or.inr ⟨rfl, rfl⟩) g3, ha⟩
  rw [q 2 j (by unfold gx_K; omega) (by decide) (by omega), q 153 j (by unfold gx_K; omega) (by decide) (by omega)]
  exact g1 j hj
section FYC
variable {W : ax_W} {r : Nat} {g : Nat → Nat → Int} {Q : Nat → Nat → (Nat → Nat → Int) → Prop}
theorem sp_rem_2 (a : Nat) (ha : a ≤ 11) (hac : g 148 6 = a) (kq : fx W r 0 320 86 [1186, fI 364] [] (frw g a 364) Q) : ∀ (n k : Nat), k + n = 364 → fx W r 0 320 52 [1186, fI (k : Int)] [] (frw g a k) Q
  | n, k, hn => by
    refine fx_rg (fun hg => ?_)
    have hv := hgA hg 764 (c := 149) (j := k) (by decide +kernel) (by omega)
    rw [frw_nc (by decide)] at hv
    unfold fR at hv
    have ea : frw g a k 148 6 = a := by rw [frw_nc (by decide)]; exact hac
    refine fx_li 1 53 (by decide +kernel) rfl ?_
    refine fx_ci (364) 56 (by decide +kernel) ?_
    refine fx_ige 86 59 (by decide +kernel) (by unfold fR; omega) (by unfold fR; omega) (fun h56 => ?_) (fun h56 => ?_)
    · have e : k = 364 := by omega
      subst e
      exact kq
    · refine fx_la 0 60 (v := 1186) (by decide +kernel) rfl (by decide +kernel) ?_
      refine fx_gp 1186 148 5 1218 63 (by decide +kernel) ?_
      refine fx_ci (364) 66 (by decide +kernel) ?_
      refine fx_la 0 67 (v := 1186) (by decide +kernel) rfl (by decide +kernel) ?_
      refine fx_gi 1186 148 6 70 (by decide +kernel) ?_
      rw [ea]
      refine fx_mul 71 (by decide +kernel) rfl ?_
      refine fx_li 1 72 (by decide +kernel) rfl ?_
      refine fx_add 73 (by decide +kernel) rfl ?_
      refine fx_la 0 74 (v := 1186) (by decide +kernel) rfl (by decide +kernel) ?_
      refine fx_gp 1186 148 1 1194 77 (by decide +kernel) ?_
      refine fx_li 1 78 (by decide +kernel) rfl ?_
      refine fx_al 1194 149 764 79 (by decide +kernel) rfl (by omega) (by omega) rfl ?_
      rw [show ((k : Int)).toNat = k from rfl, frw_nc (by decide)]
      refine fx_as 1218 152 4368 80 (by decide +kernel) rfl (by omega) (by omega) rfl (by unfold fR; omega) ?_
      rw [show (364 * (a : Int) + (k : Int)).toNat = 364 * a + k by omega, frw_s]
      refine fx_inc 1 83 (1) (by decide +kernel) rfl (Or.inr (f_n4p (v := 1186) rfl (by decide))) rfl ?_
      dsimp only [List.set]
      refine fx_go 52 (by decide +kernel) ?_
      match n, hn with
      | 0, hn => exfalso; omega
      | n + 1, hn => exact sp_rem_2 a ha hac kq n (k + 1) (by omega)
theorem sp_rem_1 (kq : fx W r 0 320 40 [1186, fI 4004] [] (fsh g 4004) Q) : ∀ (n k : Nat), k + n = 4004 → fx W r 0 320 11 [1186, fI (k : Int)] [] (fsh g k) Q
  | n, k, hn => by
    refine fx_rg (fun hg => ?_)
    have ev : fsh g k 152 (k + 364) = g 152 (k + 364) := if_neg (by omega)
    refine fx_li 1 12 (by decide +kernel) rfl ?_
    refine fx_ci (4004) 15 (by decide +kernel) ?_
    refine fx_ige 40 18 (by decide +kernel) (by unfold fR; omega) (by unfold fR; omega) (fun h15 => ?_) (fun h15 => ?_)
    · have e : k = 4004 := by omega
      subst e
      exact kq
    · refine fx_la 0 19 (v := 1186) (by decide +kernel) rfl (by decide +kernel) ?_
      refine fx_gp 1186 148 5 1218 22 (by decide +kernel) ?_
      refine fx_li 1 23 (by decide +kernel) rfl ?_
      refine fx_la 0 24 (v := 1186) (by decide +kernel) rfl (by decide +kernel) ?_
      refine fx_gp 1186 148 5 1218 27 (by decide +kernel) ?_
      refine fx_li 1 28 (by decide +kernel) rfl ?_
      refine fx_ci (364) 31 (by decide +kernel) ?_
      refine fx_add 32 (by decide +kernel) rfl ?_
      refine fx_al 1218 152 4368 33 (by decide +kernel) rfl (by omega) (by omega) rfl ?_
      have hv := hgA hg 4368 (c := 152) (j := k + 364) (by decide +kernel) (by omega)
      rw [ev] at hv
      unfold fR at hv
      rw [show ((k : Int) + 364).toNat = k + 364 by omega, ev]
      refine fx_as 1218 152 4368 34 (by decide +kernel) rfl (by omega) (by omega) rfl (by unfold fR; omega) ?_
      rw [show ((k : Int)).toNat = k from rfl, fsh_s]
      refine fx_inc 1 37 (1) (by decide +kernel) rfl (Or.inr (f_n4p (v := 1186) rfl (by decide))) rfl ?_
      dsimp only [List.set]
      refine fx_go 11 (by decide +kernel) ?_
      match n, hn with
      | 0, hn => exfalso; omega
      | n + 1, hn => exact sp_rem_1 kq n (k + 1) (by omega)
theorem gxa_rw {a : Nat} (hac : g 148 6 = a) (h : gxa g) : gxa (fu (frw g a 364) 148 6 (a + 1)) := by
  intro r k hr hr2 hk
  rw [fu_eq] at hr
  rw [fu_nc (by decide), fu_nc (by decide), frw_nc (j := k) (by decide)]
  unfold frw
  have k2 : k < 364 := by unfold gx_P at hk; omega
  by_cases e : r = a
  · subst e
    rw [if_pos ⟨rfl, by omega, by omega⟩, show 364 * r + k - 364 * r = k by omega]
  · rw [if_neg (by omega)]
    exact h r k (by rw [hac]; omega) hr2 hk
theorem sp_remembers (h : gxg g) (h0 : 0 ≤ g 148 6) (h1 : g 148 6 ≤ 12) (kq : ∀ g', gxg g' → Q 0 0 g') : fx W r 0 320 0 [1186, 7] [] g Q := by
  refine fx_rg (fun hg => ?_)
  have fin : ∀ (G : Nat → Nat → Int) (a : Nat) (z : Int), a ≤ 11 → G 148 6 = a → gxg G → fx W r 0 320 52 [1186, fI 0] [] G Q := by
    intro G a z ha hac hG
    have st := sp_rem_2 (W := W) (r := r) (Q := Q) (g := G) a ha hac ?_ 364 0 rfl
    · rw [frw_0] at st
      exact st
    · have ea : frw G a 364 148 6 = a := by rw [frw_nc (by decide)]; exact hac
      refine fx_la 0 87 (v := 1186) (by decide +kernel) rfl (by decide +kernel) ?_
      refine fx_dup 88 (by decide +kernel) rfl (by decide) ?_
      refine fx_gi 1186 148 6 91 (by decide +kernel) ?_
      rw [ea]
      refine fx_ci (1) 92 (by decide +kernel) ?_
      refine fx_add 93 (by decide +kernel) rfl ?_
      refine fx_pi 1186 148 6 96 (by decide +kernel) (by unfold fR; omega) ?_
      refine fx_vret (by decide +kernel) ?_
      refine kq _ (gxg_cg hG (fun c j k e1 e2 => ?_) (gxa_rw hac hG.2.2.2))
      rw [fu_ne e2, frw_nc e1]
  refine fx_la 0 1 (v := 1186) (by decide +kernel) rfl (by decide +kernel) ?_
  refine fx_gi 1186 148 6 4 (by decide +kernel) ?_
  refine fx_ci (12) 6 (by decide +kernel) ?_
  refine fx_ine 50 9 (by decide +kernel) (by first | exact hg 148 6 (by decide) (by decide +kernel) (by decide +kernel) | (unfold fR; omega)) (by unfold fR; omega) (fun h6 => ?_) (fun h6 => ?_)
  · refine fx_ci (0) 51 (by decide +kernel) ?_
    refine fx_si 1 52 (by decide +kernel) (Or.inr (f_n4p (v := 1186) rfl (by decide))) rfl ?_
    dsimp only [List.set]
    exact fin g (g 148 6).toNat 0 (by omega) (by omega) h
  · refine fx_ci (0) 10 (by decide +kernel) ?_
    refine fx_si 1 11 (by decide +kernel) (Or.inr (f_n4p (v := 1186) rfl (by decide))) rfl ?_
    dsimp only [List.set]
    have st := sp_rem_1 (W := W) (r := r) (Q := Q) (g := g) ?_ 4004 0 rfl
    · rw [fsh_0] at st
      exact st
    · have ea : fsh g 4004 148 6 = 12 := by rw [fsh_nc (by decide)]; exact h6
      refine fx_la 0 41 (v := 1186) (by decide +kernel) rfl (by decide +kernel) ?_
      refine fx_dup 42 (by decide +kernel) rfl (by decide) ?_
      refine fx_gi 1186 148 6 45 (by decide +kernel) ?_
      rw [ea]
      refine fx_ci (1) 46 (by decide +kernel) ?_
      refine fx_sub 47 (by decide +kernel) rfl ?_
      refine fx_pi 1186 148 6 50 (by decide +kernel) (by unfold fR; omega) ?_
      refine fx_ci (0) 51 (by decide +kernel) ?_
      refine fx_si 1 52 (by decide +kernel) (Or.inr (f_n4p (v := 1186) rfl (by decide))) rfl ?_
      dsimp only [List.set]
      refine fin _ 11 0 (by decide) (by rw [fu_eq]; rfl) (gxg_cg h (fun c j k e1 e2 => ?_) ?_)
      · rw [fu_ne e2, fsh_nc e1]
      · intro r k hr hr2 hk
        rw [fu_eq] at hr
        have k2 : k < 364 := by unfold gx_P at hk; omega
        rw [fu_nc (by decide), fu_nc (by decide), fsh_nc (j := k) (by decide)]
        have e : fsh g 4004 152 (364 * r + k) = g 152 (364 * r + k + 364) := if_pos ⟨rfl, by omega⟩
        rw [e, show 364 * r + k + 364 = 364 * (r + 1) + k by omega]
        exact h.2.2.2 (r + 1) k (by omega) (by omega) hk
end FYC
