/-! fx: a walk and a contract together -/
theorem fx_hs {W : ax_W} {c : ax_C} {r d : Nat} {cav Lj : List Nat} {g : Nat → Nat → Int} {Q : Nat → Nat → (Nat → Nat → Int) → Prop} (hv : ax_Valid W.N W.sy c) (hg : gHs g) (ha : ax_As c.2.2.1 cav) (hp : c.2.2.2.1 = []) (hx : sx_xp cav (sx_im (sx_mt c.1).2) = some Lj) (hr : 1 ≤ r) (hd : c.2.1 ≤ d) (k : fx W r d c.1 0 Lj [] g Q) : fx W r d c.1 0 Lj [] g (fun k v g' => Q k v g' ∧ gHs g') := fun D h cs ss hD v h1 h2 => by
  obtain ⟨co, ev, a1, a2, t, a3, E1, E2, E3, E4, E5, E6, E7, E8, E9, E10⟩ := hv D cav h cs ss Lj (by omega) ha (by rw [hp]; intro q hq; cases hq) (hg h v) (by omega) (by omega) hx
  obtain ⟨o, ev2, b1, b2, g', v', q', b3⟩ := k D h cs ss hD v h1 h2
  have e : co = o := cx_uniq (W := W) ev ev2
  subst e
  exact ⟨co, ev2, b1, b2, g', v', ⟨q', gHs_of E8 v'⟩, b3⟩
/-- what holds at the law's head -/
def LInv (g : Nat → Nat → Int) : Prop := gHs g ∧ gxg g ∧ g 1 1 = g 148 8 ∧ g 0 15 = g 148 3
/-- bounds that the walks use -/
theorem gHs_b {h : sx_H} {g : Nat → Nat → Int} (q : ax_Hs h) (v : HV h g) : (0 ≤ g 1 1 ∧ g 1 1 ≤ 400) ∧ (0 ≤ g 3 4 ∧ g 3 4 ≤ 8) ∧ (0 ≤ g 3 5 ∧ g 3 5 ≤ 6) := by
  exact ⟨Hs_b q v 1 1 0 400 (by decide +kernel) (2, 0, 2147483648, 2147484048, 0, 0) (by decide +kernel) rfl rfl rfl, Hs_b q v 3 4 0 8 (by decide +kernel) (5, 0, 2147483648, 2147483656, 0, 0) (by decide +kernel) rfl rfl rfl, Hs_b q v 3 5 0 6 (by decide +kernel) (6, 0, 2147483648, 2147483654, 0, 0) (by decide +kernel) rfl rfl rfl⟩
