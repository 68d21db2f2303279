/-! fx: the law's case of house -/
theorem tp_sg (j : Nat) (hj : j < 400) : ax_sg (ax_cl 2).2.2 (j % (ax_cl 2).2.1) (j % (ax_cl 2).2.1) = some (400, 0, 2147483648, 2147483903, 0, 0) := by
  show sx_if (Nat.blt (j % 400) 400) (sx_if (Nat.blt (j % 400) 400) (some (400, 0, 2147483648, 2147483903, 0, 0)) none) none = _
  rw [sx_blt_t (show j % 400 < 400 by omega), sx_if_t, sx_if_t]
theorem gHs_tp {h : sx_H} {g : Nat → Nat → Int} (q : ax_Hs h) (v : HV h g) {j : Nat} (hj : j < 400) : 0 ≤ g 2 j ∧ g 2 j ≤ 255 := by
  refine Hs_b q v 2 j 0 255 ?_ (400, 0, 2147483648, 2147483903, 0, 0) (tp_sg j hj) rfl rfl rfl
  have l : (ax_cl 2).1 / 256 = 400 := by decide +kernel
  have i := (f_okp (c := 2) (j := j) (by decide) (by decide +kernel)).1
  rw [i, show Nat.div (ax_cl 2).1 256 = 400 from l, sx_blt_t hj]
  decide
/-- bounds that the walks use, from what holds at the head -/
def LB (g : Nat → Nat → Int) : Prop := (0 ≤ g 1 1 ∧ g 1 1 ≤ 400) ∧ (0 ≤ g 3 4 ∧ g 3 4 ≤ 8) ∧ (0 ≤ g 3 5 ∧ g 3 5 ≤ 6) ∧ (∀ j, j < 400 → 0 ≤ g 2 j ∧ g 2 j ≤ 255) ∧ gxb g ∧ (0 ≤ g 0 15 ∧ g 0 15 ≤ 1)
theorem gHs_LB {h : sx_H} {g : Nat → Nat → Int} (q : ax_Hs h) (v : HV h g) : LB g := by
  obtain ⟨a, b, c⟩ := gHs_b q v
  exact ⟨a, b, c, fun j hj => gHs_tp q v hj, Hs_gxb q v, Hs_b q v 0 15 0 1 (by decide +kernel) (16, 0, 2147483648, 2147483649, 0, 0) (by decide +kernel) rfl rfl rfl⟩
section FYL
variable {W : ax_W} {r d mi pc : Nat} {L S : List Nat} {g : Nat → Nat → Int} {Q : Nat → Nat → (Nat → Nat → Int) → Prop}
theorem fx_LB (hg : gHs g) (k : LB g → fx W r d mi pc L S g Q) : fx W r d mi pc L S g Q := fun D h cs ss hD v => k (gHs_LB (hg h v) v) D h cs ss hD v
theorem sp_thrown (kq : Q 1 (fI (g 148 0)) g) : fx W r 0 263 0 [1186] [] g Q := by
  refine fx_rg (fun hg => ?_)
  refine fx_la 0 1 (v := 1186) (by decide +kernel) rfl (by decide +kernel) ?_
  refine fx_gi 1186 148 0 4 (by decide +kernel) ?_
  refine fx_ret (by decide +kernel) ?_
  exact kq
/-- the class's house as the law sees it -/
def PW (T : Int → Int) (E : Int) (g : Nat → Nat → Int) (k v : Nat) (g' : Nat → Nat → Int) : Prop := k = 1 ∧
  ((∃ q, pText T E (g 3 4) (g 3 5) = Sum.inl q ∧ v = fI 1 ∧ frc g g' ∧ g' 1 1 = 0) ∨
   (∃ us, pText T E (g 3 4) (g 3 5) = Sum.inr us ∧ g 3 6 = 12 ∧ v = fI 2 ∧ frc g g' ∧ g' 1 1 = 0) ∨
   (∃ us A g1, pText T E (g 3 4) (g 3 5) = Sum.inr us ∧ g 3 6 ≠ 12 ∧ v = fI 0 ∧ (∀ gm, RHx 3 g gm → 0 ≤ gm 149 3 → gm 149 3 ≤ 8 → 0 ≤ gm 149 4 → gm 149 4 ≤ 6 → RHx 29 A (apLs T us gm)) ∧ frd g g1 ∧ g1 1 1 = 0 ∧ g1 3 6 = g 3 6 + 1 ∧ (∀ j, 4 ≤ j → j ≤ 9 → j ≠ 6 → g1 3 j = A 29 j) ∧ (∀ i j, 1 ≤ i → i ≤ 4 → g1 (3 + i) j = A (29 + i) j) ∧ g' = fu g1 159 0 ((fJ (g 3 6 + 1) - 4 : Nat) : Int)))
theorem sp_whouseP (hl : 1 ≤ W.lim) (hi : LInv g) (hb : LB g) : fx W 1 11 69 0 [2, 1274, 7] [] g (PW (fun k => g 2 k.toNat) (g 1 1) g) := by
  obtain ⟨b1, b2, b3, b4, -⟩ := hb
  have ht := hi.2.1.2.1.2.2.2.2.2
  exact sp_whouse hl (fun k k0 k1 => ⟨rfl, b4 k.toNat (by omega)⟩) rfl b1.1 b1.2 b2.1 b2.2 b3.1 b3.2 ht.1 ht.2
    (fun q t g' f1 f2 f3 => ⟨rfl, Or.inl ⟨q, t, rfl, f1, f2⟩⟩)
    (fun us t t2 g' f1 f2 f3 => ⟨rfl, Or.inr (Or.inl ⟨us, t, t2, rfl, f1, f2⟩)⟩)
    (fun us t t2 A f0 g' f1 f2 f3 f4 f5 f6 f7 => ⟨rfl, Or.inr (Or.inr ⟨us, A, g', t, t2, rfl, f0, f1, f2, f5, f6, f7, rfl⟩)⟩)
end FYL
