/-! fx: an act is undone on both sides -/
theorem RHf_t {h : Nat} {g : Nat → Nat → Int} {t t' : Nat → Int} (q : RHf h g t) (hd : g h 5 ≤ 6) (e : ∀ k, gHp k → t' k = t k) : RHf h g t' := by
  obtain ⟨a1, a2, a3, a4, a5, a6, a7, a8, a9, a10⟩ := q
  have e' : ∀ k, k < 8 → t' k = t k := fun k hk => e k (Or.inl hk)
  refine ⟨by rw [e' 3 (by decide)]; exact a1, by rw [e' 4 (by decide)]; exact a2, by rw [e' 0 (by decide)]; exact a3, by rw [e' 5 (by decide)]; exact a4, by rw [e' 6 (by decide)]; exact a5, by rw [e' 7 (by decide)]; exact a6, fun p hp => ?_, fun p hp => ?_, fun j hj => ?_, fun j hj => ?_⟩
  · rw [e _ (by unfold gHp; omega)]; exact a7 p hp
  · rw [e _ (by unfold gHp; omega)]; exact a8 p hp
  · rw [e _ (by unfold gHp; omega)]; exact a9 j hj
  · rw [e _ (by unfold gHp; omega)]; exact a10 j hj
/-- the reference goes back: an act fewer, the row as it was -/
def mUnd (g : Nat → Nat → Int) : Nat → Nat → Int := fun1 (fu g 148 6 (g 148 6 - 1)) (g 148 6 - 1).toNat 364
theorem mUnd_ne {g : Nat → Nat → Int} {c j : Nat} (h1 : c ≠ 149) (h2 : ¬ (c = 148 ∧ j = 6)) : mUnd g c j = g c j := by
  unfold mUnd
  rw [fun1_nc h1, fu_ne h2]
theorem mUnd_m {g : Nat → Nat → Int} {j : Nat} : mUnd g 149 j = if j < 364 then g 152 (364 * (g 148 6 - 1).toNat + j) else g 149 j := by
  unfold mUnd fun1
  by_cases e : j < 364
  · rw [if_pos ⟨rfl, e⟩, if_pos e, fu_nc (by decide)]
  · rw [if_neg (fun t => e t.2), if_neg e, fu_nc (by decide)]
theorem mUnd_a {g : Nat → Nat → Int} : mUnd g 148 6 = g 148 6 - 1 := by
  unfold mUnd
  rw [fun1_nc (by decide), fu_eq]
theorem RPs_und {g g2 : Nat → Nat → Int} {i : Nat} (h : RPs g) (hc : 1 ≤ g 148 6) (hi : g 0 17 = (i : Int))
    (e1 : ∀ c j, 16 ≤ c → c ≤ 147 → g2 c j = cUnd g i c j) (e2 : g2 0 17 = (((i + 11) % 12 : Nat) : Int)) (e3 : g2 0 16 = g 0 16 - 1) (e4 : ∀ j, g2 152 j = g 152 j) (e5 : g2 148 6 = g 148 6 - 1) (e6 : ∀ k, k < 364 → g2 149 k = g 152 (364 * (g 148 6 - 1).toNat + k)) :
    RPs g2 ∧ RTf 16 g2 (g2 149) ∧ RLg 16 g2 (g2 149) ∧ RIv (g2 149) ∧ ∀ k, gHp k → g2 149 k = g 149 k := by
  obtain ⟨a1, a2, a3, a4, a5, a6⟩ := h
  have ecp : ∀ c j, 16 ≤ c → c ≤ 147 → g2 c j = cpT g (76 + 6 * i) 16 c j := fun c j h1 h2 => by
    rw [e1 c j h1 h2]
    unfold cUnd
    rw [fu_nc (by omega), fu_nc (by omega)]
  have hr : ((g 148 6 - 1).toNat : Int) < g 148 6 := by omega
  obtain ⟨b1, b2, b3, b4⟩ := a6 _ hr
  have tb : pTab g (g 148 6 - 1).toNat = 76 + 6 * i := by
    unfold pTab
    omega
  rw [tb] at b1 b2
  have row : ∀ k, k < 364 → g2 149 k = aRow g (g 148 6 - 1).toNat k := fun k hk => e6 k hk
  have hm : ∀ k, gHp k → g2 149 k = g 149 k := fun k hk => (row k (by unfold gHp at hk; omega)).trans (b4 k hk)
  have f1 : ∀ j, 5 ≤ j → j ≤ 10 → g2 16 j = g (76 + 6 * i) j := fun j j1 j2 => by
    rw [ecp _ _ (by decide) (by decide), cpT_f j1 j2]
  have f2 : ∀ k j, 1 ≤ k → k ≤ 5 → g2 (16 + k) j = g (76 + 6 * i + k) j := fun k j j1 j2 => by
    rw [ecp _ _ (by omega) (by omega), cpT_a j1 j2 (by omega)]
  refine ⟨⟨by rw [e3, e5, a1], by rw [e5]; omega, by rw [e5]; omega, by rw [e2]; omega, by rw [e2]; omega, fun r hr => ?_⟩, RTf_t (RTf_eq b1 (fun j j1 j2 => f1 j (by omega) j2) (fun k j j1 j2 => f2 k j j1 (by omega))) row, RLg_t (RLg_eq b2 (fun j j1 j2 => f1 j j1 (by omega)) (fun j => f2 5 j (by decide) (by decide))) row, RIv_t b3 row, hm⟩
  rw [e5] at hr
  obtain ⟨d1, d2, d3, d4⟩ := a6 r (by omega)
  have ar : aRow g2 r = aRow g r := by
    funext k
    exact e4 _
  have tb2 : pTab g2 r = pTab g r := by
    unfold pTab
    rw [e2, e5]
    omega
  rw [ar, tb2]
  have f0 : ∀ k j, k ≤ 5 → g2 (pTab g r + k) j = g (pTab g r + k) j := fun k j j1 => by
    rw [ecp _ _ (by unfold pTab; omega) (by unfold pTab; omega), cpT_ne (by unfold pTab; omega)]
  refine ⟨RTf_eq d1 (fun j _ _ => f0 0 j (by decide)) (fun k j j1 j2 => f0 k j (by omega)), RLg_eq d2 (fun j _ _ => f0 0 j (by decide)) (fun j => f0 5 j (by decide)), d3, fun k hk => ?_⟩
  rw [d4 k hk, hm k hk]
section FHI
variable {W : ax_W} {r : Nat} {g : Nat → Nat → Int} {Q : Nat → Nat → (Nat → Nat → Int) → Prop}
theorem sp_mund (h0 : 0 ≤ g 148 6) (h1 : g 148 6 ≤ 12) (k0 : g 148 6 = 0 → Q 1 (fI 0) (fu g 148 0 0)) (kq : 1 ≤ g 148 6 → Q 1 (fI 1) (mUnd (fu g 148 0 0))) : fx W r 0 408 0 [1186, 7] [] g Q := by
  refine fx_rg (fun hg => ?_)
  refine fx_la 0 1 (v := 1186) (by decide +kernel) rfl (by decide +kernel) ?_
  refine fx_ci (0) 2 (by decide +kernel) ?_
  refine fx_pi 1186 148 0 5 (by decide +kernel) (by unfold fR; omega) ?_
  refine fx_la 0 6 (v := 1186) (by decide +kernel) rfl (by decide +kernel) ?_
  refine fx_gi 1186 148 6 9 (by decide +kernel) ?_
  try simp only [fu_app, fcy_app, Nat.reduceEqDiff, and_true, and_false, false_and, true_and, if_true, if_false, ite_true, ite_false, reduceIte, Int.reduceToNat, fx_simp0]
  refine fx_zne 14 12 (by decide +kernel) (by unfold fR; omega) (fun h9 => ?_) (fun h9 => ?_)
  · refine fx_la 0 15 (v := 1186) (by decide +kernel) rfl (by decide +kernel) ?_
    refine fx_dup 16 (by decide +kernel) rfl (by decide) ?_
    refine fx_gi 1186 148 6 19 (by decide +kernel) ?_
    try simp only [fu_app, fcy_app, Nat.reduceEqDiff, and_true, and_false, false_and, true_and, if_true, if_false, ite_true, ite_false, reduceIte, Int.reduceToNat, fx_simp0]
    refine fx_ci (1) 20 (by decide +kernel) ?_
    refine fx_sub 21 (by decide +kernel) rfl ?_
    refine fx_pi 1186 148 6 24 (by decide +kernel) (by unfold fR; omega) ?_
    refine fx_ci (0) 25 (by decide +kernel) ?_
    refine fx_si 1 26 (by decide +kernel) (Or.inr (f_n4p (v := 1186) rfl (by decide))) rfl ?_
    dsimp only [List.set]
    have hac : fu (fu g 148 0 0) 148 6 (g 148 6 - 1) 148 6 = ((g 148 6 - 1).toNat : Int) := by rw [fu_eq]; omega
    have st := sp_undo_1 (W := W) (r := r) (Q := Q) (g := fu (fu g 148 0 0) 148 6 (g 148 6 - 1)) (g 148 6 - 1).toNat (by omega) hac ?_ 364 0 rfl
    · rw [fun1_0] at st
      exact st
    · have kq := kq (by omega)
      unfold mUnd at kq
      rw [fu_nj (by decide)] at kq
      exact kq
  · refine fx_ci (0) 13 (by decide +kernel) ?_
    refine fx_retb (by decide +kernel) (by first | exact Or.inl rfl | exact Or.inr rfl | omega) ?_
    exact k0 (by omega)
end FHI
