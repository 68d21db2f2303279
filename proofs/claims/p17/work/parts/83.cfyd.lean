/-! fx: undo keeps what is kept -/
/-- the row a of what is remembered as the row m -/
def fun1 (g : Nat → Nat → Int) (a n : Nat) : Nat → Nat → Int := fun c j => if c = 149 ∧ j < n then g 152 (364 * a + j) else g c j
theorem fun1_s {g : Nat → Nat → Int} {a k : Nat} : fu (fun1 g a k) 149 k (g 152 (364 * a + k)) = fun1 g a (k + 1) := by
  funext c j
  unfold fu fun1
  by_cases h1 : c = 149 ∧ j = k
  · rw [if_pos h1, if_pos ⟨h1.1, by omega⟩, h1.2]
  · rw [if_neg h1]
    by_cases h2 : c = 149 ∧ j < k
    · rw [if_pos h2, if_pos ⟨h2.1, by omega⟩]
    · rw [if_neg h2, if_neg (by omega)]
theorem fun1_0 {g : Nat → Nat → Int} {a : Nat} : fun1 g a 0 = g := by
  funext c j
  unfold fun1
  rw [if_neg (by omega)]
theorem fun1_nc {g : Nat → Nat → Int} {a n c j : Nat} (h : c ≠ 149) : fun1 g a n c j = g c j := if_neg (fun t => h t.1)
section FYD
variable {W : ax_W} {r : Nat} {g : Nat → Nat → Int} {Q : Nat → Nat → (Nat → Nat → Int) → Prop}
theorem sp_undo_1 (a : Nat) (ha : a ≤ 11) (hac : g 148 6 = a) (kq : Q 1 (fI 1) (fun1 g a 364)) : ∀ (n k : Nat), k + n = 364 → fx W r 0 408 26 [1186, fI (k : Int)] [] (fun1 g a k) Q
  | n, k, hn => by
    refine fx_rg (fun hg => ?_)
    have ea : fun1 g a k 148 6 = a := by rw [fun1_nc (by decide)]; exact hac
    refine fx_li 1 27 (by decide +kernel) rfl ?_
    refine fx_ci (364) 30 (by decide +kernel) ?_
    refine fx_ige 60 33 (by decide +kernel) (by unfold fR; omega) (by unfold fR; omega) (fun h30 => ?_) (fun h30 => ?_)
    · refine fx_ci (1) 61 (by decide +kernel) ?_
      refine fx_retb (by decide +kernel) (by first | exact Or.inl rfl | exact Or.inr rfl | omega) ?_
      have e : k = 364 := by omega
      subst e
      exact kq
    · refine fx_la 0 34 (v := 1186) (by decide +kernel) rfl (by decide +kernel) ?_
      refine fx_gp 1186 148 1 1194 37 (by decide +kernel) ?_
      refine fx_li 1 38 (by decide +kernel) rfl ?_
      refine fx_la 0 39 (v := 1186) (by decide +kernel) rfl (by decide +kernel) ?_
      refine fx_gp 1186 148 5 1218 42 (by decide +kernel) ?_
      refine fx_ci (364) 45 (by decide +kernel) ?_
      refine fx_la 0 46 (v := 1186) (by decide +kernel) rfl (by decide +kernel) ?_
      refine fx_gi 1186 148 6 49 (by decide +kernel) ?_
      rw [ea]
      refine fx_mul 50 (by decide +kernel) rfl ?_
      refine fx_li 1 51 (by decide +kernel) rfl ?_
      refine fx_add 52 (by decide +kernel) rfl ?_
      refine fx_al 1218 152 4368 53 (by decide +kernel) rfl (by omega) (by omega) rfl ?_
      have hv := hgA hg 4368 (c := 152) (j := 364 * a + k) (by decide +kernel) (by omega)
      rw [fun1_nc (by decide)] at hv
      unfold fR at hv
      rw [show (364 * (a : Int) + (k : Int)).toNat = 364 * a + k by omega, fun1_nc (by decide)]
      refine fx_as 1194 149 764 54 (by decide +kernel) rfl (by omega) (by omega) rfl (by unfold fR; omega) ?_
      rw [show ((k : Int)).toNat = k from rfl, fun1_s]
      refine fx_inc 1 57 (1) (by decide +kernel) rfl (Or.inr (f_n4p (v := 1186) rfl (by decide))) rfl ?_
      dsimp only [List.set]
      refine fx_go 26 (by decide +kernel) ?_
      match n, hn with
      | 0, hn => exfalso; omega
      | n + 1, hn => exact sp_undo_1 a ha hac kq n (k + 1) (by omega)
theorem sp_mundo (h : gxg g) (h0 : 0 ≤ g 148 6) (h1 : g 148 6 ≤ 12) (kq : ∀ g' v, gxg g' → Q 1 v g') : fx W r 0 408 0 [1186, 7] [] g Q := by
  refine fx_rg (fun hg => ?_)
  refine fx_la 0 1 (v := 1186) (by decide +kernel) rfl (by decide +kernel) ?_
  refine fx_ci (0) 2 (by decide +kernel) ?_
  refine fx_pi 1186 148 0 5 (by decide +kernel) (by unfold fR; omega) ?_
  refine fx_la 0 6 (v := 1186) (by decide +kernel) rfl (by decide +kernel) ?_
  refine fx_gi 1186 148 6 9 (by decide +kernel) ?_
  try simp only [fu_app, fcy_app, Nat.reduceEqDiff, and_true, and_false, false_and, true_and, if_true, if_false, ite_true, ite_false, reduceIte, Int.reduceToNat, fx_simp0]
  refine fx_zne 14 12 (by decide +kernel) (by unfold fR; omega) (fun h9 => ?_) (fun h9 => ?_)
  · refine fx_la 0 15 (v := 1186) (by decide +kernel) rfl (by decide +kernel) ?_
    refine fx_dup 16 (by decide +kernel) rfl (by decide) ?_
    refine fx_gi 1186 148 6 19 (by decide +kernel) ?_
    try simp only [fu_app, fcy_app, Nat.reduceEqDiff, and_true, and_false, false_and, true_and, if_true, if_false, ite_true, ite_false, reduceIte, Int.reduceToNat, fx_simp0]
    refine fx_ci (1) 20 (by decide +kernel) ?_
    refine fx_sub 21 (by decide +kernel) rfl ?_
    refine fx_pi 1186 148 6 24 (by decide +kernel) (by unfold fR; omega) ?_
    refine fx_ci (0) 25 (by decide +kernel) ?_
    refine fx_si 1 26 (by decide +kernel) (Or.inr (f_n4p (v := 1186) rfl (by decide))) rfl ?_
    dsimp only [List.set]
    have hac : fu (fu g 148 0 0) 148 6 (g 148 6 - 1) 148 6 = ((g 148 6 - 1).toNat : Int) := by rw [fu_eq]; omega
    have st := sp_undo_1 (W := W) (r := r) (Q := Q) (g := fu (fu g 148 0 0) 148 6 (g 148 6 - 1)) (g 148 6 - 1).toNat (by omega) hac ?_ 364 0 rfl
    · rw [fun1_0] at st
      exact st
    · have row : ∀ k, gx_P k → fun1 (fu (fu g 148 0 0) 148 6 (g 148 6 - 1)) (g 148 6 - 1).toNat 364 149 k = g 149 k := fun k hk => by
        have k2 : k < 364 := by unfold gx_P at hk; omega
        unfold fun1
        rw [if_pos ⟨rfl, k2⟩, fu_nc (by decide), fu_nc (by decide)]
        exact h.2.2.2 _ k (by omega) (by omega) hk
      refine kq _ _ (gxg_cg h (fun c j k e1 e2 => ?_) ?_)
      · by_cases e : c = 149
        · subst e
          refine row j ?_
          rcases k with ⟨-, hp⟩ | k
          · exact hp
          · exfalso; omega
        · rw [fun1_nc e, fu_ne e2, fu_ne (by unfold gx_K gx_P at k; omega)]
      · intro r k hr hr2 hk
        rw [fun1_nc (by decide), fu_eq] at hr
        rw [row k hk, fun1_nc (by decide), fu_nc (by decide), fu_nc (by decide)]
        exact h.2.2.2 r k (by omega) hr2 hk
  · refine fx_ci (0) 13 (by decide +kernel) ?_
    refine fx_retb (by decide +kernel) (by first | exact Or.inl rfl | exact Or.inr rfl | omega) ?_
    refine kq _ _ (gxg_cg h (fun c j k e1 e2 => ?_) ?_)
    · rw [fu_ne (by unfold gx_K gx_P at k; omega)]
    · intro r k hr
      rw [fu_nj (by decide)] at hr
      omega
end FYD
