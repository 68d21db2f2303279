/-! fx: the reference's house() -/
noncomputable def f_al (c len : Nat) : Bool := Nat.blt c 160 && (Nat.beq (Nat.mod (ax_cl c).1 256) 100 && Nat.beq (Nat.div (ax_cl c).1 256) len)
theorem hgA {g : Nat → Nat → Int} (hg : ∀ c j, c < 160 → j < (ax_cl c).1 / 256 → fInt c j = true → fR (g c j)) {c : Nat} (len : Nat) (q : f_al c len = true) {j : Nat} (hj : j < len) : fR (g c j) := by
  obtain ⟨q1, q2⟩ := f_and q
  obtain ⟨q2, q3⟩ := f_and q2
  have q3 : (ax_cl c).1 / 256 = len := sx_beq q3
  exact hg c j (sx_blt q1) (by omega) (f_okp (sx_blt q1) (sx_beq q2)).1
/-- the first n places of a into b -/
def fcpn (g : Nat → Nat → Int) (a b n : Nat) : Nat → Nat → Int := fun c j => if c = b ∧ j < n then g a j else g c j
theorem fcpn_s {g : Nat → Nat → Int} {a b k : Nat} : fu (fcpn g a b k) b k (g a k) = fcpn g a b (k + 1) := by
  funext c j
  unfold fu fcpn
  by_cases h1 : c = b ∧ j = k
  · rw [if_pos h1, if_pos ⟨h1.1, by omega⟩, h1.2]
  · rw [if_neg h1]
    by_cases h2 : c = b ∧ j < k
    · rw [if_pos h2, if_pos ⟨h2.1, by omega⟩]
    · rw [if_neg h2, if_neg (by omega)]
theorem fcpn_0 {g : Nat → Nat → Int} {a b : Nat} : fcpn g a b 0 = g := by
  funext c j
  unfold fcpn
  rw [if_neg (by omega)]
theorem fcpn_nc {g : Nat → Nat → Int} {a b n c j : Nat} (h : c ≠ b) : fcpn g a b n c j = g c j := if_neg (fun t => h t.1)
section FXY
variable {W : ax_W} {r : Nat} {g : Nat → Nat → Int} {Q : Nat → Nat → (Nat → Nat → Int) → Prop}
theorem sp_putsAside_1 (kq : Q 0 0 (fcpn g 149 151 364)) : ∀ (n k : Nat), k + n = 364 → fx W r 0 268 2 [1186, fI (k : Int)] [] (fcpn g 149 151 k) Q
  | n, k, hn => by
    refine fx_rg (fun hg => ?_)
    refine fx_li 1 3 (by decide +kernel) rfl ?_
    refine fx_ci (364) 6 (by decide +kernel) ?_
    refine fx_ige 27 9 (by decide +kernel) (by unfold fR; omega) (by unfold fR; omega) (fun h6 => ?_) (fun h6 => ?_)
    · refine fx_vret (by decide +kernel) ?_
      have e : k = 364 := by omega
      subst e
      exact kq
    · refine fx_la 0 10 (v := 1186) (by decide +kernel) rfl (by decide +kernel) ?_
      refine fx_gp 1186 148 4 1210 13 (by decide +kernel) ?_
      refine fx_li 1 14 (by decide +kernel) rfl ?_
      refine fx_la 0 15 (v := 1186) (by decide +kernel) rfl (by decide +kernel) ?_
      refine fx_gp 1186 148 1 1194 18 (by decide +kernel) ?_
      refine fx_li 1 19 (by decide +kernel) rfl ?_
      refine fx_al 1194 149 764 20 (by decide +kernel) rfl (by omega) (by omega) rfl ?_
      have hv := hgA hg 764 (c := 149) (j := k) (by decide +kernel) (by omega)
      rw [show ((k : Int)).toNat = k from rfl]
      rw [fcpn_nc (by decide)] at hv ⊢
      unfold fR at hv
      refine fx_as 1210 151 364 21 (by decide +kernel) rfl (by omega) (by omega) rfl (by unfold fR; omega) ?_
      rw [show ((k : Int)).toNat = k from rfl, fcpn_s]
      refine fx_inc 1 24 (1) (by decide +kernel) rfl (Or.inr (f_n4p (v := 1186) rfl (by decide))) rfl ?_
      dsimp only [List.set]
      refine fx_go 2 (by decide +kernel) ?_
      match n, hn with
      | 0, hn => exfalso; omega
      | n + 1, hn => exact sp_putsAside_1 kq n (k + 1) (by omega)
theorem sp_putsAside (kq : Q 0 0 (fcpn g 149 151 364)) : fx W r 0 268 0 [1186, 7] [] g Q := by
  refine fx_ci (0) 1 (by decide +kernel) ?_
  refine fx_si 1 2 (by decide +kernel) (Or.inr (f_n4p (v := 1186) rfl (by decide))) rfl ?_
  dsimp only [List.set]
  have := sp_putsAside_1 (W := W) (r := r) kq 364 0 rfl
  rw [fcpn_0] at this
  exact this
theorem sp_comesBack_1 (kq : Q 0 0 (fcpn g 151 149 364)) : ∀ (n k : Nat), k + n = 364 → fx W r 0 294 2 [1186, fI (k : Int)] [] (fcpn g 151 149 k) Q
  | n, k, hn => by
    refine fx_rg (fun hg => ?_)
    refine fx_li 1 3 (by decide +kernel) rfl ?_
    refine fx_ci (364) 6 (by decide +kernel) ?_
    refine fx_ige 27 9 (by decide +kernel) (by unfold fR; omega) (by unfold fR; omega) (fun h6 => ?_) (fun h6 => ?_)
    · refine fx_vret (by decide +kernel) ?_
      have e : k = 364 := by omega
      subst e
      exact kq
    · refine fx_la 0 10 (v := 1186) (by decide +kernel) rfl (by decide +kernel) ?_
      refine fx_gp 1186 148 1 1194 13 (by decide +kernel) ?_
      refine fx_li 1 14 (by decide +kernel) rfl ?_
      refine fx_la 0 15 (v := 1186) (by decide +kernel) rfl (by decide +kernel) ?_
      refine fx_gp 1186 148 4 1210 18 (by decide +kernel) ?_
      refine fx_li 1 19 (by decide +kernel) rfl ?_
      refine fx_al 1210 151 364 20 (by decide +kernel) rfl (by omega) (by omega) rfl ?_
      have hv := hgA hg 364 (c := 151) (j := k) (by decide +kernel) (by omega)
      rw [show ((k : Int)).toNat = k from rfl]
      rw [fcpn_nc (by decide)] at hv ⊢
      unfold fR at hv
      refine fx_as 1194 149 764 21 (by decide +kernel) rfl (by omega) (by omega) rfl (by unfold fR; omega) ?_
      rw [show ((k : Int)).toNat = k from rfl, fcpn_s]
      refine fx_inc 1 24 (1) (by decide +kernel) rfl (Or.inr (f_n4p (v := 1186) rfl (by decide))) rfl ?_
      dsimp only [List.set]
      refine fx_go 2 (by decide +kernel) ?_
      match n, hn with
      | 0, hn => exfalso; omega
      | n + 1, hn => exact sp_comesBack_1 kq n (k + 1) (by omega)
theorem sp_comesBack (kq : Q 0 0 (fcpn g 151 149 364)) : fx W r 0 294 0 [1186, 7] [] g Q := by
  refine fx_ci (0) 1 (by decide +kernel) ?_
  refine fx_si 1 2 (by decide +kernel) (Or.inr (f_n4p (v := 1186) rfl (by decide))) rfl ?_
  dsimp only [List.set]
  have := sp_comesBack_1 (W := W) (r := r) kq 364 0 rfl
  rw [fcpn_0] at this
  exact this
def fBeg (g : Nat → Nat → Int) : Nat → Nat → Int := fu (fu (fu (fu (fu (fu g 148 12 (-1)) 148 9 (-1)) 148 10 (g 148 8)) 148 8 0) 148 11 0) 148 13 0
theorem sp_begins (kq : Q 0 0 (fBeg g)) : fx W r 0 269 0 [1186] [] g Q := by
  refine fx_rg (fun hg => ?_)
  have hv := hg 148 8 (by decide) (by decide +kernel) (by decide +kernel)
  unfold fR at hv
  refine fx_la 0 1 (v := 1186) (by decide +kernel) rfl (by decide +kernel) ?_
  refine fx_ci (-1) 2 (by decide +kernel) ?_
  refine fx_pi 1186 148 12 5 (by decide +kernel) (by unfold fR; omega) ?_
  refine fx_la 0 6 (v := 1186) (by decide +kernel) rfl (by decide +kernel) ?_
  refine fx_ci (-1) 7 (by decide +kernel) ?_
  refine fx_pi 1186 148 9 10 (by decide +kernel) (by unfold fR; omega) ?_
  refine fx_la 0 11 (v := 1186) (by decide +kernel) rfl (by decide +kernel) ?_
  refine fx_la 0 12 (v := 1186) (by decide +kernel) rfl (by decide +kernel) ?_
  refine fx_gi 1186 148 8 15 (by decide +kernel) ?_
  try simp only [fu_app, fcy_app, Nat.reduceEqDiff, and_true, and_false, false_and, true_and, if_true, if_false, ite_true, ite_false, reduceIte, Int.reduceToNat, fx_simp0]
  refine fx_pi 1186 148 10 18 (by decide +kernel) (by unfold fR; omega) ?_
  refine fx_la 0 19 (v := 1186) (by decide +kernel) rfl (by decide +kernel) ?_
  refine fx_ci (0) 20 (by decide +kernel) ?_
  refine fx_pi 1186 148 8 23 (by decide +kernel) (by unfold fR; omega) ?_
  refine fx_la 0 24 (v := 1186) (by decide +kernel) rfl (by decide +kernel) ?_
  refine fx_ci (0) 25 (by decide +kernel) ?_
  refine fx_pi 1186 148 11 28 (by decide +kernel) (by unfold fR; omega) ?_
  refine fx_la 0 29 (v := 1186) (by decide +kernel) rfl (by decide +kernel) ?_
  refine fx_ci (0) 30 (by decide +kernel) ?_
  refine fx_pi 1186 148 13 33 (by decide +kernel) (by unfold fR; omega) ?_
  refine fx_vret (by decide +kernel) ?_
  exact kq
/-- nothing but the row, what is put aside, what is read -/
def frm (g g' : Nat → Nat → Int) : Prop := ∀ c j, c ≠ 149 → c ≠ 151 → ¬ (c = 148 ∧ (j = 0 ∨ j = 6 ∨ (8 ≤ j ∧ j ≤ 13))) → g' c j = g c j
end FXY
