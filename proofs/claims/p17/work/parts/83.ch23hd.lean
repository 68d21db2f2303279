/-! fx: a row of the log, on both sides -/
/-- the reference's row anew -/
def frow (g : Nat → Nat → Int) (t : Nat → Int) : Nat → Nat → Int := fun c j => if c = 149 then t j else g c j
theorem frow_m (g : Nat → Nat → Int) (t : Nat → Int) (j : Nat) : frow g t 149 j = t j := if_pos rfl
theorem frow_mm (g : Nat → Nat → Int) (t : Nat → Int) : frow g t 149 = t := by funext j; exact if_pos rfl
theorem frow_ne {g : Nat → Nat → Int} {t : Nat → Int} {c j : Nat} (h : c ≠ 149) : frow g t c j = g c j := if_neg h
theorem frow_self (g : Nat → Nat → Int) : frow g (g 149) = g := by
  funext c j
  unfold frow
  split
  · rename_i h; rw [h]
  · rfl
theorem frow_frow (g : Nat → Nat → Int) (t t' : Nat → Int) : frow (frow g t) t' = frow g t' := by
  funext c j
  unfold frow
  split <;> rfl
/-- one place of a row anew -/
def tU (t : Nat → Int) (k : Nat) (z : Int) : Nat → Int := fun j => if j = k then z else t j
theorem tU_eq (t : Nat → Int) (k : Nat) (z : Int) : tU t k z k = z := if_pos rfl
theorem tU_ne {t : Nat → Int} {k j : Nat} {z : Int} (h : j ≠ k) : tU t k z j = t j := if_neg h
theorem frow_fu (g : Nat → Nat → Int) (t : Nat → Int) (k : Nat) (z : Int) : fu (frow g t) 149 k z = frow g (tU t k z) := by
  funext c j
  unfold fu frow tU
  by_cases h : c = 149
  · by_cases h2 : j = k
    · rw [if_pos ⟨h, h2⟩, if_pos h, if_pos h2]
    · rw [if_neg (fun q => h2 q.2), if_pos h, if_pos h, if_neg h2]
  · rw [if_neg (fun q => h q.1), if_neg h, if_neg h]
theorem frow_fu0 (g : Nat → Nat → Int) (k : Nat) (z : Int) : fu g 149 k z = frow g (tU (g 149) k z) := by
  rw [← frow_fu, frow_self]
theorem frow_sw (g : Nat → Nat → Int) (t : Nat → Int) {c j : Nat} {z : Int} (h : c ≠ 149) : fu (frow g t) c j z = frow (fu g c j z) t := by
  funext c' j'
  unfold fu frow
  by_cases e : c' = c ∧ j' = j
  · rw [if_pos e, if_neg (fun q => h (e.1.symm.trans q))]
    exact (if_pos e).symm
  · rw [if_neg e]
    by_cases e2 : c' = 149
    · rw [if_pos e2, if_pos e2]
    · rw [if_neg e2, if_neg e2]
      exact (if_neg e).symm
/-- the log, a row ahead of the others -/
def tNote (t : Nat → Int) (p k w : Int) : Nat → Int := fun j => if j = 10 then (if 60 < t 10 + 1 then 60 else t 10 + 1) else if j = 124 then t 9 else if j = 125 then p else if j = 126 then k else if j = 127 then w else if 128 ≤ j ∧ j < 364 then t (j - 4) else t j
def lgS (g : Nat → Nat → Int) (k : Int) : Nat → Nat → Int := fun c j => if c = 149 ∧ 124 + k < j ∧ j < 364 then g 149 (j - 4) else g c j
section FHD
variable {W : ax_W} {r : Nat} {g : Nat → Nat → Int} {Q : Nat → Nat → (Nat → Nat → Int) → Prop}
theorem sp_mlesser {v w : Int} (hv : fR v) (hw : fR w) (kq : Q 1 (fI (if v < w then v else w)) g) : fx W r 0 322 0 [fI v, fI w] [] g Q := by
  unfold fR at hv hw
  refine fx_li 0 1 (by decide +kernel) rfl ?_
  refine fx_li 1 2 (by decide +kernel) rfl ?_
  refine fx_ige 9 5 (by decide +kernel) (by unfold fR; omega) (by unfold fR; omega) (fun h2 => ?_) (fun h2 => ?_)
  · refine fx_li 1 10 (by decide +kernel) rfl ?_
    refine fx_ret (by decide +kernel) ?_
    rw [if_neg (by omega)] at kq
    exact kq
  · refine fx_li 0 6 (by decide +kernel) rfl ?_
    refine fx_go 10 (by decide +kernel) ?_
    refine fx_ret (by decide +kernel) ?_
    rw [if_pos (by omega)] at kq
    exact kq
theorem sp_mgreater {v w : Int} (hv : fR v) (hw : fR w) (kq : Q 1 (fI (if v > w then v else w)) g) : fx W r 0 317 0 [fI v, fI w] [] g Q := by
  unfold fR at hv hw
  refine fx_li 0 1 (by decide +kernel) rfl ?_
  refine fx_li 1 2 (by decide +kernel) rfl ?_
  refine fx_ile 9 5 (by decide +kernel) (by unfold fR; omega) (by unfold fR; omega) (fun h2 => ?_) (fun h2 => ?_)
  · refine fx_li 1 10 (by decide +kernel) rfl ?_
    refine fx_ret (by decide +kernel) ?_
    rw [if_neg (by omega)] at kq
    exact kq
  · refine fx_li 0 6 (by decide +kernel) rfl ?_
    refine fx_go 10 (by decide +kernel) ?_
    refine fx_ret (by decide +kernel) ?_
    rw [if_pos (by omega)] at kq
    exact kq
theorem sp_mlogs_1 {p k w : Int} (hp : fR p) (hk : fR k) (hw : fR w) (h0 : 0 ≤ g 149 10) (h1 : g 149 10 ≤ 60) (kq : Q 0 0 (frow g (tNote (g 149) p k w))) : ∀ (n : Nat) (i : Int), i = 3 + n → n ≤ 236 → fx W r 1 323 5 [1186, fI p, fI k, fI w, fI i] [] (lgS g i) Q
  | n, i, hi, hn => by
    refine fx_rg (fun hg => ?_)
    have r9 := hgA hg 764 (c := 149) (j := 9) (by decide +kernel) (by decide)
    have e9 : lgS g i 149 9 = g 149 9 := if_neg (by omega)
    have e10 : lgS g i 149 10 = g 149 10 := if_neg (by omega)
    unfold fR at hp hk hw
    refine fx_li 4 7 (by decide +kernel) rfl ?_
    refine fx_ci (4) 8 (by decide +kernel) ?_
    refine fx_ilt 39 11 (by decide +kernel) (by unfold fR; omega) (by unfold fR; omega) (fun h8 => ?_) (fun h8 => ?_)
    · refine fx_la 0 40 (v := 1186) (by decide +kernel) rfl (by decide +kernel) ?_
      refine fx_gp 1186 148 1 1194 43 (by decide +kernel) ?_
      refine fx_ci (124) 45 (by decide +kernel) ?_
      refine fx_la 0 46 (v := 1186) (by decide +kernel) rfl (by decide +kernel) ?_
      refine fx_gp 1186 148 1 1194 49 (by decide +kernel) ?_
      refine fx_ci (9) 51 (by decide +kernel) ?_
      unfold fR at r9
      rw [e9] at r9
      refine fx_al 1194 149 764 52 (by decide +kernel) rfl (by omega) (by omega) rfl ?_
      try simp only [fu_app, fcy_app, Nat.reduceEqDiff, and_true, and_false, false_and, true_and, if_true, if_false, ite_true, ite_false, reduceIte, Int.reduceToNat, fx_simp0]
      rw [e9]
      refine fx_as 1194 149 764 53 (by decide +kernel) rfl (by omega) (by omega) rfl (by unfold fR; omega) ?_
      refine fx_la 0 54 (v := 1186) (by decide +kernel) rfl (by decide +kernel) ?_
      refine fx_gp 1186 148 1 1194 57 (by decide +kernel) ?_
      refine fx_ci (125) 59 (by decide +kernel) ?_
      refine fx_li 1 60 (by decide +kernel) rfl ?_
      refine fx_as 1194 149 764 61 (by decide +kernel) rfl (by omega) (by omega) rfl (by unfold fR; omega) ?_
      refine fx_la 0 62 (v := 1186) (by decide +kernel) rfl (by decide +kernel) ?_
      refine fx_gp 1186 148 1 1194 65 (by decide +kernel) ?_
      refine fx_ci (126) 67 (by decide +kernel) ?_
      refine fx_li 2 68 (by decide +kernel) rfl ?_
      refine fx_as 1194 149 764 69 (by decide +kernel) rfl (by omega) (by omega) rfl (by unfold fR; omega) ?_
      refine fx_la 0 70 (v := 1186) (by decide +kernel) rfl (by decide +kernel) ?_
      refine fx_gp 1186 148 1 1194 73 (by decide +kernel) ?_
      refine fx_ci (127) 75 (by decide +kernel) ?_
      refine fx_li 3 76 (by decide +kernel) rfl ?_
      refine fx_as 1194 149 764 77 (by decide +kernel) rfl (by omega) (by omega) rfl (by unfold fR; omega) ?_
      refine fx_la 0 78 (v := 1186) (by decide +kernel) rfl (by decide +kernel) ?_
      refine fx_gp 1186 148 1 1194 81 (by decide +kernel) ?_
      refine fx_ci (10) 83 (by decide +kernel) ?_
      refine fx_ci (60) 85 (by decide +kernel) ?_
      refine fx_la 0 86 (v := 1186) (by decide +kernel) rfl (by decide +kernel) ?_
      refine fx_gp 1186 148 1 1194 89 (by decide +kernel) ?_
      refine fx_ci (10) 91 (by decide +kernel) ?_
      refine fx_al 1194 149 764 92 (by decide +kernel) rfl (by omega) (by omega) rfl ?_
      try simp only [fu_app, fcy_app, Nat.reduceEqDiff, and_true, and_false, false_and, true_and, if_true, if_false, ite_true, ite_false, reduceIte, Int.reduceToNat, fx_simp0]
      rw [e10]
      refine fx_ci (1) 93 (by decide +kernel) ?_
      refine fx_add 94 (by decide +kernel) rfl ?_
      refine fx_c2 322 22 97 0 [] (f_q22 (by decide +kernel)) (by decide) (fI_n4 _) (fI_n4 _) rfl (by first | decide | omega) ?_
      refine sp_mlesser (by unfold fR; omega) (by unfold fR; omega) (fK1 ?_)
      refine fx_as 1194 149 764 98 (by decide +kernel) rfl (by omega) (by omega) rfl (by unfold fR; omega) ?_
      refine fx_vret (by decide +kernel) ?_
      have i3 : i = 3 := by omega
      subst i3
      have es : fu (fu (fu (fu (fu (lgS g 3) 149 124 (g 149 9)) 149 125 p) 149 126 k) 149 127 w) 149 10 (if 60 < g 149 10 + 1 then 60 else g 149 10 + 1) = frow g (tNote (g 149) p k w) := by
        funext c j
        unfold fu frow tNote lgS
        by_cases e : c = 149
        · subst e
          simp only [true_and, if_true]
          by_cases j0 : j = 10
          · rw [if_pos j0, if_pos j0]
          rw [if_neg j0, if_neg j0]
          by_cases j4 : j = 127
          · rw [if_pos j4, if_neg (by omega), if_neg (by omega), if_neg (by omega), if_pos j4]
          rw [if_neg j4]
          by_cases j3 : j = 126
          · rw [if_pos j3, if_neg (by omega), if_neg (by omega), if_pos j3]
          rw [if_neg j3]
          by_cases j2 : j = 125
          · rw [if_pos j2, if_neg (by omega), if_pos j2]
          rw [if_neg j2]
          by_cases j1 : j = 124
          · rw [if_pos j1, if_pos j1]
          rw [if_neg j1, if_neg j1, if_neg j2, if_neg j3, if_neg j4]
          by_cases jr : 128 ≤ j ∧ j < 364
          · rw [if_pos jr, if_pos (by omega)]
          · rw [if_neg jr, if_neg (by omega)]
        · rw [if_neg (fun q => e q.1), if_neg (fun q => e q.1), if_neg (fun q => e q.1), if_neg (fun q => e q.1), if_neg (fun q => e q.1), if_neg (fun q => e q.1), if_neg e]
      rw [← es] at kq
      exact kq
    · refine fx_la 0 12 (v := 1186) (by decide +kernel) rfl (by decide +kernel) ?_
      refine fx_gp 1186 148 1 1194 15 (by decide +kernel) ?_
      refine fx_ci (124) 17 (by decide +kernel) ?_
      refine fx_li 4 19 (by decide +kernel) rfl ?_
      refine fx_add 20 (by decide +kernel) rfl ?_
      refine fx_la 0 21 (v := 1186) (by decide +kernel) rfl (by decide +kernel) ?_
      refine fx_gp 1186 148 1 1194 24 (by decide +kernel) ?_
      refine fx_ci (124) 26 (by decide +kernel) ?_
      refine fx_li 4 28 (by decide +kernel) rfl ?_
      refine fx_add 29 (by decide +kernel) rfl ?_
      refine fx_ci (4) 30 (by decide +kernel) ?_
      refine fx_sub 31 (by decide +kernel) rfl ?_
      have rv := hgA hg 764 (c := 149) (j := (124 + i - 4).toNat) (by decide +kernel) (by omega)
      unfold fR at rv
      refine fx_al 1194 149 764 32 (by decide +kernel) rfl (by omega) (by omega) rfl ?_
      refine fx_as 1194 149 764 33 (by decide +kernel) rfl (by omega) (by omega) rfl (by unfold fR; omega) ?_
      refine fx_inc 4 36 (-1) (by decide +kernel) rfl (Or.inr (fI_n4 _)) rfl ?_
      dsimp only [List.set]
      refine fx_go 5 (by decide +kernel) ?_
      match n, hi, hn with
      | 0, hi, hn => exfalso; omega
      | n + 1, hi, hn =>
        have es : fu (lgS g i) 149 (124 + i).toNat (lgS g i 149 (124 + i - 4).toNat) = lgS g (i - 1) := by
          funext c j
          unfold fu lgS
          by_cases e : c = 149 ∧ j = (124 + i).toNat
          · obtain ⟨rfl, rfl⟩ := e
            rw [if_pos ⟨rfl, rfl⟩, if_neg (by omega), if_pos ⟨rfl, by omega, by omega⟩, show (124 + i - 4).toNat = (124 + i).toNat - 4 by omega]
          · rw [if_neg e]
            by_cases e2 : c = 149 ∧ 124 + i < (j : Int) ∧ j < 364
            · rw [if_pos e2, if_pos ⟨e2.1, by omega, e2.2.2⟩]
            · rw [if_neg e2, if_neg (fun q => e2 ⟨q.1, by omega, q.2.2⟩)]
        rw [es]
        exact sp_mlogs_1 (by unfold fR; omega) (by unfold fR; omega) (by unfold fR; omega) h0 h1 kq n (i - 1) (by omega) (by omega)
theorem sp_mlogs {p k w : Int} (hp : fR p) (hk : fR k) (hw : fR w) (h0 : 0 ≤ g 149 10) (h1 : g 149 10 ≤ 60) (kq : Q 0 0 (frow g (tNote (g 149) p k w))) : fx W r 1 323 0 [1186, fI p, fI k, fI w, 7] [] g Q := by
  refine fx_ci (239) 3 (by decide +kernel) ?_
  refine fx_si 4 5 (by decide +kernel) (Or.inr (fI_n4 _)) rfl ?_
  dsimp only [List.set]
  have e : lgS g 239 = g := by
    funext c j
    exact if_neg (by omega)
  have st := sp_mlogs_1 (W := W) (r := r) (Q := Q) hp hk hw h0 h1 kq 236 239 rfl (by decide)
  rw [e] at st
  exact st
end FHD
