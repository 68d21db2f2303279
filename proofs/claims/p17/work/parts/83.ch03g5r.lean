/-! fx: the class reads the law: places, words, signs, numbers -/
/-- the letters T of the tape, E of them -/
def CTL (T : Int → Int) (E : Int) (g : Nat → Nat → Int) : Prop := g 34 4 = E ∧ 0 ≤ E ∧ E ≤ 400 ∧ ∀ k, 0 ≤ k → k < 400 → g 2 k.toNat = T k ∧ 0 ≤ T k ∧ T k ≤ 255
theorem CT_eqL {T : Int → Int} {E : Int} {g g' : Nat → Nat → Int} (h : CTL T E g) (h1 : g' 34 4 = g 34 4) (h2 : ∀ j, g' 2 j = g 2 j) : CTL T E g' := by
  obtain ⟨a1, a2, a3, a4⟩ := h
  refine ⟨by rw [h1]; exact a1, a2, a3, fun k k0 k1 => ?_⟩
  rw [h2]
  exact a4 k k0 k1
theorem CT_fuL {T : Int → Int} {E : Int} {g : Nat → Nat → Int} {c j : Nat} {z : Int} (h : CTL T E g) (h1 : c ≠ 2) (h2 : ¬ (34 = c ∧ 4 = j)) : CTL T E (fu g c j z) := CT_eqL h (fu_ne h2) (fun _ => fu_nc (Ne.symm h1))
theorem CT_tL {T : Int → Int} {E : Int} {g : Nat → Nat → Int} {k : Int} (h : CTL T E g) (h0 : 0 ≤ k) (h1 : k < E) : g 2 k.toNat = T k ∧ 0 ≤ T k ∧ T k ≤ 255 := h.2.2.2 k h0 (by have := h.2.2.1; omega)
section FXRL
variable {W : ax_W} {r : Nat} {g : Nat → Nat → Int} {Q : Nat → Nat → (Nat → Nat → Int) → Prop} {T : Int → Int} {E : Int}
theorem sp_adv_AL (h : CTL T E g) (kq : ∀ i, i = pSk T E (g 34 3) → fx W r 0 74 33 [274, fI i] [] g Q) : ∀ (n : Nat) (i : Int), (E - i).toNat = n → 0 ≤ i → i ≤ E → pSk T E i = pSk T E (g 34 3) → fx W r 0 74 5 [274, fI i] [] g Q
  | n, i, hn, h0, h1, hs => by
    have a1 := h.1
    have a3 := h.2.2.1
    refine fx_rg (fun hg => ?_)
    refine fx_li 1 6 (by decide +kernel) rfl ?_
    refine fx_la 0 7 (v := 274) (by decide +kernel) rfl (by decide +kernel) ?_
    refine fx_gi 274 34 4 10 (by decide +kernel) ?_
    refine fx_ige 33 13 (by decide +kernel) (by unfold fR; omega) (by first | exact hg 34 4 (by decide) (by decide +kernel) (by decide +kernel) | (unfold fR; omega)) (fun h10 => ?_) (fun h10 => ?_)
    · exact kq i (by rw [← hs]; exact (prun_stop (by omega)).symm)
    · refine fx_la 0 14 (v := 274) (by decide +kernel) rfl (by decide +kernel) ?_
      refine fx_gp 274 34 0 10 17 (by decide +kernel) ?_
      refine fx_gp 10 1 0 18 20 (by decide +kernel) ?_
      obtain ⟨t1, t2, t3⟩ := CT_tL h h0 (by omega)
      refine fx_li 1 21 (by decide +kernel) rfl ?_
      refine fx_al 18 2 400 22 (by decide +kernel) rfl (by omega) (by omega) rfl ?_
      rw [t1]
      refine fx_ci (32) 24 (by decide +kernel) ?_
      refine fx_ine 33 27 (by decide +kernel) (by unfold fR; omega) (by unfold fR; omega) (fun h24 => ?_) (fun h24 => ?_)
      · exact kq i (by rw [← hs]; exact (prun_no (by unfold isSp; exact decide_eq_false h24)).symm)
      · refine fx_inc 1 30 (1) (by decide +kernel) rfl (Or.inr (f_n4p (v := 274) rfl (by decide))) rfl ?_
        dsimp only [List.set]
        refine fx_go 5 (by decide +kernel) ?_
        match n, hn with
        | 0, hn => exfalso; omega
        | n + 1, hn =>
          refine sp_adv_AL h kq n (i + 1) (by omega) (by omega) (by omega) ?_
          rw [← hs]
          exact (prun_step (by omega) (by unfold isSp; exact decide_eq_true h24)).symm
theorem sp_adv_BL {f : Int} (h : CTL T E g) (kq : fx W r 0 74 80 [274, fI (pWe T E f)] [] g Q) : ∀ (n : Nat) (i : Int), (E - i).toNat = n → 0 ≤ i → i ≤ E → pWe T E i = pWe T E f → fx W r 0 74 38 [274, fI i] [] g Q
  | n, i, hn, h0, h1, hs => by
    have a1 := h.1
    have a3 := h.2.2.1
    refine fx_rg (fun hg => ?_)
    have kx : pWe T E i = i → fx W r 0 74 80 [274, fI i] [] g Q := fun t => by rw [← hs, t] at kq; exact kq
    refine fx_li 1 39 (by decide +kernel) rfl ?_
    refine fx_la 0 40 (v := 274) (by decide +kernel) rfl (by decide +kernel) ?_
    refine fx_gi 274 34 4 43 (by decide +kernel) ?_
    refine fx_ige 80 46 (by decide +kernel) (by unfold fR; omega) (by first | exact hg 34 4 (by decide) (by decide +kernel) (by decide +kernel) | (unfold fR; omega)) (fun h43 => ?_) (fun h43 => ?_)
    · exact kx (prun_stop (by omega))
    · obtain ⟨t1, t2, t3⟩ := CT_tL h h0 (by omega)
      refine fx_la 0 47 (v := 274) (by decide +kernel) rfl (by decide +kernel) ?_
      refine fx_gp 274 34 0 10 50 (by decide +kernel) ?_
      refine fx_gp 10 1 0 18 53 (by decide +kernel) ?_
      refine fx_li 1 54 (by decide +kernel) rfl ?_
      refine fx_al 18 2 400 55 (by decide +kernel) rfl (by omega) (by omega) rfl ?_
      rw [t1]
      refine fx_ci (97) 57 (by decide +kernel) ?_
      refine fx_ilt 80 60 (by decide +kernel) (by unfold fR; omega) (by unfold fR; omega) (fun h57 => ?_) (fun h57 => ?_)
      · exact kx (prun_no (isLe_f (by omega)))
      · refine fx_la 0 61 (v := 274) (by decide +kernel) rfl (by decide +kernel) ?_
        refine fx_gp 274 34 0 10 64 (by decide +kernel) ?_
        refine fx_gp 10 1 0 18 67 (by decide +kernel) ?_
        refine fx_li 1 68 (by decide +kernel) rfl ?_
        refine fx_al 18 2 400 69 (by decide +kernel) rfl (by omega) (by omega) rfl ?_
        rw [t1]
        refine fx_ci (122) 71 (by decide +kernel) ?_
        refine fx_igt 80 74 (by decide +kernel) (by unfold fR; omega) (by unfold fR; omega) (fun h71 => ?_) (fun h71 => ?_)
        · exact kx (prun_no (isLe_f (by omega)))
        · refine fx_inc 1 77 (1) (by decide +kernel) rfl (Or.inr (f_n4p (v := 274) rfl (by decide))) rfl ?_
          dsimp only [List.set]
          refine fx_go 38 (by decide +kernel) ?_
          match n, hn with
          | 0, hn => exfalso; omega
          | n + 1, hn =>
            refine sp_adv_BL h kq n (i + 1) (by omega) (by omega) (by omega) ?_
            rw [← hs]
            exact (prun_step (by omega) (isLe_t (by omega))).symm
theorem sp_adv_CL {f : Int} (h : CTL T E g) (kq : fx W r 0 74 130 [274, fI (pDg T E f)] [] g Q) : ∀ (n : Nat) (i : Int), (E - i).toNat = n → 0 ≤ i → i ≤ E → pDg T E i = pDg T E f → fx W r 0 74 88 [274, fI i] [] g Q
  | n, i, hn, h0, h1, hs => by
    have a1 := h.1
    have a3 := h.2.2.1
    refine fx_rg (fun hg => ?_)
    have kx : pDg T E i = i → fx W r 0 74 130 [274, fI i] [] g Q := fun t => by rw [← hs, t] at kq; exact kq
    refine fx_li 1 89 (by decide +kernel) rfl ?_
    refine fx_la 0 90 (v := 274) (by decide +kernel) rfl (by decide +kernel) ?_
    refine fx_gi 274 34 4 93 (by decide +kernel) ?_
    refine fx_ige 130 96 (by decide +kernel) (by unfold fR; omega) (by first | exact hg 34 4 (by decide) (by decide +kernel) (by decide +kernel) | (unfold fR; omega)) (fun h93 => ?_) (fun h93 => ?_)
    · exact kx (prun_stop (by omega))
    · obtain ⟨t1, t2, t3⟩ := CT_tL h h0 (by omega)
      refine fx_la 0 97 (v := 274) (by decide +kernel) rfl (by decide +kernel) ?_
      refine fx_gp 274 34 0 10 100 (by decide +kernel) ?_
      refine fx_gp 10 1 0 18 103 (by decide +kernel) ?_
      refine fx_li 1 104 (by decide +kernel) rfl ?_
      refine fx_al 18 2 400 105 (by decide +kernel) rfl (by omega) (by omega) rfl ?_
      rw [t1]
      refine fx_ci (48) 107 (by decide +kernel) ?_
      refine fx_ilt 130 110 (by decide +kernel) (by unfold fR; omega) (by unfold fR; omega) (fun h107 => ?_) (fun h107 => ?_)
      · exact kx (prun_no (isDi_f (by omega)))
      · refine fx_la 0 111 (v := 274) (by decide +kernel) rfl (by decide +kernel) ?_
        refine fx_gp 274 34 0 10 114 (by decide +kernel) ?_
        refine fx_gp 10 1 0 18 117 (by decide +kernel) ?_
        refine fx_li 1 118 (by decide +kernel) rfl ?_
        refine fx_al 18 2 400 119 (by decide +kernel) rfl (by omega) (by omega) rfl ?_
        rw [t1]
        refine fx_ci (57) 121 (by decide +kernel) ?_
        refine fx_igt 130 124 (by decide +kernel) (by unfold fR; omega) (by unfold fR; omega) (fun h121 => ?_) (fun h121 => ?_)
        · exact kx (prun_no (isDi_f (by omega)))
        · refine fx_inc 1 127 (1) (by decide +kernel) rfl (Or.inr (f_n4p (v := 274) rfl (by decide))) rfl ?_
          dsimp only [List.set]
          refine fx_go 88 (by decide +kernel) ?_
          match n, hn with
          | 0, hn => exfalso; omega
          | n + 1, hn =>
            refine sp_adv_CL h kq n (i + 1) (by omega) (by omega) (by omega) ?_
            rw [← hs]
            exact (prun_step (by omega) (isDi_t (by omega))).symm
/-- the class stands at f -/
def cAtL (T : Int → Int) (E : Int) (g : Nat → Nat → Int) (f : Int) : Nat → Nat → Int := fu (fu g 34 2 f) 34 3 (pBh T E f)
theorem sp_advanceL (h : CTL T E g) (h0 : 0 ≤ g 34 3) (h1 : g 34 3 ≤ E) (kq : Q 0 0 (cAtL T E g (pSk T E (g 34 3)))) : fx W r 0 74 0 [274, 7] [] g Q := by
  have a1 := h.1
  have a3 := h.2.2.1
  refine fx_rg (fun hg => ?_)
  refine fx_la 0 1 (v := 274) (by decide +kernel) rfl (by decide +kernel) ?_
  refine fx_gi 274 34 3 4 (by decide +kernel) ?_
  refine fx_si 1 5 (by decide +kernel) (Or.inr (f_n4p (v := 274) rfl (by decide))) rfl ?_
  dsimp only [List.set]
  refine sp_adv_AL h (fun i hi => ?_) _ _ rfl h0 h1 rfl
  rw [← hi] at kq
  have i0 : 0 ≤ i := by have := pSk_ge T E (g 34 3); omega
  have i1 : i ≤ E := by have := pSk_le (T := T) h1; omega
  have w0 := pWe_ge T E i
  have w1 := pWe_le (T := T) i1
  have d0 := pDg_ge T E i
  have d1 := pDg_le (T := T) i1
  have h' : CTL T E (fu g 34 2 i) := CT_fuL h (by decide) (by decide)
  refine fx_la 0 34 (v := 274) (by decide +kernel) rfl (by decide +kernel) ?_
  refine fx_li 1 35 (by decide +kernel) rfl ?_
  refine fx_pi 274 34 2 38 (by decide +kernel) (by unfold fR; omega) ?_
  refine sp_adv_BL (f := i) h' ?_ _ _ rfl i0 i1 rfl
  have tail : ∀ e, (if e = i ∧ e < E then e + 1 else e) = pBh T E i → i ≤ e → e ≤ E → fx W r 0 74 130 [274, fI e] [] (fu g 34 2 i) Q := by
    intro e he e0 e1
    refine fx_la 0 131 (v := 274) (by decide +kernel) rfl (by decide +kernel) ?_
    refine fx_li 1 132 (by decide +kernel) rfl ?_
    refine fx_la 0 133 (v := 274) (by decide +kernel) rfl (by decide +kernel) ?_
    refine fx_gi 274 34 2 136 (by decide +kernel) ?_
    try simp only [fu_app, fcy_app, Nat.reduceEqDiff, and_true, and_false, false_and, true_and, if_true, if_false, ite_true, ite_false, reduceIte, Int.reduceToNat, fx_simp0]
    refine fx_ine 153 139 (by decide +kernel) (by unfold fR; omega) (by unfold fR; omega) (fun h136 => ?_) (fun h136 => ?_)
    · refine fx_li 1 154 (by decide +kernel) rfl ?_
      refine fx_pi 274 34 3 157 (by decide +kernel) (by unfold fR; omega) ?_
      refine fx_vret (by decide +kernel) ?_
      unfold cAtL at kq
      first
        | (rw [if_neg (by omega)] at he; rw [he]; exact kq)
        | (rw [if_pos (by omega)] at he; rw [he]; exact kq)
    · refine fx_li 1 140 (by decide +kernel) rfl ?_
      refine fx_la 0 141 (v := 274) (by decide +kernel) rfl (by decide +kernel) ?_
      refine fx_gi 274 34 4 144 (by decide +kernel) ?_
      try simp only [fu_app, fcy_app, Nat.reduceEqDiff, and_true, and_false, false_and, true_and, if_true, if_false, ite_true, ite_false, reduceIte, Int.reduceToNat, fx_simp0]
      refine fx_ige 153 147 (by decide +kernel) (by unfold fR; omega) (by unfold fR; omega) (fun h144 => ?_) (fun h144 => ?_)
      · refine fx_li 1 154 (by decide +kernel) rfl ?_
        refine fx_pi 274 34 3 157 (by decide +kernel) (by unfold fR; omega) ?_
        refine fx_vret (by decide +kernel) ?_
        unfold cAtL at kq
        first
          | (rw [if_neg (by omega)] at he; rw [he]; exact kq)
          | (rw [if_pos (by omega)] at he; rw [he]; exact kq)
      · refine fx_li 1 148 (by decide +kernel) rfl ?_
        refine fx_ci (1) 149 (by decide +kernel) ?_
        refine fx_add 150 (by decide +kernel) rfl ?_
        refine fx_go 154 (by decide +kernel) ?_
        refine fx_pi 274 34 3 157 (by decide +kernel) (by unfold fR; omega) ?_
        refine fx_vret (by decide +kernel) ?_
        unfold cAtL at kq
        first
          | (rw [if_neg (by omega)] at he; rw [he]; exact kq)
          | (rw [if_pos (by omega)] at he; rw [he]; exact kq)
  refine fx_li 1 81 (by decide +kernel) rfl ?_
  refine fx_la 0 82 (v := 274) (by decide +kernel) rfl (by decide +kernel) ?_
  refine fx_gi 274 34 2 85 (by decide +kernel) ?_
  try simp only [fu_app, fcy_app, Nat.reduceEqDiff, and_true, and_false, false_and, true_and, if_true, if_false, ite_true, ite_false, reduceIte, Int.reduceToNat, fx_simp0]
  refine fx_ine 130 88 (by decide +kernel) (by unfold fR; omega) (by unfold fR; omega) (fun h85 => ?_) (fun h85 => ?_)
  · exact tail _ (by unfold pBh; rw [if_neg (by omega), if_neg (by omega)]) w0 w1
  · rw [h85]
    refine sp_adv_CL (f := i) h' (tail _ ?_ d0 d1) _ _ rfl i0 i1 rfl
    unfold pBh
    rw [if_pos h85]
    by_cases c : pDg T E i = i ∧ i < E
    · rw [if_pos c, if_pos (by omega)]; omega
    · rw [if_neg c, if_neg (by omega)]
end FXRL
