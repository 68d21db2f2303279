/-! fx: the class reads: places, words, signs, numbers -/
/-- where the thing that begins at f ends -/
def pBh (T : Int → Int) (E f : Int) : Int := if pWe T E f = f then (if pDg T E f = f ∧ f < E then f + 1 else pDg T E f) else pWe T E f
theorem pBh_b {T : Int → Int} {E f : Int} (h : f ≤ E) : f ≤ pBh T E f ∧ pBh T E f ≤ E := by
  have a1 := pWe_ge T E f
  have a2 := pWe_le (T := T) h
  have a3 := pDg_ge T E f
  have a4 := pDg_le (T := T) h
  unfold pBh
  split
  · split <;> omega
  · omega
theorem pBh_we {T : Int → Int} {E f : Int} (h : pWe T E f ≠ f) : pBh T E f = pWe T E f := by unfold pBh; rw [if_neg h]
theorem isLe_t {T : Int → Int} {f : Int} (h : 97 ≤ T f ∧ T f ≤ 122) : isLe T f = true := decide_eq_true h
theorem isLe_f {T : Int → Int} {f : Int} (h : ¬ (97 ≤ T f ∧ T f ≤ 122)) : isLe T f = false := decide_eq_false h
theorem isDi_t {T : Int → Int} {f : Int} (h : 48 ≤ T f ∧ T f ≤ 57) : isDi T f = true := decide_eq_true h
theorem isDi_f {T : Int → Int} {f : Int} (h : ¬ (48 ≤ T f ∧ T f ≤ 57)) : isDi T f = false := decide_eq_false h
theorem pWe_gt {T : Int → Int} {E f : Int} (h : f < E) (hl : 97 ≤ T f ∧ T f ≤ 122) : f < pWe T E f := by
  have := pWe_ge T E (f + 1)
  show f < prun _ _ _
  rw [prun_step h (isLe_t hl)]
  exact Int.lt_of_lt_of_le (by omega) this
theorem pDg_gt {T : Int → Int} {E f : Int} (h : f < E) (hl : 48 ≤ T f ∧ T f ≤ 57) : f < pDg T E f := by
  have := pDg_ge T E (f + 1)
  show f < prun _ _ _
  rw [prun_step h (isDi_t hl)]
  exact Int.lt_of_lt_of_le (by omega) this
theorem pBh_dg {T : Int → Int} {E f : Int} (h : f < E) (hd : 48 ≤ T f ∧ T f ≤ 57) : pBh T E f = pDg T E f := by
  have e : pWe T E f = f := prun_no (isLe_f (by omega))
  have := pDg_gt h hd
  unfold pBh
  rw [if_pos e, if_neg (by omega)]
theorem pBh_sg {T : Int → Int} {E f : Int} (h : f < E) (h1 : ¬ (97 ≤ T f ∧ T f ≤ 122)) (h2 : ¬ (48 ≤ T f ∧ T f ≤ 57)) : pBh T E f = f + 1 := by
  have e : pWe T E f = f := prun_no (isLe_f h1)
  have e2 : pDg T E f = f := prun_no (isDi_f h2)
  unfold pBh
  rw [if_pos e, if_pos ⟨e2, h⟩]
/-- the word as the class takes it -/
theorem pWd_iff {T : Int → Int} {E f : Int} {ws : List Nat} (hf : f ≤ E) (hn : ws ≠ []) (hl : ∀ b ∈ ws, 97 ≤ b ∧ b ≤ 122) : (pBh T E f - f = ws.length ∧ ∀ k : Nat, k < ws.length → T (f + k) = (ws.getD k 0 : Nat)) ↔ pWd T E ws f := by
  have hpos : 0 < ws.length := List.length_pos_iff.mpr hn
  have hb : ws.getD 0 0 ∈ ws := by
    rw [List.getD_eq_getElem?_getD, List.getElem?_eq_getElem hpos]
    exact List.getElem_mem hpos
  have hb := hl _ hb
  constructor
  · rintro ⟨h1, h2⟩
    have t0 := h2 0 hpos
    rw [show f + ((0 : Nat) : Int) = f by omega] at t0
    have hE : f < E := by have := pBh_b (T := T) hf; omega
    have hw := pWe_gt hE (T := T) (by omega)
    rw [pBh_we (by omega)] at h1
    exact ⟨h1, h2⟩
  · rintro ⟨h1, h2⟩
    rw [pBh_we (by omega)]
    exact ⟨h1, h2⟩
/-- the letters T of the tape, E of them -/
def CT (T : Int → Int) (E : Int) (g : Nat → Nat → Int) : Prop := g 28 4 = E ∧ 0 ≤ E ∧ E ≤ 400 ∧ ∀ k, 0 ≤ k → k < 400 → g 2 k.toNat = T k ∧ 0 ≤ T k ∧ T k ≤ 255
theorem CT_eq {T : Int → Int} {E : Int} {g g' : Nat → Nat → Int} (h : CT T E g) (h1 : g' 28 4 = g 28 4) (h2 : ∀ j, g' 2 j = g 2 j) : CT T E g' := by
  obtain ⟨a1, a2, a3, a4⟩ := h
  refine ⟨by rw [h1]; exact a1, a2, a3, fun k k0 k1 => ?_⟩
  rw [h2]
  exact a4 k k0 k1
theorem CT_fu {T : Int → Int} {E : Int} {g : Nat → Nat → Int} {c j : Nat} {z : Int} (h : CT T E g) (h1 : c ≠ 2) (h2 : ¬ (28 = c ∧ 4 = j)) : CT T E (fu g c j z) := CT_eq h (fu_ne h2) (fun _ => fu_nc (Ne.symm h1))
theorem CT_t {T : Int → Int} {E : Int} {g : Nat → Nat → Int} {k : Int} (h : CT T E g) (h0 : 0 ≤ k) (h1 : k < E) : g 2 k.toNat = T k ∧ 0 ≤ T k ∧ T k ≤ 255 := h.2.2.2 k h0 (by have := h.2.2.1; omega)
section FXR
variable {W : ax_W} {r : Nat} {g : Nat → Nat → Int} {Q : Nat → Nat → (Nat → Nat → Int) → Prop} {T : Int → Int} {E : Int}
theorem sp_adv_A (h : CT T E g) (kq : ∀ i, i = pSk T E (g 28 3) → fx W r 0 74 33 [226, fI i] [] g Q) : ∀ (n : Nat) (i : Int), (E - i).toNat = n → 0 ≤ i → i ≤ E → pSk T E i = pSk T E (g 28 3) → fx W r 0 74 5 [226, fI i] [] g Q
  | n, i, hn, h0, h1, hs => by
    have a1 := h.1
    have a3 := h.2.2.1
    refine fx_rg (fun hg => ?_)
    refine fx_li 1 6 (by decide +kernel) rfl ?_
    refine fx_la 0 7 (v := 226) (by decide +kernel) rfl (by decide +kernel) ?_
    refine fx_gi 226 28 4 10 (by decide +kernel) ?_
    refine fx_ige 33 13 (by decide +kernel) (by unfold fR; omega) (by first | exact hg 28 4 (by decide) (by decide +kernel) (by decide +kernel) | (unfold fR; omega)) (fun h10 => ?_) (fun h10 => ?_)
    · exact kq i (by rw [← hs]; exact (prun_stop (by omega)).symm)
    · refine fx_la 0 14 (v := 226) (by decide +kernel) rfl (by decide +kernel) ?_
      refine fx_gp 226 28 0 10 17 (by decide +kernel) ?_
      refine fx_gp 10 1 0 18 20 (by decide +kernel) ?_
      obtain ⟨t1, t2, t3⟩ := CT_t h h0 (by omega)
      refine fx_li 1 21 (by decide +kernel) rfl ?_
      refine fx_al 18 2 400 22 (by decide +kernel) rfl (by omega) (by omega) rfl ?_
      rw [t1]
      refine fx_ci (32) 24 (by decide +kernel) ?_
      refine fx_ine 33 27 (by decide +kernel) (by unfold fR; omega) (by unfold fR; omega) (fun h24 => ?_) (fun h24 => ?_)
      · exact kq i (by rw [← hs]; exact (prun_no (by unfold isSp; exact decide_eq_false h24)).symm)
      · refine fx_inc 1 30 (1) (by decide +kernel) rfl (Or.inr (f_n4p (v := 226) rfl (by decide))) rfl ?_
        dsimp only [List.set]
        refine fx_go 5 (by decide +kernel) ?_
        match n, hn with
        | 0, hn => exfalso; omega
        | n + 1, hn =>
          refine sp_adv_A h kq n (i + 1) (by omega) (by omega) (by omega) ?_
          rw [← hs]
          exact (prun_step (by omega) (by unfold isSp; exact decide_eq_true h24)).symm
theorem sp_adv_B {f : Int} (h : CT T E g) (kq : fx W r 0 74 80 [226, fI (pWe T E f)] [] g Q) : ∀ (n : Nat) (i : Int), (E - i).toNat = n → 0 ≤ i → i ≤ E → pWe T E i = pWe T E f → fx W r 0 74 38 [226, fI i] [] g Q
  | n, i, hn, h0, h1, hs => by
    have a1 := h.1
    have a3 := h.2.2.1
    refine fx_rg (fun hg => ?_)
    have kx : pWe T E i = i → fx W r 0 74 80 [226, fI i] [] g Q := fun t => by rw [← hs, t] at kq; exact kq
    refine fx_li 1 39 (by decide +kernel) rfl ?_
    refine fx_la 0 40 (v := 226) (by decide +kernel) rfl (by decide +kernel) ?_
    refine fx_gi 226 28 4 43 (by decide +kernel) ?_
    refine fx_ige 80 46 (by decide +kernel) (by unfold fR; omega) (by first | exact hg 28 4 (by decide) (by decide +kernel) (by decide +kernel) | (unfold fR; omega)) (fun h43 => ?_) (fun h43 => ?_)
    · exact kx (prun_stop (by omega))
    · obtain ⟨t1, t2, t3⟩ := CT_t h h0 (by omega)
      refine fx_la 0 47 (v := 226) (by decide +kernel) rfl (by decide +kernel) ?_
      refine fx_gp 226 28 0 10 50 (by decide +kernel) ?_
      refine fx_gp 10 1 0 18 53 (by decide +kernel) ?_
      refine fx_li 1 54 (by decide +kernel) rfl ?_
      refine fx_al 18 2 400 55 (by decide +kernel) rfl (by omega) (by omega) rfl ?_
      rw [t1]
      refine fx_ci (97) 57 (by decide +kernel) ?_
      refine fx_ilt 80 60 (by decide +kernel) (by unfold fR; omega) (by unfold fR; omega) (fun h57 => ?_) (fun h57 => ?_)
      · exact kx (prun_no (isLe_f (by omega)))
      · refine fx_la 0 61 (v := 226) (by decide +kernel) rfl (by decide +kernel) ?_
        refine fx_gp 226 28 0 10 64 (by decide +kernel) ?_
        refine fx_gp 10 1 0 18 67 (by decide +kernel) ?_
        refine fx_li 1 68 (by decide +kernel) rfl ?_
        refine fx_al 18 2 400 69 (by decide +kernel) rfl (by omega) (by omega) rfl ?_
        rw [t1]
        refine fx_ci (122) 71 (by decide +kernel) ?_
        refine fx_igt 80 74 (by decide +kernel) (by unfold fR; omega) (by unfold fR; omega) (fun h71 => ?_) (fun h71 => ?_)
        · exact kx (prun_no (isLe_f (by omega)))
        · refine fx_inc 1 77 (1) (by decide +kernel) rfl (Or.inr (f_n4p (v := 226) rfl (by decide))) rfl ?_
          dsimp only [List.set]
          refine fx_go 38 (by decide +kernel) ?_
          match n, hn with
          | 0, hn => exfalso; omega
          | n + 1, hn =>
            refine sp_adv_B h kq n (i + 1) (by omega) (by omega) (by omega) ?_
            rw [← hs]
            exact (prun_step (by omega) (isLe_t (by omega))).symm
theorem sp_adv_C {f : Int} (h : CT T E g) (kq : fx W r 0 74 130 [226, fI (pDg T E f)] [] g Q) : ∀ (n : Nat) (i : Int), (E - i).toNat = n → 0 ≤ i → i ≤ E → pDg T E i = pDg T E f → fx W r 0 74 88 [226, fI i] [] g Q
  | n, i, hn, h0, h1, hs => by
    have a1 := h.1
    have a3 := h.2.2.1
    refine fx_rg (fun hg => ?_)
    have kx : pDg T E i = i → fx W r 0 74 130 [226, fI i] [] g Q := fun t => by rw [← hs, t] at kq; exact kq
    refine fx_li 1 89 (by decide +kernel) rfl ?_
    refine fx_la 0 90 (v := 226) (by decide +kernel) rfl (by decide +kernel) ?_
    refine fx_gi 226 28 4 93 (by decide +kernel) ?_
    refine fx_ige 130 96 (by decide +kernel) (by unfold fR; omega) (by first | exact hg 28 4 (by decide) (by decide +kernel) (by decide +kernel) | (unfold fR; omega)) (fun h93 => ?_) (fun h93 => ?_)
    · exact kx (prun_stop (by omega))
    · obtain ⟨t1, t2, t3⟩ := CT_t h h0 (by omega)
      refine fx_la 0 97 (v := 226) (by decide +kernel) rfl (by decide +kernel) ?_
      refine fx_gp 226 28 0 10 100 (by decide +kernel) ?_
      refine fx_gp 10 1 0 18 103 (by decide +kernel) ?_
      refine fx_li 1 104 (by decide +kernel) rfl ?_
      refine fx_al 18 2 400 105 (by decide +kernel) rfl (by omega) (by omega) rfl ?_
      rw [t1]
      refine fx_ci (48) 107 (by decide +kernel) ?_
      refine fx_ilt 130 110 (by decide +kernel) (by unfold fR; omega) (by unfold fR; omega) (fun h107 => ?_) (fun h107 => ?_)
      · exact kx (prun_no (isDi_f (by omega)))
      · refine fx_la 0 111 (v := 226) (by decide +kernel) rfl (by decide +kernel) ?_
        refine fx_gp 226 28 0 10 114 (by decide +kernel) ?_
        refine fx_gp 10 1 0 18 117 (by decide +kernel) ?_
        refine fx_li 1 118 (by decide +kernel) rfl ?_
        refine fx_al 18 2 400 119 (by decide +kernel) rfl (by omega) (by omega) rfl ?_
        rw [t1]
        refine fx_ci (57) 121 (by decide +kernel) ?_
        refine fx_igt 130 124 (by decide +kernel) (by unfold fR; omega) (by unfold fR; omega) (fun h121 => ?_) (fun h121 => ?_)
        · exact kx (prun_no (isDi_f (by omega)))
        · refine fx_inc 1 127 (1) (by decide +kernel) rfl (Or.inr (f_n4p (v := 226) rfl (by decide))) rfl ?_
          dsimp only [List.set]
          refine fx_go 88 (by decide +kernel) ?_
          match n, hn with
          | 0, hn => exfalso; omega
          | n + 1, hn =>
            refine sp_adv_C h kq n (i + 1) (by omega) (by omega) (by omega) ?_
            rw [← hs]
            exact (prun_step (by omega) (isDi_t (by omega))).symm
/-- the class stands at f -/
def cAt (T : Int → Int) (E : Int) (g : Nat → Nat → Int) (f : Int) : Nat → Nat → Int := fu (fu g 28 2 f) 28 3 (pBh T E f)
theorem sp_advance (h : CT T E g) (h0 : 0 ≤ g 28 3) (h1 : g 28 3 ≤ E) (kq : Q 0 0 (cAt T E g (pSk T E (g 28 3)))) : fx W r 0 74 0 [226, 7] [] g Q := by
  have a1 := h.1
  have a3 := h.2.2.1
  refine fx_rg (fun hg => ?_)
  refine fx_la 0 1 (v := 226) (by decide +kernel) rfl (by decide +kernel) ?_
  refine fx_gi 226 28 3 4 (by decide +kernel) ?_
  refine fx_si 1 5 (by decide +kernel) (Or.inr (f_n4p (v := 226) rfl (by decide))) rfl ?_
  dsimp only [List.set]
  refine sp_adv_A h (fun i hi => ?_) _ _ rfl h0 h1 rfl
  rw [← hi] at kq
  have i0 : 0 ≤ i := by have := pSk_ge T E (g 28 3); omega
  have i1 : i ≤ E := by have := pSk_le (T := T) h1; omega
  have w0 := pWe_ge T E i
  have w1 := pWe_le (T := T) i1
  have d0 := pDg_ge T E i
  have d1 := pDg_le (T := T) i1
  have h' : CT T E (fu g 28 2 i) := CT_fu h (by decide) (by decide)
  refine fx_la 0 34 (v := 226) (by decide +kernel) rfl (by decide +kernel) ?_
  refine fx_li 1 35 (by decide +kernel) rfl ?_
  refine fx_pi 226 28 2 38 (by decide +kernel) (by unfold fR; omega) ?_
  refine sp_adv_B (f := i) h' ?_ _ _ rfl i0 i1 rfl
  have tail : ∀ e, (if e = i ∧ e < E then e + 1 else e) = pBh T E i → i ≤ e → e ≤ E → fx W r 0 74 130 [226, fI e] [] (fu g 28 2 i) Q := by
    intro e he e0 e1
    refine fx_la 0 131 (v := 226) (by decide +kernel) rfl (by decide +kernel) ?_
    refine fx_li 1 132 (by decide +kernel) rfl ?_
    refine fx_la 0 133 (v := 226) (by decide +kernel) rfl (by decide +kernel) ?_
    refine fx_gi 226 28 2 136 (by decide +kernel) ?_
    try simp only [fu_app, fcy_app, Nat.reduceEqDiff, and_true, and_false, false_and, true_and, if_true, if_false, ite_true, ite_false, reduceIte, Int.reduceToNat, fx_simp0]
    refine fx_ine 153 139 (by decide +kernel) (by unfold fR; omega) (by unfold fR; omega) (fun h136 => ?_) (fun h136 => ?_)
    · refine fx_li 1 154 (by decide +kernel) rfl ?_
      refine fx_pi 226 28 3 157 (by decide +kernel) (by unfold fR; omega) ?_
      refine fx_vret (by decide +kernel) ?_
      unfold cAt at kq
      first
        | (rw [if_neg (by omega)] at he; rw [he]; exact kq)
        | (rw [if_pos (by omega)] at he; rw [he]; exact kq)
    · refine fx_li 1 140 (by decide +kernel) rfl ?_
      refine fx_la 0 141 (v := 226) (by decide +kernel) rfl (by decide +kernel) ?_
      refine fx_gi 226 28 4 144 (by decide +kernel) ?_
      try simp only [fu_app, fcy_app, Nat.reduceEqDiff, and_true, and_false, false_and, true_and, if_true, if_false, ite_true, ite_false, reduceIte, Int.reduceToNat, fx_simp0]
      refine fx_ige 153 147 (by decide +kernel) (by unfold fR; omega) (by unfold fR; omega) (fun h144 => ?_) (fun h144 => ?_)
      · refine fx_li 1 154 (by decide +kernel) rfl ?_
        refine fx_pi 226 28 3 157 (by decide +kernel) (by unfold fR; omega) ?_
        refine fx_vret (by decide +kernel) ?_
        unfold cAt at kq
        first
          | (rw [if_neg (by omega)] at he; rw [he]; exact kq)
          | (rw [if_pos (by omega)] at he; rw [he]; exact kq)
      · refine fx_li 1 148 (by decide +kernel) rfl ?_
        refine fx_ci (1) 149 (by decide +kernel) ?_
        refine fx_add 150 (by decide +kernel) rfl ?_
        refine fx_go 154 (by decide +kernel) ?_
        refine fx_pi 226 28 3 157 (by decide +kernel) (by unfold fR; omega) ?_
        refine fx_vret (by decide +kernel) ?_
        unfold cAt at kq
        first
          | (rw [if_neg (by omega)] at he; rw [he]; exact kq)
          | (rw [if_pos (by omega)] at he; rw [he]; exact kq)
  refine fx_li 1 81 (by decide +kernel) rfl ?_
  refine fx_la 0 82 (v := 226) (by decide +kernel) rfl (by decide +kernel) ?_
  refine fx_gi 226 28 2 85 (by decide +kernel) ?_
  try simp only [fu_app, fcy_app, Nat.reduceEqDiff, and_true, and_false, false_and, true_and, if_true, if_false, ite_true, ite_false, reduceIte, Int.reduceToNat, fx_simp0]
  refine fx_ine 130 88 (by decide +kernel) (by unfold fR; omega) (by unfold fR; omega) (fun h85 => ?_) (fun h85 => ?_)
  · exact tail _ (by unfold pBh; rw [if_neg (by omega), if_neg (by omega)]) w0 w1
  · rw [h85]
    refine sp_adv_C (f := i) h' (tail _ ?_ d0 d1) _ _ rfl i0 i1 rfl
    unfold pBh
    rw [if_pos h85]
    by_cases c : pDg T E i = i ∧ i < E
    · rw [if_pos c, if_pos (by omega)]; omega
    · rw [if_neg c, if_neg (by omega)]
end FXR
