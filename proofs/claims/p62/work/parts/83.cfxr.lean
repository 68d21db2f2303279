/-! joined: 83.cfxr 83.cfxs 83.cfxt 83.cfxu 83.cfxv 83.cfxw 83.cfxx 83.cfxy 83.cfxz -/
section
/-! fx: the class reads: places, words, signs, numbers -/
/-- where the thing that begins at f ends -/
def pBh (T : Int → Int) (E f : Int) : Int := if pWe T E f = f then (if pDg T E f = f ∧ f < E then f + 1 else pDg T E f) else pWe T E f
theorem pBh_b {T : Int → Int} {E f : Int} (h : f ≤ E) : f ≤ pBh T E f ∧ pBh T E f ≤ E := by
  have a1 := pWe_ge T E f
  have a2 := pWe_le (T := T) h
  have a3 := pDg_ge T E f
  have a4 := pDg_le (T := T) h
  unfold pBh
  split
  · split <;> omega
  · omega
theorem pBh_we {T : Int → Int} {E f : Int} (h : pWe T E f ≠ f) : pBh T E f = pWe T E f := by unfold pBh; rw [if_neg h]
theorem isLe_t {T : Int → Int} {f : Int} (h : 97 ≤ T f ∧ T f ≤ 122) : isLe T f = true := decide_eq_true h
theorem isLe_f {T : Int → Int} {f : Int} (h : ¬ (97 ≤ T f ∧ T f ≤ 122)) : isLe T f = false := decide_eq_false h
theorem isDi_t {T : Int → Int} {f : Int} (h : 48 ≤ T f ∧ T f ≤ 57) : isDi T f = true := decide_eq_true h
theorem isDi_f {T : Int → Int} {f : Int} (h : ¬ (48 ≤ T f ∧ T f ≤ 57)) : isDi T f = false := decide_eq_false h
theorem pWe_gt {T : Int → Int} {E f : Int} (h : f < E) (hl : 97 ≤ T f ∧ T f ≤ 122) : f < pWe T E f := by
  have := pWe_ge T E (f + 1)
  show f < prun _ _ _
  rw [prun_step h (isLe_t hl)]
  exact Int.lt_of_lt_of_le (by omega) this
theorem pDg_gt {T : Int → Int} {E f : Int} (h : f < E) (hl : 48 ≤ T f ∧ T f ≤ 57) : f < pDg T E f := by
  have := pDg_ge T E (f + 1)
  show f < prun _ _ _
  rw [prun_step h (isDi_t hl)]
  exact Int.lt_of_lt_of_le (by omega) this
theorem pBh_dg {T : Int → Int} {E f : Int} (h : f < E) (hd : 48 ≤ T f ∧ T f ≤ 57) : pBh T E f = pDg T E f := by
  have e : pWe T E f = f := prun_no (isLe_f (by omega))
  have := pDg_gt h hd
  unfold pBh
  rw [if_pos e, if_neg (by omega)]
theorem pBh_sg {T : Int → Int} {E f : Int} (h : f < E) (h1 : ¬ (97 ≤ T f ∧ T f ≤ 122)) (h2 : ¬ (48 ≤ T f ∧ T f ≤ 57)) : pBh T E f = f + 1 := by
  have e : pWe T E f = f := prun_no (isLe_f h1)
  have e2 : pDg T E f = f := prun_no (isDi_f h2)
  unfold pBh
  rw [if_pos e, if_pos ⟨e2, h⟩]
/-- the word as the class takes it -/
theorem pWd_iff {T : Int → Int} {E f : Int} {ws : List Nat} (hf : f ≤ E) (hn : ws ≠ []) (hl : ∀ b ∈ ws, 97 ≤ b ∧ b ≤ 122) : (pBh T E f - f = ws.length ∧ ∀ k : Nat, k < ws.length → T (f + k) = (ws.getD k 0 : Nat)) ↔ pWd T E ws f := by
  have hpos : 0 < ws.length := List.length_pos_iff.mpr hn
  have hb : ws.getD 0 0 ∈ ws := by
    rw [List.getD_eq_getElem?_getD, List.getElem?_eq_getElem hpos]
    exact List.getElem_mem hpos
  have hb := hl _ hb
  constructor
  · rintro ⟨h1, h2⟩
    have t0 := h2 0 hpos
    rw [show f + ((0 : Nat) : Int) = f by omega] at t0
    have hE : f < E := by have := pBh_b (T := T) hf; omega
    have hw := pWe_gt hE (T := T) (by omega)
    rw [pBh_we (by omega)] at h1
    exact ⟨h1, h2⟩
  · rintro ⟨h1, h2⟩
    rw [pBh_we (by omega)]
    exact ⟨h1, h2⟩
/-- the letters T of the tape, E of them -/
def CT (T : Int → Int) (E : Int) (g : Nat → Nat → Int) : Prop := g 28 4 = E ∧ 0 ≤ E ∧ E ≤ 400 ∧ ∀ k, 0 ≤ k → k < 400 → g 2 k.toNat = T k ∧ 0 ≤ T k ∧ T k ≤ 255
theorem CT_eq {T : Int → Int} {E : Int} {g g' : Nat → Nat → Int} (h : CT T E g) (h1 : g' 28 4 = g 28 4) (h2 : ∀ j, g' 2 j = g 2 j) : CT T E g' := by
  obtain ⟨a1, a2, a3, a4⟩ := h
  refine ⟨by rw [h1]; exact a1, a2, a3, fun k k0 k1 => ?_⟩
  rw [h2]
  exact a4 k k0 k1
theorem CT_fu {T : Int → Int} {E : Int} {g : Nat → Nat → Int} {c j : Nat} {z : Int} (h : CT T E g) (h1 : c ≠ 2) (h2 : ¬ (28 = c ∧ 4 = j)) : CT T E (fu g c j z) := CT_eq h (fu_ne h2) (fun _ => fu_nc (Ne.symm h1))
theorem CT_t {T : Int → Int} {E : Int} {g : Nat → Nat → Int} {k : Int} (h : CT T E g) (h0 : 0 ≤ k) (h1 : k < E) : g 2 k.toNat = T k ∧ 0 ≤ T k ∧ T k ≤ 255 := h.2.2.2 k h0 (by have := h.2.2.1; omega)
section FXR
variable {W : ax_W} {r : Nat} {g : Nat → Nat → Int} {Q : Nat → Nat → (Nat → Nat → Int) → Prop} {T : Int → Int} {E : Int}
theorem sp_adv_A (h : CT T E g) (kq : ∀ i, i = pSk T E (g 28 3) → fx W r 0 74 33 [226, fI i] [] g Q) : ∀ (n : Nat) (i : Int), (E - i).toNat = n → 0 ≤ i → i ≤ E → pSk T E i = pSk T E (g 28 3) → fx W r 0 74 5 [226, fI i] [] g Q
  | n, i, hn, h0, h1, hs => by
    have a1 := h.1
    have a3 := h.2.2.1
    refine fx_rg (fun hg => ?_)
    refine fx_li 1 6 (by decide +kernel) rfl ?_
    refine fx_la 0 7 (v := 226) (by decide +kernel) rfl (by decide +kernel) ?_
    refine fx_gi 226 28 4 10 (by decide +kernel) ?_
    refine fx_ige 33 13 (by decide +kernel) (by unfold fR; omega) (by first | exact hg 28 4 (by decide) (by decide +kernel) (by decide +kernel) | (unfold fR; omega)) (fun h10 => ?_) (fun h10 => ?_)
    · exact kq i (by rw [← hs]; exact (prun_stop (by omega)).symm)
    · refine fx_la 0 14 (v := 226) (by decide +kernel) rfl (by decide +kernel) ?_
      refine fx_gp 226 28 0 10 17 (by decide +kernel) ?_
      refine fx_gp 10 1 0 18 20 (by decide +kernel) ?_
      obtain ⟨t1, t2, t3⟩ := CT_t h h0 (by omega)
      refine fx_li 1 21 (by decide +kernel) rfl ?_
      refine fx_al 18 2 400 22 (by decide +kernel) rfl (by omega) (by omega) rfl ?_
      rw [t1]
      refine fx_ci (32) 24 (by decide +kernel) ?_
      refine fx_ine 33 27 (by decide +kernel) (by unfold fR; omega) (by unfold fR; omega) (fun h24 => ?_) (fun h24 => ?_)
      · exact kq i (by rw [← hs]; exact (prun_no (by unfold isSp; exact decide_eq_false h24)).symm)
      · refine fx_inc 1 30 (1) (by decide +kernel) rfl (Or.inr (f_n4p (v := 226) rfl (by decide))) rfl ?_
        dsimp only [List.set]
        refine fx_go 5 (by decide +kernel) ?_
        match n, hn with
        | 0, hn => exfalso; omega
        | n + 1, hn =>
          refine sp_adv_A h kq n (i + 1) (by omega) (by omega) (by omega) ?_
          rw [← hs]
          exact (prun_step (by omega) (by unfold isSp; exact decide_eq_true h24)).symm
theorem sp_adv_B {f : Int} (h : CT T E g) (kq : fx W r 0 74 80 [226, fI (pWe T E f)] [] g Q) : ∀ (n : Nat) (i : Int), (E - i).toNat = n → 0 ≤ i → i ≤ E → pWe T E i = pWe T E f → fx W r 0 74 38 [226, fI i] [] g Q
  | n, i, hn, h0, h1, hs => by
    have a1 := h.1
    have a3 := h.2.2.1
    refine fx_rg (fun hg => ?_)
    have kx : pWe T E i = i → fx W r 0 74 80 [226, fI i] [] g Q := fun t => by rw [← hs, t] at kq; exact kq
    refine fx_li 1 39 (by decide +kernel) rfl ?_
    refine fx_la 0 40 (v := 226) (by decide +kernel) rfl (by decide +kernel) ?_
    refine fx_gi 226 28 4 43 (by decide +kernel) ?_
    refine fx_ige 80 46 (by decide +kernel) (by unfold fR; omega) (by first | exact hg 28 4 (by decide) (by decide +kernel) (by decide +kernel) | (unfold fR; omega)) (fun h43 => ?_) (fun h43 => ?_)
    · exact kx (prun_stop (by omega))
    · obtain ⟨t1, t2, t3⟩ := CT_t h h0 (by omega)
      refine fx_la 0 47 (v := 226) (by decide +kernel) rfl (by decide +kernel) ?_
      refine fx_gp 226 28 0 10 50 (by decide +kernel) ?_
      refine fx_gp 10 1 0 18 53 (by decide +kernel) ?_
      refine fx_li 1 54 (by decide +kernel) rfl ?_
      refine fx_al 18 2 400 55 (by decide +kernel) rfl (by omega) (by omega) rfl ?_
      rw [t1]
      refine fx_ci (97) 57 (by decide +kernel) ?_
      refine fx_ilt 80 60 (by decide +kernel) (by unfold fR; omega) (by unfold fR; omega) (fun h57 => ?_) (fun h57 => ?_)
      · exact kx (prun_no (isLe_f (by omega)))
      · refine fx_la 0 61 (v := 226) (by decide +kernel) rfl (by decide +kernel) ?_
        refine fx_gp 226 28 0 10 64 (by decide +kernel) ?_
        refine fx_gp 10 1 0 18 67 (by decide +kernel) ?_
        refine fx_li 1 68 (by decide +kernel) rfl ?_
        refine fx_al 18 2 400 69 (by decide +kernel) rfl (by omega) (by omega) rfl ?_
        rw [t1]
        refine fx_ci (122) 71 (by decide +kernel) ?_
        refine fx_igt 80 74 (by decide +kernel) (by unfold fR; omega) (by unfold fR; omega) (fun h71 => ?_) (fun h71 => ?_)
        · exact kx (prun_no (isLe_f (by omega)))
        · refine fx_inc 1 77 (1) (by decide +kernel) rfl (Or.inr (f_n4p (v := 226) rfl (by decide))) rfl ?_
          dsimp only [List.set]
          refine fx_go 38 (by decide +kernel) ?_
          match n, hn with
          | 0, hn => exfalso; omega
          | n + 1, hn =>
            refine sp_adv_B h kq n (i + 1) (by omega) (by omega) (by omega) ?_
            rw [← hs]
            exact (prun_step (by omega) (isLe_t (by omega))).symm
theorem sp_adv_C {f : Int} (h : CT T E g) (kq : fx W r 0 74 130 [226, fI (pDg T E f)] [] g Q) : ∀ (n : Nat) (i : Int), (E - i).toNat = n → 0 ≤ i → i ≤ E → pDg T E i = pDg T E f → fx W r 0 74 88 [226, fI i] [] g Q
  | n, i, hn, h0, h1, hs => by
    have a1 := h.1
    have a3 := h.2.2.1
    refine fx_rg (fun hg => ?_)
    have kx : pDg T E i = i → fx W r 0 74 130 [226, fI i] [] g Q := fun t => by rw [← hs, t] at kq; exact kq
    refine fx_li 1 89 (by decide +kernel) rfl ?_
    refine fx_la 0 90 (v := 226) (by decide +kernel) rfl (by decide +kernel) ?_
    refine fx_gi 226 28 4 93 (by decide +kernel) ?_
    refine fx_ige 130 96 (by decide +kernel) (by unfold fR; omega) (by first | exact hg 28 4 (by decide) (by decide +kernel) (by decide +kernel) | (unfold fR; omega)) (fun h93 => ?_) (fun h93 => ?_)
    · exact kx (prun_stop (by omega))
    · obtain ⟨t1, t2, t3⟩ := CT_t h h0 (by omega)
      refine fx_la 0 97 (v := 226) (by decide +kernel) rfl (by decide +kernel) ?_
      refine fx_gp 226 28 0 10 100 (by decide +kernel) ?_
      refine fx_gp 10 1 0 18 103 (by decide +kernel) ?_
      refine fx_li 1 104 (by decide +kernel) rfl ?_
      refine fx_al 18 2 400 105 (by decide +kernel) rfl (by omega) (by omega) rfl ?_
      rw [t1]
      refine fx_ci (48) 107 (by decide +kernel) ?_
      refine fx_ilt 130 110 (by decide +kernel) (by unfold fR; omega) (by unfold fR; omega) (fun h107 => ?_) (fun h107 => ?_)
      · exact kx (prun_no (isDi_f (by omega)))
      · refine fx_la 0 111 (v := 226) (by decide +kernel) rfl (by decide +kernel) ?_
        refine fx_gp 226 28 0 10 114 (by decide +kernel) ?_
        refine fx_gp 10 1 0 18 117 (by decide +kernel) ?_
        refine fx_li 1 118 (by decide +kernel) rfl ?_
        refine fx_al 18 2 400 119 (by decide +kernel) rfl (by omega) (by omega) rfl ?_
        rw [t1]
        refine fx_ci (57) 121 (by decide +kernel) ?_
        refine fx_igt 130 124 (by decide +kernel) (by unfold fR; omega) (by unfold fR; omega) (fun h121 => ?_) (fun h121 => ?_)
        · exact kx (prun_no (isDi_f (by omega)))
        · refine fx_inc 1 127 (1) (by decide +kernel) rfl (Or.inr (f_n4p (v := 226) rfl (by decide))) rfl ?_
          dsimp only [List.set]
          refine fx_go 88 (by decide +kernel) ?_
          match n, hn with
          | 0, hn => exfalso; omega
          | n + 1, hn =>
            refine sp_adv_C h kq n (i + 1) (by omega) (by omega) (by omega) ?_
            rw [← hs]
            exact (prun_step (by omega) (isDi_t (by omega))).symm
/-- the class stands at f -/
def cAt (T : Int → Int) (E : Int) (g : Nat → Nat → Int) (f : Int) : Nat → Nat → Int := fu (fu g 28 2 f) 28 3 (pBh T E f)
theorem sp_advance (h : CT T E g) (h0 : 0 ≤ g 28 3) (h1 : g 28 3 ≤ E) (kq : Q 0 0 (cAt T E g (pSk T E (g 28 3)))) : fx W r 0 74 0 [226, 7] [] g Q := by
  have a1 := h.1
  have a3 := h.2.2.1
  refine fx_rg (fun hg => ?_)
  refine fx_la 0 1 (v := 226) (by decide +kernel) rfl (by decide +kernel) ?_
  refine fx_gi 226 28 3 4 (by decide +kernel) ?_
  refine fx_si 1 5 (by decide +kernel) (Or.inr (f_n4p (v := 226) rfl (by decide))) rfl ?_
  dsimp only [List.set]
  refine sp_adv_A h (fun i hi => ?_) _ _ rfl h0 h1 rfl
  rw [← hi] at kq
  have i0 : 0 ≤ i := by have := pSk_ge T E (g 28 3); omega
  have i1 : i ≤ E := by have := pSk_le (T := T) h1; omega
  have w0 := pWe_ge T E i
  have w1 := pWe_le (T := T) i1
  have d0 := pDg_ge T E i
  have d1 := pDg_le (T := T) i1
  have h' : CT T E (fu g 28 2 i) := CT_fu h (by decide) (by decide)
  refine fx_la 0 34 (v := 226) (by decide +kernel) rfl (by decide +kernel) ?_
  refine fx_li 1 35 (by decide +kernel) rfl ?_
  refine fx_pi 226 28 2 38 (by decide +kernel) (by unfold fR; omega) ?_
  refine sp_adv_B (f := i) h' ?_ _ _ rfl i0 i1 rfl
  have tail : ∀ e, (if e = i ∧ e < E then e + 1 else e) = pBh T E i → i ≤ e → e ≤ E → fx W r 0 74 130 [226, fI e] [] (fu g 28 2 i) Q := by
    intro e he e0 e1
    refine fx_la 0 131 (v := 226) (by decide +kernel) rfl (by decide +kernel) ?_
    refine fx_li 1 132 (by decide +kernel) rfl ?_
    refine fx_la 0 133 (v := 226) (by decide +kernel) rfl (by decide +kernel) ?_
    refine fx_gi 226 28 2 136 (by decide +kernel) ?_
    try simp only [fu_app, fcy_app, Nat.reduceEqDiff, and_true, and_false, false_and, true_and, if_true, if_false, ite_true, ite_false, reduceIte, Int.reduceToNat, fx_simp0]
    refine fx_ine 153 139 (by decide +kernel) (by unfold fR; omega) (by unfold fR; omega) (fun h136 => ?_) (fun h136 => ?_)
    · refine fx_li 1 154 (by decide +kernel) rfl ?_
      refine fx_pi 226 28 3 157 (by decide +kernel) (by unfold fR; omega) ?_
      refine fx_vret (by decide +kernel) ?_
      unfold cAt at kq
      first
        | (rw [if_neg (by omega)] at he; rw [he]; exact kq)
        | (rw [if_pos (by omega)] at he; rw [he]; exact kq)
    · refine fx_li 1 140 (by decide +kernel) rfl ?_
      refine fx_la 0 141 (v := 226) (by decide +kernel) rfl (by decide +kernel) ?_
      refine fx_gi 226 28 4 144 (by decide +kernel) ?_
      try simp only [fu_app, fcy_app, Nat.reduceEqDiff, and_true, and_false, false_and, true_and, if_true, if_false, ite_true, ite_false, reduceIte, Int.reduceToNat, fx_simp0]
      refine fx_ige 153 147 (by decide +kernel) (by unfold fR; omega) (by unfold fR; omega) (fun h144 => ?_) (fun h144 => ?_)
      · refine fx_li 1 154 (by decide +kernel) rfl ?_
        refine fx_pi 226 28 3 157 (by decide +kernel) (by unfold fR; omega) ?_
        refine fx_vret (by decide +kernel) ?_
        unfold cAt at kq
        first
          | (rw [if_neg (by omega)] at he; rw [he]; exact kq)
          | (rw [if_pos (by omega)] at he; rw [he]; exact kq)
      · refine fx_li 1 148 (by decide +kernel) rfl ?_
        refine fx_ci (1) 149 (by decide +kernel) ?_
        refine fx_add 150 (by decide +kernel) rfl ?_
        refine fx_go 154 (by decide +kernel) ?_
        refine fx_pi 226 28 3 157 (by decide +kernel) (by unfold fR; omega) ?_
        refine fx_vret (by decide +kernel) ?_
        unfold cAt at kq
        first
          | (rw [if_neg (by omega)] at he; rw [he]; exact kq)
          | (rw [if_pos (by omega)] at he; rw [he]; exact kq)
  refine fx_li 1 81 (by decide +kernel) rfl ?_
  refine fx_la 0 82 (v := 226) (by decide +kernel) rfl (by decide +kernel) ?_
  refine fx_gi 226 28 2 85 (by decide +kernel) ?_
  try simp only [fu_app, fcy_app, Nat.reduceEqDiff, and_true, and_false, false_and, true_and, if_true, if_false, ite_true, ite_false, reduceIte, Int.reduceToNat, fx_simp0]
  refine fx_ine 130 88 (by decide +kernel) (by unfold fR; omega) (by unfold fR; omega) (fun h85 => ?_) (fun h85 => ?_)
  · exact tail _ (by unfold pBh; rw [if_neg (by omega), if_neg (by omega)]) w0 w1
  · rw [h85]
    refine sp_adv_C (f := i) h' (tail _ ?_ d0 d1) _ _ rfl i0 i1 rfl
    unfold pBh
    rw [if_pos h85]
    by_cases c : pDg T E i = i ∧ i < E
    · rw [if_pos c, if_pos (by omega)]; omega
    · rw [if_neg c, if_neg (by omega)]
end FXR
end
section
/-! fx: the class takes words, signs, numbers -/
/-- the class stands at f -/
def cSt (T : Int → Int) (E : Int) (g : Nat → Nat → Int) (f : Int) : Prop := CT T E g ∧ g 28 2 = f ∧ g 28 3 = pBh T E f ∧ pOk T E f
theorem cSt_at {T : Int → Int} {E : Int} {g : Nat → Nat → Int} {f : Int} (h : CT T E g) (hf : pOk T E f) : cSt T E (cAt T E g f) f := ⟨CT_fu (CT_fu h (by decide) (by decide)) (by decide) (by decide), by unfold cAt; rw [fu_nj (by decide), fu_eq], by unfold cAt; rw [fu_eq], hf⟩
theorem cAt_at {T : Int → Int} {E : Int} {g : Nat → Nat → Int} {f f' : Int} : cAt T E (cAt T E g f) f' = cAt T E g f' := by
  unfold cAt
  rw [fu_sw _ _ _ (by decide), fu_fu, fu_sw _ _ _ (by decide), fu_fu]
theorem cAt_self {T : Int → Int} {E : Int} {g : Nat → Nat → Int} {f : Int} (h : cSt T E g f) : cAt T E g f = g := by
  unfold cAt
  obtain ⟨-, h1, h2, -⟩ := h
  rw [← h2, ← h1, fu_self, fu_self]
theorem pOk_bh {T : Int → Int} {E f : Int} (h : pOk T E f) : pOk T E (pSk T E (pBh T E f)) := pOk_sk (by have := pBh_b (T := T) h.2.1; have := h.1; omega) (pBh_b h.2.1).2
section FXS
variable {W : ax_W} {r : Nat} {g : Nat → Nat → Int} {Q : Nat → Nat → (Nat → Nat → Int) → Prop} {T : Int → Int} {E : Int} {s : Nat} {f : Int}
theorem sp_advS (h : cSt T E g f) (kq : Q 0 0 (cAt T E g (pSk T E (pBh T E f)))) : fx W r 0 74 0 [226, 7] [] g Q := by
  obtain ⟨h1, h2, h3, h4⟩ := h
  have b := pBh_b (T := T) h4.2.1
  have c := h4.1
  refine sp_advance h1 (by omega) (by omega) ?_
  rw [h3]
  exact kq
theorem sp_isWord_1 (h : cSt T E g f) (hs : f_sk s) (hl : pBh T E f - f = (fStr s).length) : ∀ (n i : Nat), i + n = (fStr s).length → (∀ k : Nat, k < i → T (f + k) = ((fStr s).getD k 0 : Nat)) → ((∀ k : Nat, k < (fStr s).length → T (f + k) = ((fStr s).getD k 0 : Nat)) → Q 1 (fI 1) g) → (¬ (∀ k : Nat, k < (fStr s).length → T (f + k) = ((fStr s).getD k 0 : Nat)) → Q 1 (fI 0) g) → fx W r 4 79 23 [226, s, fI (f + i)] [] g Q
  | n, i, hn, hi, k1, k2 => by
    obtain ⟨hc, h2, h3, h4⟩ := h
    have hs2 := hs.2.2.1
    have a3 := hc.2.2.1
    have b := pBh_b (T := T) h4.2.1
    have f0 := h4.1
    have f1 := h4.2.1
    refine fx_rg (fun hg => ?_)
    refine fx_li 2 24 (by decide +kernel) rfl ?_
    refine fx_la 0 25 (v := 226) (by decide +kernel) rfl (by decide +kernel) ?_
    refine fx_gi 226 28 3 28 (by decide +kernel) ?_
    refine fx_ige 61 31 (by decide +kernel) (by unfold fR; omega) (by first | exact hg 28 3 (by decide) (by decide +kernel) (by decide +kernel) | (unfold fR; omega)) (fun h28 => ?_) (fun h28 => ?_)
    · refine fx_ci (1) 62 (by decide +kernel) ?_
      refine fx_retb (by decide +kernel) (by first | exact Or.inl rfl | exact Or.inr rfl | omega) ?_
      exact k1 (fun k hk => hi k (by omega))
    · refine fx_la 0 32 (v := 226) (by decide +kernel) rfl (by decide +kernel) ?_
      refine fx_gp 226 28 0 10 35 (by decide +kernel) ?_
      refine fx_gp 10 1 0 18 38 (by decide +kernel) ?_
      obtain ⟨t1, t2, t3⟩ := CT_t hc (k := f + i) (by omega) (by omega)
      have bv : (fStr s).getD i 0 < 128 := by
        refine hs.2.2.2 _ (List.mem_of_getElem? (i := i) ?_)
        rw [List.getD_eq_getElem?_getD, List.getElem?_eq_getElem (by omega)]
        rfl
      refine fx_li 2 39 (by decide +kernel) rfl ?_
      refine fx_al 18 2 400 40 (by decide +kernel) rfl (by omega) (by omega) rfl ?_
      rw [t1]
      refine fx_la 1 41 (v := s) (by decide +kernel) rfl (f_sty hs) ?_
      refine fx_li 2 42 (by decide +kernel) rfl ?_
      refine fx_la 0 43 (v := 226) (by decide +kernel) rfl (by decide +kernel) ?_
      refine fx_gi 226 28 2 46 (by decide +kernel) ?_
      rw [h2]
      refine fx_sub 47 (by decide +kernel) rfl ?_
      rw [show f + (i : Int) - f = (i : Int) by omega]
      refine fx_c2 82 39 50 3 [] (f_q39 hs.1 (by decide +kernel)) (by decide) (f_s4 hs) (fI_n4 _) rfl (by first | decide | omega) ?_
      refine sp_charAt hs (by omega) (by omega) (fK1 ?_)
      rw [show ((i : Int)).toNat = i from rfl]
      refine fx_ieq 55 53 (by decide +kernel) (by unfold fR; omega) (by unfold fR; omega) (fun h50 => ?_) (fun h50 => ?_)
      · refine fx_inc 2 58 (1) (by decide +kernel) rfl (Or.inr (f_s4 hs)) rfl ?_
        dsimp only [List.set]
        refine fx_go 23 (by decide +kernel) ?_
        match n, hn with
        | 0, hn => exfalso; omega
        | n + 1, hn =>
          rw [show f + (i : Int) + 1 = f + ((i + 1 : Nat) : Int) by omega]
          exact sp_isWord_1 ⟨hc, h2, h3, h4⟩ hs hl n (i + 1) (by omega) (fun k hk => by
            by_cases e : k = i
            · rw [e]; exact h50
            · exact hi k (by omega)) k1 k2
      · refine fx_ci (0) 54 (by decide +kernel) ?_
        refine fx_retb (by decide +kernel) (by first | exact Or.inl rfl | exact Or.inr rfl | omega) ?_
        exact k2 (fun t => h50 (t i (by omega)))
theorem sp_isWord (h : cSt T E g f) (hs : f_sk s) (k1 : (pBh T E f - f = (fStr s).length ∧ ∀ k : Nat, k < (fStr s).length → T (f + k) = ((fStr s).getD k 0 : Nat)) → Q 1 (fI 1) g) (k2 : ¬ (pBh T E f - f = (fStr s).length ∧ ∀ k : Nat, k < (fStr s).length → T (f + k) = ((fStr s).getD k 0 : Nat)) → Q 1 (fI 0) g) : fx W r 4 79 0 [226, s, 7] [] g Q := by
  have hst := h
  obtain ⟨hc, h2, h3, h4⟩ := h
  have hs2 := hs.2.2.1
  have a3 := hc.2.2.1
  have b := pBh_b (T := T) h4.2.1
  have f0 := h4.1
  have f1 := h4.2.1
  refine fx_rg (fun hg => ?_)
  refine fx_la 0 1 (v := 226) (by decide +kernel) rfl (by decide +kernel) ?_
  refine fx_gi 226 28 3 4 (by decide +kernel) ?_
  refine fx_la 0 5 (v := 226) (by decide +kernel) rfl (by decide +kernel) ?_
  refine fx_gi 226 28 2 8 (by decide +kernel) ?_
  refine fx_sub 9 (by decide +kernel) rfl ?_
  refine fx_la 1 10 (v := s) (by decide +kernel) rfl (f_sty hs) ?_
  refine fx_c1 80 39 13 1 [] (f_q39 hs.1 (by decide +kernel)) (f_s4 hs) rfl (by first | decide | omega) ?_
  refine sp_len hs (fK1 ?_)
  rw [h2, h3]
  refine fx_ieq 18 16 (by decide +kernel) (by unfold fR; omega) (by unfold fR; omega) (fun h13 => ?_) (fun h13 => ?_)
  · refine fx_la 0 19 (v := 226) (by decide +kernel) rfl (by decide +kernel) ?_
    refine fx_gi 226 28 2 22 (by decide +kernel) ?_
    try simp only [fu_app, fcy_app, Nat.reduceEqDiff, and_true, and_false, false_and, true_and, if_true, if_false, ite_true, ite_false, reduceIte, Int.reduceToNat, fx_simp0]
    refine fx_si 2 23 (by decide +kernel) (Or.inr (f_s4 hs)) rfl ?_
    dsimp only [List.set]
    rw [h2]
    have := sp_isWord_1 (W := W) (r := r) (Q := Q) hst hs h13 _ 0 (Nat.zero_add _) (fun k hk => absurd hk (Nat.not_lt_zero k)) (fun t => k1 ⟨h13, t⟩) (fun t => k2 (fun q => t q.2))
    rw [show f + ((0 : Nat) : Int) = f by omega] at this
    exact this
  · refine fx_ci (0) 17 (by decide +kernel) ?_
    refine fx_retb (by decide +kernel) (by first | exact Or.inl rfl | exact Or.inr rfl | omega) ?_
    exact k2 (fun t => h13 t.1)
noncomputable def f_lw (ws : List Nat) : Bool := !ws.isEmpty && ws.all (fun b => Nat.ble 97 b && Nat.ble b 122)
theorem sp_takesWord (ws : List Nat) (hw : f_swb s ws = true) (hw2 : f_lw ws = true) (h : cSt T E g f) (k1 : pWd T E ws f → Q 1 (fI 1) (cAt T E g (pSk T E (pWe T E f)))) (k2 : ¬ pWd T E ws f → Q 1 (fI 0) g) : fx W r 5 78 0 [226, s] [] g Q := by
  obtain ⟨hs, he⟩ := f_sw hw
  obtain ⟨l1, l2⟩ := f_and hw2
  have hne : ws ≠ [] := fun t => by rw [t] at l1; cases l1
  have hl : ∀ b ∈ ws, 97 ≤ b ∧ b ≤ 122 := fun b hb => by
    obtain ⟨q1, q2⟩ := f_and (List.all_eq_true.mp l2 b hb)
    exact ⟨sx_ble q1, sx_ble q2⟩
  have hi := pWd_iff (T := T) (E := E) (f := f) h.2.2.2.2.1 hne hl
  refine fx_la 0 1 (v := 226) (by decide +kernel) rfl (by decide +kernel) ?_
  refine fx_la 1 2 (v := s) (by decide +kernel) rfl (f_sty hs) ?_
  refine fx_c2 79 21 5 4 [7] (by decide +kernel) (by decide) (by decide) (f_s4 hs) rfl (by first | decide | omega) ?_
  refine sp_isWord h hs (fun b => fK1 ?_) (fun b => fK1 ?_)
  all_goals rw [he] at b
  · refine fx_zne 10 8 (by decide +kernel) (by unfold fR; omega) (fun _ => ?_) (fun hc => absurd hc (by decide))
    refine fx_la 0 11 (v := 226) (by decide +kernel) rfl (by decide +kernel) ?_
    refine fx_c1 74 21 14 0 [7] (by decide +kernel) (by decide) rfl (by first | decide | omega) ?_
    refine sp_advS h (fK0 ?_)
    refine fx_ci (1) 15 (by decide +kernel) ?_
    refine fx_retb (by decide +kernel) (by first | exact Or.inl rfl | exact Or.inr rfl | omega) ?_
    have w := hi.mp b
    have k1 := k1 w
    have : 0 < ws.length := List.length_pos_iff.mpr hne
    rw [pBh_we (by have := w.1; omega)]
    exact k1
  · refine fx_zne 10 8 (by decide +kernel) (by unfold fR; omega) (fun hc => absurd hc (by decide)) (fun _ => ?_)
    refine fx_ci (0) 9 (by decide +kernel) ?_
    refine fx_retb (by decide +kernel) (by first | exact Or.inl rfl | exact Or.inr rfl | omega) ?_
    exact k2 (fun t => b (hi.mpr t))
theorem sp_takesSign {c : Int} (h : cSt T E g f) (hc : fR c) (hn1 : ¬ (97 ≤ c ∧ c ≤ 122)) (hn2 : ¬ (48 ≤ c ∧ c ≤ 57)) (k1 : f < E ∧ T f = c → Q 1 (fI 1) (cAt T E g (pSk T E (f + 1)))) (k2 : ¬ (f < E ∧ T f = c) → Q 1 (fI 0) g) : fx W r 1 106 0 [226, fI c] [] g Q := by
  have hst := h
  obtain ⟨hct, h2, h3, h4⟩ := h
  have a1 := hct.1
  have a3 := hct.2.2.1
  have f0 := h4.1
  have f1 := h4.2.1
  unfold fR at hc
  refine fx_rg (fun hg => ?_)
  refine fx_la 0 1 (v := 226) (by decide +kernel) rfl (by decide +kernel) ?_
  refine fx_gi 226 28 2 4 (by decide +kernel) ?_
  refine fx_la 0 5 (v := 226) (by decide +kernel) rfl (by decide +kernel) ?_
  refine fx_gi 226 28 4 8 (by decide +kernel) ?_
  refine fx_ige 27 11 (by decide +kernel) (by first | exact hg 28 2 (by decide) (by decide +kernel) (by decide +kernel) | (unfold fR; omega)) (by first | exact hg 28 4 (by decide) (by decide +kernel) (by decide +kernel) | (unfold fR; omega)) (fun h8 => ?_) (fun h8 => ?_)
  · refine fx_ci (0) 28 (by decide +kernel) ?_
    refine fx_retb (by decide +kernel) (by first | exact Or.inl rfl | exact Or.inr rfl | omega) ?_
    exact k2 (fun t => by omega)
  · refine fx_la 0 12 (v := 226) (by decide +kernel) rfl (by decide +kernel) ?_
    refine fx_gp 226 28 0 10 15 (by decide +kernel) ?_
    refine fx_gp 10 1 0 18 18 (by decide +kernel) ?_
    refine fx_la 0 19 (v := 226) (by decide +kernel) rfl (by decide +kernel) ?_
    refine fx_gi 226 28 2 22 (by decide +kernel) ?_
    rw [h2]
    obtain ⟨t1, t2, t3⟩ := CT_t hct f0 (by omega)
    refine fx_al 18 2 400 23 (by decide +kernel) rfl (by omega) (by omega) rfl ?_
    rw [t1]
    refine fx_li 1 24 (by decide +kernel) rfl ?_
    refine fx_ieq 29 27 (by decide +kernel) (by unfold fR; omega) (by unfold fR; omega) (fun h24 => ?_) (fun h24 => ?_)
    · refine fx_la 0 30 (v := 226) (by decide +kernel) rfl (by decide +kernel) ?_
      refine fx_c1 74 21 33 0 [7] (by decide +kernel) (by decide) rfl (by first | decide | omega) ?_
      refine sp_advS hst (fK0 ?_)
      refine fx_ci (1) 34 (by decide +kernel) ?_
      refine fx_retb (by decide +kernel) (by first | exact Or.inl rfl | exact Or.inr rfl | omega) ?_
      rw [pBh_sg (by omega) (by omega) (by omega)]
      exact k1 ⟨by omega, h24⟩
    · refine fx_ci (0) 28 (by decide +kernel) ?_
      refine fx_retb (by decide +kernel) (by first | exact Or.inl rfl | exact Or.inr rfl | omega) ?_
      exact k2 (fun t => by omega)
theorem sp_isOver (h : cSt T E g f) (k1 : f = E → Q 1 (fI 1) g) (k2 : f < E → Q 1 (fI 0) g) : fx W r 0 76 0 [226] [] g Q := by
  obtain ⟨hct, h2, h3, h4⟩ := h
  have a1 := hct.1
  have f1 := h4.2.1
  refine fx_rg (fun hg => ?_)
  refine fx_la 0 1 (v := 226) (by decide +kernel) rfl (by decide +kernel) ?_
  refine fx_gi 226 28 2 4 (by decide +kernel) ?_
  refine fx_la 0 5 (v := 226) (by decide +kernel) rfl (by decide +kernel) ?_
  refine fx_gi 226 28 4 8 (by decide +kernel) ?_
  refine fx_ilt 15 11 (by decide +kernel) (by first | exact hg 28 2 (by decide) (by decide +kernel) (by decide +kernel) | (unfold fR; omega)) (by first | exact hg 28 4 (by decide) (by decide +kernel) (by decide +kernel) | (unfold fR; omega)) (fun h8 => ?_) (fun h8 => ?_)
  · refine fx_ci (0) 16 (by decide +kernel) ?_
    refine fx_retb (by decide +kernel) (by first | exact Or.inl rfl | exact Or.inr rfl | omega) ?_
    first | exact k1 (by omega) | exact k2 (by omega)
  · refine fx_ci (1) 12 (by decide +kernel) ?_
    refine fx_go 16 (by decide +kernel) ?_
    refine fx_retb (by decide +kernel) (by first | exact Or.inl rfl | exact Or.inr rfl | omega) ?_
    first | exact k1 (by omega) | exact k2 (by omega)
theorem sp_wrongAt {w : Int} (hw : fR w) (kq : Q 1 (fI 0) (fu g 28 1 w)) : fx W r 0 92 0 [226, fI w] [] g Q := by
  unfold fR at hw
  refine fx_la 0 1 (v := 226) (by decide +kernel) rfl (by decide +kernel) ?_
  refine fx_li 1 2 (by decide +kernel) rfl ?_
  refine fx_pi 226 28 1 5 (by decide +kernel) (by unfold fR; omega) ?_
  refine fx_ci (0) 6 (by decide +kernel) ?_
  refine fx_retb (by decide +kernel) (by first | exact Or.inl rfl | exact Or.inr rfl | omega) ?_
  exact kq
theorem sp_digits (h : cSt T E g f) (kq : Q 1 (fI (pDg T E f - f)) g) : fx W r 0 94 0 [226, 7] [] g Q := by
  obtain ⟨hct, h2, h3, h4⟩ := h
  have a1 := hct.1
  have a3 := hct.2.2.1
  have f0 := h4.1
  have f1 := h4.2.1
  have d0 := pDg_ge T E f
  have d1 := pDg_le (T := T) f1
  refine fx_rg (fun hg => ?_)
  have z : (E ≤ f ∨ ¬ (48 ≤ T f ∧ T f ≤ 57)) → Q 1 (fI 0) g := fun t => by
    have e : pDg T E f = f := by
      rcases t with t | t
      · exact prun_stop t
      · exact prun_no (isDi_f t)
    rw [e, show f - f = 0 by omega] at kq
    exact kq
  refine fx_la 0 1 (v := 226) (by decide +kernel) rfl (by decide +kernel) ?_
  refine fx_gi 226 28 2 4 (by decide +kernel) ?_
  refine fx_la 0 5 (v := 226) (by decide +kernel) rfl (by decide +kernel) ?_
  refine fx_gi 226 28 4 8 (by decide +kernel) ?_
  refine fx_ige 49 11 (by decide +kernel) (by first | exact hg 28 2 (by decide) (by decide +kernel) (by decide +kernel) | (unfold fR; omega)) (by first | exact hg 28 4 (by decide) (by decide +kernel) (by decide +kernel) | (unfold fR; omega)) (fun h8 => ?_) (fun h8 => ?_)
  · refine fx_ci (0) 50 (by decide +kernel) ?_
    refine fx_si 1 51 (by decide +kernel) (Or.inr (f_n4p (v := 226) rfl (by decide))) rfl ?_
    dsimp only [List.set]
    refine fx_li 1 52 (by decide +kernel) rfl ?_
    refine fx_zeq 67 55 (by decide +kernel) (by unfold fR; omega) (fun _ => ?_) (fun hc => absurd hc (by decide))
    refine fx_ci (0) 68 (by decide +kernel) ?_
    refine fx_ret (by decide +kernel) ?_
    exact z (Or.inl (by omega))
  · refine fx_la 0 12 (v := 226) (by decide +kernel) rfl (by decide +kernel) ?_
    refine fx_gp 226 28 0 10 15 (by decide +kernel) ?_
    refine fx_gp 10 1 0 18 18 (by decide +kernel) ?_
    refine fx_la 0 19 (v := 226) (by decide +kernel) rfl (by decide +kernel) ?_
    refine fx_gi 226 28 2 22 (by decide +kernel) ?_
    rw [h2]
    obtain ⟨t1, t2, t3⟩ := CT_t hct f0 (by omega)
    refine fx_al 18 2 400 23 (by decide +kernel) rfl (by omega) (by omega) rfl ?_
    rw [t1]
    refine fx_ci (48) 25 (by decide +kernel) ?_
    refine fx_ilt 49 28 (by decide +kernel) (by unfold fR; omega) (by unfold fR; omega) (fun h25 => ?_) (fun h25 => ?_)
    · refine fx_ci (0) 50 (by decide +kernel) ?_
      refine fx_si 1 51 (by decide +kernel) (Or.inr (f_n4p (v := 226) rfl (by decide))) rfl ?_
      dsimp only [List.set]
      refine fx_li 1 52 (by decide +kernel) rfl ?_
      refine fx_zeq 67 55 (by decide +kernel) (by unfold fR; omega) (fun _ => ?_) (fun hc => absurd hc (by decide))
      refine fx_ci (0) 68 (by decide +kernel) ?_
      refine fx_ret (by decide +kernel) ?_
      exact z (Or.inr (by omega))
    · refine fx_la 0 29 (v := 226) (by decide +kernel) rfl (by decide +kernel) ?_
      refine fx_gp 226 28 0 10 32 (by decide +kernel) ?_
      refine fx_gp 10 1 0 18 35 (by decide +kernel) ?_
      refine fx_la 0 36 (v := 226) (by decide +kernel) rfl (by decide +kernel) ?_
      refine fx_gi 226 28 2 39 (by decide +kernel) ?_
      rw [h2]
      refine fx_al 18 2 400 40 (by decide +kernel) rfl (by omega) (by omega) rfl ?_
      rw [t1]
      refine fx_ci (57) 42 (by decide +kernel) ?_
      refine fx_igt 49 45 (by decide +kernel) (by unfold fR; omega) (by unfold fR; omega) (fun h42 => ?_) (fun h42 => ?_)
      · refine fx_ci (0) 50 (by decide +kernel) ?_
        refine fx_si 1 51 (by decide +kernel) (Or.inr (f_n4p (v := 226) rfl (by decide))) rfl ?_
        dsimp only [List.set]
        refine fx_li 1 52 (by decide +kernel) rfl ?_
        refine fx_zeq 67 55 (by decide +kernel) (by unfold fR; omega) (fun _ => ?_) (fun hc => absurd hc (by decide))
        refine fx_ci (0) 68 (by decide +kernel) ?_
        refine fx_ret (by decide +kernel) ?_
        exact z (Or.inr (by omega))
      · refine fx_ci (1) 46 (by decide +kernel) ?_
        refine fx_go 50 (by decide +kernel) ?_
        refine fx_si 1 51 (by decide +kernel) (Or.inr (f_n4p (v := 226) rfl (by decide))) rfl ?_
        dsimp only [List.set]
        refine fx_li 1 52 (by decide +kernel) rfl ?_
        refine fx_zeq 67 55 (by decide +kernel) (by unfold fR; omega) (fun hc => absurd hc (by decide)) (fun _ => ?_)
        refine fx_la 0 56 (v := 226) (by decide +kernel) rfl (by decide +kernel) ?_
        refine fx_gi 226 28 3 59 (by decide +kernel) ?_
        refine fx_la 0 60 (v := 226) (by decide +kernel) rfl (by decide +kernel) ?_
        refine fx_gi 226 28 2 63 (by decide +kernel) ?_
        refine fx_sub 64 (by decide +kernel) rfl ?_
        refine fx_go 68 (by decide +kernel) ?_
        refine fx_ret (by decide +kernel) ?_
        rw [h2, h3, pBh_dg (by omega) (by omega)]
        exact kq
theorem sp_takeNumber_1 {lo hi : Int} (h : cSt T E g f) (hd : ∀ k : Nat, k < (pDg T E f - f).toNat → 48 ≤ T (f + k) ∧ T (f + k) ≤ 57) (kq : fx W r 1 93 55 [226, fI lo, fI hi, fI (pDg T E f - f), fI (nv T f (min (pDg T E f - f).toNat 3)), fI ((min (pDg T E f - f).toNat 3 : Nat) : Int)] [] g Q) :
    ∀ (n k : Nat), k + n = min (pDg T E f - f).toNat 3 → fx W r 1 93 11 [226, fI lo, fI hi, fI (pDg T E f - f), fI (nv T f k), fI (k : Int)] [] g Q
  | n, k, hn => by
    obtain ⟨hct, h2, h3, h4⟩ := h
    have a1 := hct.1
    have a3 := hct.2.2.1
    have f0 := h4.1
    have f1 := h4.2.1
    have d0 := pDg_ge T E f
    have d1 := pDg_le (T := T) f1
    have nb := nv_lt (T := T) (f := f) (n := k) (by omega) (fun j hj => hd j (by omega))
    refine fx_rg (fun hg => ?_)
    refine fx_li 5 13 (by decide +kernel) rfl ?_
    refine fx_li 3 14 (by decide +kernel) rfl ?_
    refine fx_ige 55 17 (by decide +kernel) (by unfold fR; omega) (by unfold fR; omega) (fun h14 => ?_) (fun h14 => ?_)
    · have e : k = min (pDg T E f - f).toNat 3 := by omega
      rw [← e] at kq
      exact kq
    · refine fx_li 5 19 (by decide +kernel) rfl ?_
      refine fx_ci (3) 20 (by decide +kernel) ?_
      refine fx_ige 55 23 (by decide +kernel) (by unfold fR; omega) (by unfold fR; omega) (fun h20 => ?_) (fun h20 => ?_)
      · have e : k = min (pDg T E f - f).toNat 3 := by omega
        rw [← e] at kq
        exact kq
      · refine fx_li 4 25 (by decide +kernel) rfl ?_
        refine fx_ci (10) 27 (by decide +kernel) ?_
        refine fx_mul 28 (by decide +kernel) rfl ?_
        refine fx_la 0 29 (v := 226) (by decide +kernel) rfl (by decide +kernel) ?_
        refine fx_gp 226 28 0 10 32 (by decide +kernel) ?_
        refine fx_gp 10 1 0 18 35 (by decide +kernel) ?_
        refine fx_la 0 36 (v := 226) (by decide +kernel) rfl (by decide +kernel) ?_
        refine fx_gi 226 28 2 39 (by decide +kernel) ?_
        refine fx_li 5 41 (by decide +kernel) rfl ?_
        refine fx_add 42 (by decide +kernel) rfl ?_
        rw [h2]
        obtain ⟨t1, t2, t3⟩ := CT_t hct (k := f + k) (by omega) (by omega)
        refine fx_al 18 2 400 43 (by decide +kernel) rfl (by omega) (by omega) rfl ?_
        rw [t1]
        refine fx_add 44 (by decide +kernel) rfl ?_
        refine fx_ci (48) 46 (by decide +kernel) ?_
        refine fx_sub 47 (by decide +kernel) rfl ?_
        refine fx_si 4 49 (by decide +kernel) (Or.inr (fI_n4 _)) rfl ?_
        dsimp only [List.set]
        refine fx_inc 5 52 (1) (by decide +kernel) rfl (Or.inr (fI_n4 _)) rfl ?_
        dsimp only [List.set]
        refine fx_go 11 (by decide +kernel) ?_
        match n, hn with
        | 0, hn => exfalso; omega
        | n + 1, hn =>
          rw [show nv T f k * 10 + T (f + k) - 48 = nv T f (k + 1) from by show _ = 10 * nv T f k + T (f + k) - 48; omega]
          exact sp_takeNumber_1 ⟨hct, h2, h3, h4⟩ hd kq n (k + 1) (by omega)
theorem sp_takeNumber {lo hi : Int} (h : cSt T E g f) (hlo : fR lo) (hhi : fR hi) (k1 : pN T E lo hi f → Q 1 (fI (pNu T E f)) (cAt T E g (pSk T E (pDg T E f)))) (k2 : ¬ pN T E lo hi f → ∀ v, v = -1 → Q 1 (fI v) (fu g 28 1 f)) : fx W r 1 93 0 [226, fI lo, fI hi, 7, 7, 7] [] g Q := by
  have hst := h
  obtain ⟨hct, h2, h3, h4⟩ := h
  have a1 := hct.1
  have a3 := hct.2.2.1
  have f0 := h4.1
  have f1 := h4.2.1
  have d0 := pDg_ge T E f
  have d1 := pDg_le (T := T) f1
  have hd : ∀ k : Nat, k < (pDg T E f - f).toNat → 48 ≤ T (f + k) ∧ T (f + k) ≤ 57 := fun k hk => by
    have := prun_all (p := isDi T) (E := E) (i := f) (k := f + k) (by omega) (show f + (k : Int) < pDg T E f by omega)
    exact of_decide_eq_true this
  refine fx_rg (fun hg => ?_)
  unfold fR at hlo hhi
  refine fx_la 0 1 (v := 226) (by decide +kernel) rfl (by decide +kernel) ?_
  refine fx_c1 94 21 4 0 [7] (by decide +kernel) (by decide) rfl (by first | decide | omega) ?_
  refine sp_digits hst (fK1 ?_)
  refine fx_si 3 5 (by decide +kernel) (Or.inr (fI_n4 _)) rfl ?_
  dsimp only [List.set]
  refine fx_ci (0) 6 (by decide +kernel) ?_
  refine fx_si 4 8 (by decide +kernel) (Or.inr (fI_n4 _)) rfl ?_
  dsimp only [List.set]
  refine fx_ci (0) 9 (by decide +kernel) ?_
  refine fx_si 5 11 (by decide +kernel) (Or.inr (fI_n4 _)) rfl ?_
  dsimp only [List.set]
  refine sp_takeNumber_1 hst hd ?_ _ 0 (Nat.zero_add _)
  have nb := nv_lt (T := T) (f := f) (n := min (pDg T E f - f).toNat 3) (by omega) (fun j hj => hd j (by omega))
  have mn : (pDg T E f - f).toNat ≤ 3 → min (pDg T E f - f).toNat 3 = (pDg T E f - f).toNat := fun t => by omega
  refine fx_li 3 56 (by decide +kernel) rfl ?_
  refine fx_ci (1) 57 (by decide +kernel) ?_
  refine fx_ilt 77 60 (by decide +kernel) (by unfold fR; omega) (by unfold fR; omega) (fun h57 => ?_) (fun h57 => ?_)
  · refine fx_la 0 78 (v := 226) (by decide +kernel) rfl (by decide +kernel) ?_
    refine fx_la 0 79 (v := 226) (by decide +kernel) rfl (by decide +kernel) ?_
    refine fx_gi 226 28 2 82 (by decide +kernel) ?_
    rw [h2]
    refine fx_pi 226 28 1 85 (by decide +kernel) (by first | exact hg 28 2 (by decide) (by decide +kernel) (by decide +kernel) | (unfold fR; omega)) ?_
    refine fx_ci (-1) 86 (by decide +kernel) ?_
    refine fx_ret (by decide +kernel) ?_
    refine k2 (fun t => ?_) _ rfl
    obtain ⟨t1, t2, t3, t4⟩ := t
    have ev : nv T f (min (pDg T E f - f).toNat 3) = nv T f (pDg T E f - f).toNat := by rw [mn (by omega)]
    omega
  · refine fx_li 3 61 (by decide +kernel) rfl ?_
    refine fx_ci (3) 62 (by decide +kernel) ?_
    refine fx_igt 77 65 (by decide +kernel) (by unfold fR; omega) (by unfold fR; omega) (fun h62 => ?_) (fun h62 => ?_)
    · refine fx_la 0 78 (v := 226) (by decide +kernel) rfl (by decide +kernel) ?_
      refine fx_la 0 79 (v := 226) (by decide +kernel) rfl (by decide +kernel) ?_
      refine fx_gi 226 28 2 82 (by decide +kernel) ?_
      rw [h2]
      refine fx_pi 226 28 1 85 (by decide +kernel) (by first | exact hg 28 2 (by decide) (by decide +kernel) (by decide +kernel) | (unfold fR; omega)) ?_
      refine fx_ci (-1) 86 (by decide +kernel) ?_
      refine fx_ret (by decide +kernel) ?_
      refine k2 (fun t => ?_) _ rfl
      obtain ⟨t1, t2, t3, t4⟩ := t
      have ev : nv T f (min (pDg T E f - f).toNat 3) = nv T f (pDg T E f - f).toNat := by rw [mn (by omega)]
      omega
    · refine fx_li 4 67 (by decide +kernel) rfl ?_
      refine fx_li 1 68 (by decide +kernel) rfl ?_
      refine fx_ilt 77 71 (by decide +kernel) (by unfold fR; omega) (by unfold fR; omega) (fun h68 => ?_) (fun h68 => ?_)
      · refine fx_la 0 78 (v := 226) (by decide +kernel) rfl (by decide +kernel) ?_
        refine fx_la 0 79 (v := 226) (by decide +kernel) rfl (by decide +kernel) ?_
        refine fx_gi 226 28 2 82 (by decide +kernel) ?_
        rw [h2]
        refine fx_pi 226 28 1 85 (by decide +kernel) (by first | exact hg 28 2 (by decide) (by decide +kernel) (by decide +kernel) | (unfold fR; omega)) ?_
        refine fx_ci (-1) 86 (by decide +kernel) ?_
        refine fx_ret (by decide +kernel) ?_
        refine k2 (fun t => ?_) _ rfl
        obtain ⟨t1, t2, t3, t4⟩ := t
        have ev : nv T f (min (pDg T E f - f).toNat 3) = nv T f (pDg T E f - f).toNat := by rw [mn (by omega)]
        omega
      · refine fx_li 4 73 (by decide +kernel) rfl ?_
        refine fx_li 2 74 (by decide +kernel) rfl ?_
        refine fx_ile 87 77 (by decide +kernel) (by unfold fR; omega) (by unfold fR; omega) (fun h74 => ?_) (fun h74 => ?_)
        · rw [mn (by omega)] at *
          have dd : 48 ≤ T f ∧ T f ≤ 57 := by
            have := hd 0 (by omega)
            rw [show f + ((0 : Nat) : Int) = f by omega] at this
            exact this
          refine fx_la 0 88 (v := 226) (by decide +kernel) rfl (by decide +kernel) ?_
          refine fx_c1 74 21 91 0 [7] (by decide +kernel) (by decide) rfl (by first | decide | omega) ?_
          refine sp_advS hst (fK0 ?_)
          rw [pBh_dg (by omega) dd]
          refine fx_li 4 93 (by decide +kernel) rfl ?_
          refine fx_ret (by decide +kernel) ?_
          exact k1 ⟨by omega, by omega, h68, h74⟩
        · refine fx_la 0 78 (v := 226) (by decide +kernel) rfl (by decide +kernel) ?_
          refine fx_la 0 79 (v := 226) (by decide +kernel) rfl (by decide +kernel) ?_
          refine fx_gi 226 28 2 82 (by decide +kernel) ?_
          rw [h2]
          refine fx_pi 226 28 1 85 (by decide +kernel) (by first | exact hg 28 2 (by decide) (by decide +kernel) (by decide +kernel) | (unfold fR; omega)) ?_
          refine fx_ci (-1) 86 (by decide +kernel) ?_
          refine fx_ret (by decide +kernel) ?_
          refine k2 (fun t => ?_) _ rfl
          obtain ⟨t1, t2, t3, t4⟩ := t
          have ev : nv T f (min (pDg T E f - f).toNat 3) = nv T f (pDg T E f - f).toNat := by rw [mn (by omega)]
          omega
end FXS
end
section
/-! fx: the class's lines of the house -/
def apCP (g : Nat → Nat → Int) (w pl v l : Int) : Nat → Nat → Int := fu (fu (fu (fu (fu (fu (fu g 30 (g 29 4).toNat w) 31 (g 29 4).toNat l) 29 4 (g 29 4 + 1)) 23 (g 29 4).toNat pl) 24 (g 29 4).toNat v) 25 (g 29 4).toNat (-1)) 26 (g 29 4).toNat 0
def dshC (T : Int → Int) (f d : Int) : Nat → (Nat → Nat → Int) → Nat → Nat → Int
  | 0, g => g
  | k + 1, g => fu (dshC T f d k g) 32 (d * 8 + k).toNat (T (f + k) - 48)
def apCD (T : Int → Int) (f : Int) (g : Nat → Nat → Int) : Nat → Nat → Int := fu (dshC T f (g 29 5) 8 g) 29 5 (g 29 5 + 1)
noncomputable def apCR (one other : Int) (g : Nat → Nat → Int) : Nat → Nat → Int := fu (fu g 33 one.toNat (fop 4 (g 33 one.toNat) (fop 6 1 other))) 33 other.toNat (fop 4 (fu g 33 one.toNat (fop 4 (g 33 one.toNat) (fop 6 1 other)) 33 other.toNat) (fop 6 1 one))
def apCV (one other : Int) (g : Nat → Nat → Int) : Nat → Nat → Int := fu g 25 one.toNat other
def apCS (x y : Int) (g : Nat → Nat → Int) : Nat → Nat → Int := if x = 5 then fu g 29 7 y else if x = 6 then fu g 29 8 y else if x = 7 then fu g 29 9 y else if x = 8 then fu g 22 8 y else fu g 22 9 y
/-- what a line does in the class -/
noncomputable def apC (T : Int → Int) (u : List Int) (g : Nat → Nat → Int) : Nat → Nat → Int :=
  if u.getD 0 0 = 0 then apCP g (u.getD 1 0) (u.getD 2 0) (u.getD 3 0) (u.getD 4 0) else if u.getD 0 0 = 1 then apCD T (u.getD 1 0) g else if u.getD 0 0 = 2 then apCR (u.getD 1 0) (u.getD 2 0) g else if u.getD 0 0 = 3 then apCS (u.getD 1 0) (u.getD 2 0) g else apCV (u.getD 1 0) (u.getD 2 0) g
theorem apC_0 (T : Int → Int) (g : Nat → Nat → Int) (w pl v l : Int) : apC T [0, w, pl, v, l] g = apCP g w pl v l := by unfold apC; simp
theorem apC_1 (T : Int → Int) (g : Nat → Nat → Int) (f : Int) : apC T [1, f] g = apCD T f g := by unfold apC; simp
theorem apC_2 (T : Int → Int) (g : Nat → Nat → Int) (x y : Int) : apC T [2, x, y] g = apCR x y g := by unfold apC; simp
theorem apC_3 (T : Int → Int) (g : Nat → Nat → Int) (x y : Int) : apC T [3, x, y] g = apCS x y g := by unfold apC; simp
theorem apC_4 (T : Int → Int) (g : Nat → Nat → Int) (x y : Int) : apC T [4, x, y] g = apCV x y g := by unfold apC; simp
/-- nothing but the text's own, the draft and what is tried out -/
def eqc (g g' : Nat → Nat → Int) : Prop := ∀ c j, ¬ (22 ≤ c ∧ c ≤ 33) → g' c j = g c j
theorem eqc_refl (g : Nat → Nat → Int) : eqc g g := fun _ _ _ => rfl
theorem eqc_tr {g g' g'' : Nat → Nat → Int} (h : eqc g g') (h2 : eqc g' g'') : eqc g g'' := fun c j a => (h2 c j a).trans (h c j a)
theorem eqc_fu (g : Nat → Nat → Int) (c j : Nat) (z : Int) (h : 22 ≤ c ∧ c ≤ 33) : eqc g (fu g c j z) := fun c' j' a => fu_ne (fun t => a (by omega))
theorem eqc_at (T : Int → Int) (E : Int) (g : Nat → Nat → Int) (f : Int) : eqc g (cAt T E g f) := eqc_tr (eqc_fu _ _ _ _ (by decide)) (eqc_fu _ _ _ _ (by decide))
theorem cSt_fu {T : Int → Int} {E : Int} {g : Nat → Nat → Int} {f z : Int} {c j : Nat} (h : cSt T E g f) (h1 : c ≠ 2) (h2 : c ≠ 28) : cSt T E (fu g c j z) f := ⟨CT_fu h.1 h1 (fun t => h2 t.1.symm), by rw [fu_nc (Ne.symm h2)]; exact h.2.1, by rw [fu_nc (Ne.symm h2)]; exact h.2.2.1, h.2.2.2⟩
theorem cSt_w {T : Int → Int} {E : Int} {g : Nat → Nat → Int} {f z : Int} (h : cSt T E g f) : cSt T E (fu g 28 1 z) f := ⟨CT_fu h.1 (by decide) (by decide), by rw [fu_nj (by decide)]; exact h.2.1, by rw [fu_nj (by decide)]; exact h.2.2.1, h.2.2.2⟩
theorem cAt_fu {T : Int → Int} {E : Int} {g : Nat → Nat → Int} {f z : Int} {c j : Nat} (h : c ≠ 28) : cAt T E (fu g c j z) f = fu (cAt T E g f) c j z := by
  unfold cAt
  rw [fu_sw _ _ _ (fun t => h t.1), fu_sw _ _ _ (fun t => h t.1)]
section FXT
variable {W : ax_W} {r : Nat} {g : Nat → Nat → Int} {Q : Nat → Nat → (Nat → Nat → Int) → Prop} {T : Int → Int} {E : Int} {s : Nat} {f : Int}
theorem sp_takeTold_f {lo hi df : Int} (hs : f_sk s) (hw : g 28 1 ≠ -1) (kq : Q 1 (fI df) g) : fx W r 6 95 0 [226, s, fI lo, fI hi, fI df] [] g Q := by
  refine fx_rg (fun hg => ?_)
  refine fx_la 0 1 (v := 226) (by decide +kernel) rfl (by decide +kernel) ?_
  refine fx_gi 226 28 1 4 (by decide +kernel) ?_
  refine fx_ci (-1) 5 (by decide +kernel) ?_
  refine fx_ine 25 8 (by decide +kernel) (by first | exact hg 28 1 (by decide) (by decide +kernel) (by decide +kernel) | (unfold fR; omega)) (by unfold fR; omega) (fun h5 => ?_) (fun h5 => ?_)
  · refine fx_li 4 27 (by decide +kernel) rfl ?_
    refine fx_ret (by decide +kernel) ?_
    exact kq
  · refine fx_la 0 9 (v := 226) (by decide +kernel) rfl (by decide +kernel) ?_
    refine fx_la 1 10 (v := s) (by decide +kernel) rfl (f_sty hs) ?_
    refine fx_c2 78 21 13 5 [] (by decide +kernel) (by decide) (by decide) (f_s4 hs) rfl (by first | decide | omega) ?_
    exact absurd h5 hw
theorem sp_takeTold {lo hi df : Int} (ws : List Nat) (hsw : f_swb s ws = true) (hsl : f_lw ws = true) (h : cSt T E g f) (hw : g 28 1 = -1) (hlo : fR lo) (hhi : fR hi) (hdf : fR df)
    (k1 : ∀ f' v, pOpt T E ws lo hi df f = Sum.inr (f', v) → Q 1 (fI v) (cAt T E g f'))
    (k2 : ∀ q, pOpt T E ws lo hi df f = Sum.inl q → ∀ v, v = -1 → Q 1 (fI v) (fu (cAt T E g q) 28 1 q)) : fx W r 6 95 0 [226, s, fI lo, fI hi, fI df] [] g Q := by
  have hs := (f_sw hsw).1
  refine fx_rg (fun hg => ?_)
  unfold pOpt at k1 k2
  refine fx_la 0 1 (v := 226) (by decide +kernel) rfl (by decide +kernel) ?_
  refine fx_gi 226 28 1 4 (by decide +kernel) ?_
  refine fx_ci (-1) 5 (by decide +kernel) ?_
  refine fx_ine 25 8 (by decide +kernel) (by first | exact hg 28 1 (by decide) (by decide +kernel) (by decide +kernel) | (unfold fR; omega)) (by unfold fR; omega) (fun h5 => ?_) (fun h5 => ?_)
  · refine fx_li 4 27 (by decide +kernel) rfl ?_
    refine fx_ret (by decide +kernel) ?_
    exact absurd hw h5
  · refine fx_la 0 9 (v := 226) (by decide +kernel) rfl (by decide +kernel) ?_
    refine fx_la 1 10 (v := s) (by decide +kernel) rfl (f_sty hs) ?_
    refine fx_c2 78 21 13 5 [] (by decide +kernel) (by decide) (by decide) (f_s4 hs) rfl (by first | decide | omega) ?_
    refine sp_takesWord ws hsw hsl h (fun b => fK1 ?_) (fun b => fK1 ?_)
    · refine fx_zeq 25 16 (by decide +kernel) (by unfold fR; omega) (fun hc => absurd hc (by decide)) (fun _ => ?_)
      refine fx_la 0 17 (v := 226) (by decide +kernel) rfl (by decide +kernel) ?_
      refine fx_li 2 18 (by decide +kernel) rfl ?_
      refine fx_li 3 19 (by decide +kernel) rfl ?_
      refine fx_c3 93 21 22 1 [7, 7, 7] (by decide +kernel) (by decide) (by decide) (fI_n4 _) (fI_n4 _) rfl (by first | decide | omega) ?_
      refine sp_takeNumber (cSt_at h.1 (pOk_we h.2.2.2)) hlo hhi (fun p => fK1 ?_) (fun p v hv => fK1 ?_)
      · rw [cAt_at]
        refine fx_go 27 (by decide +kernel) ?_
        refine fx_ret (by decide +kernel) ?_
        exact k1 _ _ (by rw [cif_t b, cif_t p])
      · refine fx_go 27 (by decide +kernel) ?_
        refine fx_ret (by decide +kernel) ?_
        exact k2 _ (by rw [cif_t b, cif_f p]) v hv
    · refine fx_zeq 25 16 (by decide +kernel) (by unfold fR; omega) (fun _ => ?_) (fun hc => absurd hc (by decide))
      refine fx_li 4 27 (by decide +kernel) rfl ?_
      refine fx_ret (by decide +kernel) ?_
      have := k1 f df (by rw [cif_f b])
      rw [cAt_self h] at this
      exact this
theorem sp_takeOther {one many : Int} (h : cSt T E g f) (h1 : 0 ≤ one) (h1b : one ≤ 100) (hm0 : 0 ≤ many) (hm1 : many ≤ 100) (k1 : pN T E 0 (many - 1) f ∧ pNu T E f ≠ one → Q 1 (fI (pNu T E f)) (cAt T E g (pSk T E (pDg T E f)))) (k2 : ¬ (pN T E 0 (many - 1) f ∧ pNu T E f ≠ one) → ∀ g' v, v = -1 → eqc g g' → g' 28 1 = f → Q 1 (fI v) g') : fx W r 2 99 0 [226, fI one, fI many, 7, 7] [] g Q := by
  have f0 := h.2.2.2.1
  have f1 := h.2.2.2.2.1
  have a3 := h.1.2.2.1
  refine fx_rg (fun hg => ?_)
  refine fx_la 0 1 (v := 226) (by decide +kernel) rfl (by decide +kernel) ?_
  refine fx_gi 226 28 2 4 (by decide +kernel) ?_
  rw [h.2.1]
  refine fx_si 3 5 (by decide +kernel) (Or.inr (fI_n4 _)) rfl ?_
  dsimp only [List.set]
  refine fx_la 0 6 (v := 226) (by decide +kernel) rfl (by decide +kernel) ?_
  refine fx_ci (0) 7 (by decide +kernel) ?_
  refine fx_li 2 8 (by decide +kernel) rfl ?_
  refine fx_ci (1) 9 (by decide +kernel) ?_
  refine fx_sub 10 (by decide +kernel) rfl ?_
  refine fx_c3 93 21 13 1 [7, 7, 7] (by decide +kernel) (by decide) (by decide) (fI_n4 _) (fI_n4 _) rfl (by first | decide | omega) ?_
  refine sp_takeNumber h (by unfold fR; omega) (by unfold fR; omega) (fun p => fK1 ?_) (fun p v hv => fK1 ?_)
  · have pn : _ ≤ pNu T E f ∧ pNu T E f ≤ _ := p.2.2
    refine fx_si 4 15 (by decide +kernel) (Or.inr (fI_n4 _)) rfl ?_
    dsimp only [List.set]
    refine fx_li 4 17 (by decide +kernel) rfl ?_
    refine fx_li 1 18 (by decide +kernel) rfl ?_
    refine fx_ine 28 21 (by decide +kernel) (by unfold fR; omega) (by unfold fR; omega) (fun h18 => ?_) (fun h18 => ?_)
    · refine fx_li 4 30 (by decide +kernel) rfl ?_
      refine fx_ret (by decide +kernel) ?_
      exact k1 ⟨p, by omega⟩
    · refine fx_la 0 22 (v := 226) (by decide +kernel) rfl (by decide +kernel) ?_
      refine fx_li 3 23 (by decide +kernel) rfl ?_
      refine fx_pi 226 28 1 26 (by decide +kernel) (by first | exact hg 28 2 (by decide) (by decide +kernel) (by decide +kernel) | (unfold fR; omega)) ?_
      refine fx_ci (-1) 27 (by decide +kernel) ?_
      refine fx_ret (by decide +kernel) ?_
      exact k2 (fun t => t.2 (by omega)) _ _ rfl (eqc_tr (eqc_at _ _ _ _) (eqc_fu _ _ _ _ (by decide))) (fu_eq _ _ _ _)
  · refine fx_si 4 15 (by decide +kernel) (Or.inr (fI_n4 _)) rfl ?_
    dsimp only [List.set]
    refine fx_li 4 17 (by decide +kernel) rfl ?_
    refine fx_li 1 18 (by decide +kernel) rfl ?_
    refine fx_ine 28 21 (by decide +kernel) (by unfold fR; omega) (by unfold fR; omega) (fun h18 => ?_) (fun h18 => ?_)
    · refine fx_li 4 30 (by decide +kernel) rfl ?_
      refine fx_ret (by decide +kernel) ?_
      exact k2 (fun t => p t.1) _ v hv (eqc_fu _ _ _ _ (by decide)) (fu_eq _ _ _ _)
    · exfalso; omega
theorem sp_settle {p pl v : Int} (hp0 : 0 ≤ p) (hp1 : p ≤ 7) (h1 : fR pl) (h2 : fR v) (kq : Q 0 0 (fu (fu (fu (fu g 23 p.toNat pl) 24 p.toNat v) 25 p.toNat (-1)) 26 p.toNat 0)) : fx W r 0 96 0 [178, fI p, fI pl, fI v] [] g Q := by
  unfold fR at h1 h2
  refine fx_la 0 1 (v := 178) (by decide +kernel) rfl (by decide +kernel) ?_
  refine fx_gp 178 22 0 186 4 (by decide +kernel) ?_
  refine fx_li 1 5 (by decide +kernel) rfl ?_
  refine fx_li 2 6 (by decide +kernel) rfl ?_
  refine fx_as 186 23 8 7 (by decide +kernel) rfl (by omega) (by omega) rfl (by unfold fR; omega) ?_
  refine fx_la 0 8 (v := 178) (by decide +kernel) rfl (by decide +kernel) ?_
  refine fx_gp 178 22 1 194 11 (by decide +kernel) ?_
  refine fx_li 1 12 (by decide +kernel) rfl ?_
  refine fx_li 3 13 (by decide +kernel) rfl ?_
  refine fx_as 194 24 8 14 (by decide +kernel) rfl (by omega) (by omega) rfl (by unfold fR; omega) ?_
  refine fx_la 0 15 (v := 178) (by decide +kernel) rfl (by decide +kernel) ?_
  refine fx_gp 178 22 2 202 18 (by decide +kernel) ?_
  refine fx_li 1 19 (by decide +kernel) rfl ?_
  refine fx_ci (-1) 20 (by decide +kernel) ?_
  refine fx_as 202 25 8 21 (by decide +kernel) rfl (by omega) (by omega) rfl (by unfold fR; omega) ?_
  refine fx_la 0 22 (v := 178) (by decide +kernel) rfl (by decide +kernel) ?_
  refine fx_gp 178 22 3 210 25 (by decide +kernel) ?_
  refine fx_li 1 26 (by decide +kernel) rfl ?_
  refine fx_ci (0) 27 (by decide +kernel) ?_
  refine fx_as 210 26 8 28 (by decide +kernel) rfl (by omega) (by omega) rfl (by unfold fR; omega) ?_
  refine fx_vret (by decide +kernel) ?_
  exact kq
theorem sp_rp_F {w pl v l : Int} (hw : g 28 1 ≠ -1) (kq : Q 1 (fI 0) g) : fx W r 7 91 59 [226, fI w, fI pl, fI v, fI l, 7] [] g Q := by
  refine fx_rg (fun hg => ?_)
  refine fx_la 0 60 (v := 226) (by decide +kernel) rfl (by decide +kernel) ?_
  refine fx_gp 226 28 5 234 63 (by decide +kernel) ?_
  refine fx_gi 234 29 4 66 (by decide +kernel) ?_
  refine fx_si 5 68 (by decide +kernel) (Or.inr (fI_n4 _)) rfl ?_
  dsimp only [List.set]
  refine fx_la 0 69 (v := 226) (by decide +kernel) rfl (by decide +kernel) ?_
  refine fx_gi 226 28 1 72 (by decide +kernel) ?_
  refine fx_ci (-1) 73 (by decide +kernel) ?_
  refine fx_ine 83 76 (by decide +kernel) (by first | exact hg 28 1 (by decide) (by decide +kernel) (by decide +kernel) | (unfold fR; omega)) (by unfold fR; omega) (fun h73 => ?_) (fun h73 => ?_)
  · refine fx_ci (0) 84 (by decide +kernel) ?_
    refine fx_retb (by decide +kernel) (by first | exact Or.inl rfl | exact Or.inr rfl | omega) ?_
    exact kq
  · exact absurd h73 hw
theorem sp_rp_D {w pl v l : Int} (hw : g 28 1 = -1) (hp0 : 0 ≤ g 29 4) (hp1 : g 29 4 ≤ 7) (r1 : fR w) (r2 : fR pl) (r3 : fR v) (r4 : fR l) (kq : Q 1 (fI 1) (apCP g w pl v l)) : fx W r 7 91 59 [226, fI w, fI pl, fI v, fI l, 7] [] g Q := by
  refine fx_rg (fun hg => ?_)
  unfold fR at r1 r4
  refine fx_la 0 60 (v := 226) (by decide +kernel) rfl (by decide +kernel) ?_
  refine fx_gp 226 28 5 234 63 (by decide +kernel) ?_
  refine fx_gi 234 29 4 66 (by decide +kernel) ?_
  refine fx_si 5 68 (by decide +kernel) (Or.inr (fI_n4 _)) rfl ?_
  dsimp only [List.set]
  refine fx_la 0 69 (v := 226) (by decide +kernel) rfl (by decide +kernel) ?_
  refine fx_gi 226 28 1 72 (by decide +kernel) ?_
  refine fx_ci (-1) 73 (by decide +kernel) ?_
  refine fx_ine 83 76 (by decide +kernel) (by first | exact hg 28 1 (by decide) (by decide +kernel) (by decide +kernel) | (unfold fR; omega)) (by unfold fR; omega) (fun h73 => ?_) (fun h73 => ?_)
  · refine fx_ci (0) 84 (by decide +kernel) ?_
    refine fx_retb (by decide +kernel) (by first | exact Or.inl rfl | exact Or.inr rfl | omega) ?_
    first | exact absurd hw h73 | (exfalso; omega)
  · refine fx_li 5 78 (by decide +kernel) rfl ?_
    refine fx_ci (8) 80 (by decide +kernel) ?_
    refine fx_ilt 85 83 (by decide +kernel) (by first | exact hg 29 4 (by decide) (by decide +kernel) (by decide +kernel) | (unfold fR; omega)) (by unfold fR; omega) (fun h80 => ?_) (fun h80 => ?_)
    · refine fx_la 0 86 (v := 226) (by decide +kernel) rfl (by decide +kernel) ?_
      refine fx_gp 226 28 5 234 89 (by decide +kernel) ?_
      refine fx_gp 234 29 0 242 92 (by decide +kernel) ?_
      refine fx_li 5 94 (by decide +kernel) rfl ?_
      refine fx_li 1 95 (by decide +kernel) rfl ?_
      refine fx_as 242 30 8 96 (by decide +kernel) rfl (by omega) (by omega) rfl (by unfold fR; omega) ?_
      refine fx_la 0 97 (v := 226) (by decide +kernel) rfl (by decide +kernel) ?_
      refine fx_gp 226 28 5 234 100 (by decide +kernel) ?_
      refine fx_gp 234 29 1 250 103 (by decide +kernel) ?_
      refine fx_li 5 105 (by decide +kernel) rfl ?_
      refine fx_li 4 107 (by decide +kernel) rfl ?_
      refine fx_as 250 31 8 108 (by decide +kernel) rfl (by omega) (by omega) rfl (by unfold fR; omega) ?_
      refine fx_la 0 109 (v := 226) (by decide +kernel) rfl (by decide +kernel) ?_
      refine fx_gp 226 28 5 234 112 (by decide +kernel) ?_
      refine fx_dup 113 (by decide +kernel) rfl (by decide) ?_
      refine fx_gi 234 29 4 116 (by decide +kernel) ?_
      try simp only [fu_app, fcy_app, Nat.reduceEqDiff, and_true, and_false, false_and, true_and, if_true, if_false, ite_true, ite_false, reduceIte, Int.reduceToNat, fx_simp0]
      refine fx_ci (1) 117 (by decide +kernel) ?_
      refine fx_add 118 (by decide +kernel) rfl ?_
      refine fx_pi 234 29 4 121 (by decide +kernel) (by unfold fR; omega) ?_
      refine fx_la 0 122 (v := 226) (by decide +kernel) rfl (by decide +kernel) ?_
      refine fx_gp 226 28 6 178 125 (by decide +kernel) ?_
      refine fx_li 5 127 (by decide +kernel) rfl ?_
      refine fx_li 2 128 (by decide +kernel) rfl ?_
      refine fx_li 3 129 (by decide +kernel) rfl ?_
      refine fx_c4 96 21 132 0 [] (by decide +kernel) (by decide) (by decide) (fI_n4 _) (fI_n4 _) (fI_n4 _) rfl (by first | decide | omega) ?_
      refine sp_settle hp0 hp1 r2 r3 (fK0 ?_)
      refine fx_ci (1) 133 (by decide +kernel) ?_
      refine fx_retb (by decide +kernel) (by first | exact Or.inl rfl | exact Or.inr rfl | omega) ?_
      exact kq
    · refine fx_ci (0) 84 (by decide +kernel) ?_
      refine fx_retb (by decide +kernel) (by first | exact Or.inl rfl | exact Or.inr rfl | omega) ?_
      first | exact absurd hw h73 | (exfalso; omega)
theorem sp_readPerson (h : cSt T E g f) (hw : g 28 1 = -1) (hp0 : 0 ≤ g 29 4) (hp1 : g 29 4 ≤ 7)
    (kq : ∀ f' w pl v l, pPerson T E f = Sum.inr (f', [0, w, pl, v, l]) → Q 1 (fI 1) (apCP (cAt T E g f') w pl v l))
    (kf : ∀ q, pPerson T E f = Sum.inl q → ∀ g', eqc g g' → g' 28 1 = q → Q 1 (fI 0) g') : fx W r 7 91 0 [226, 7, 7, 7, 7, 7] [] g Q := by
  have f0 := h.2.2.2.1
  have f1 := h.2.2.2.2.1
  have a3 := h.1.2.2.1
  have hA : ∀ f', pOk T E f' → cSt T E (cAt T E g f') f' := fun f' t => cSt_at h.1 t
  have hW : ∀ f', cAt T E g f' 28 1 = -1 := fun f' => by unfold cAt; rw [fu_nj (by decide), fu_nj (by decide)]; exact hw
  have hP : ∀ f', cAt T E g f' 29 4 = g 29 4 := fun f' => by unfold cAt; rw [fu_nc (by decide), fu_nc (by decide)]
  have h0w := pOk_we h.2.2.2
  have h0d := pOk_dg h0w
  have b0 := h0w.1
  have b1 := h0w.2.1
  refine fx_la 0 1 (v := 226) (by decide +kernel) rfl (by decide +kernel) ?_
  refine fx_lds 29 3 (by decide +kernel) ?_
  refine fx_c2 78 21 6 5 [] (by decide +kernel) (by decide) (by decide) (by decide) rfl (by first | decide | omega) ?_
  refine sp_takesWord [119, 101, 105, 103, 104, 116] (by decide +kernel) (by decide +kernel) h (fun p1 => fK1 ?_) (fun p1 => fK1 ?_)
  · refine fx_zne 18 9 (by decide +kernel) (by unfold fR; omega) (fun _ => ?_) (fun hc => absurd hc (by decide))
    refine fx_la 0 19 (v := 226) (by decide +kernel) rfl (by decide +kernel) ?_
    refine fx_ci (1) 20 (by decide +kernel) ?_
    refine fx_ci (99) 22 (by decide +kernel) ?_
    refine fx_c3 93 21 25 1 [7, 7, 7] (by decide +kernel) (by decide) (by decide) (fI_n4 _) (fI_n4 _) rfl (by first | decide | omega) ?_
    refine sp_takeNumber (hA _ h0w) (by unfold fR; omega) (by unfold fR; omega) (fun p2 => fK1 ?_) (fun p2 x1 hx1 => fK1 ?_)
    · rw [cAt_at]
      have nw : _ ≤ pNu T E (pSk T E (pWe T E f)) ∧ pNu T E (pSk T E (pWe T E f)) ≤ _ := p2.2.2
      have e0 : pPerson T E f = bS (pOpt T E [97, 116] 0 7 (-1) (pSk T E (pDg T E (pSk T E (pWe T E f))))) (fun a => bS (pOpt T E [118, 111, 116, 101] 0 20 1 a.1) (fun b => bS (pOpt T E [108, 101, 103, 115] 3 4 4 b.1) (fun c => Sum.inr (c.1, [0, pNu T E (pSk T E (pWe T E f)), a.2, b.2, c.2])))) := by
        unfold pPerson
        rw [cif_t p1, cif_t p2]
      refine fx_si 1 26 (by decide +kernel) (Or.inr (f_n4p (v := 226) rfl (by decide))) rfl ?_
      dsimp only [List.set]
      refine fx_la 0 27 (v := 226) (by decide +kernel) rfl (by decide +kernel) ?_
      refine fx_lds 37 29 (by decide +kernel) ?_
      refine fx_ci (0) 30 (by decide +kernel) ?_
      refine fx_ci (7) 32 (by decide +kernel) ?_
      refine fx_cn (-1) 33 (by decide +kernel) (fun v32 c32 => ?_)
      refine fx_c5 95 21 36 6 [] (by decide +kernel) (by decide) (by decide) (by decide) (fI_n4 _) (fI_n4 _) (fI_n4 _) rfl (by first | decide | omega) ?_
      refine sp_takeTold [97, 116] (by decide +kernel) (by decide +kernel) (hA _ h0d) (hW _) (by unfold fR; omega) (by unfold fR; omega) (by unfold fR; omega) (fun f1' pl o1 => fK1 ?_) (fun q o1 x1 hx1 => fK1 ?_)
      · rw [c32] at o1
        rw [cAt_at]
        obtain ⟨k1, r1⟩ := pOpt_ok o1 h0d
        refine fx_si 2 37 (by decide +kernel) (Or.inr (fI_n4 _)) rfl ?_
        dsimp only [List.set]
        refine fx_la 0 38 (v := 226) (by decide +kernel) rfl (by decide +kernel) ?_
        refine fx_lds 45 40 (by decide +kernel) ?_
        refine fx_ci (0) 41 (by decide +kernel) ?_
        refine fx_ci (20) 43 (by decide +kernel) ?_
        refine fx_ci (1) 44 (by decide +kernel) ?_
        refine fx_c5 95 21 47 6 [] (by decide +kernel) (by decide) (by decide) (by decide) (fI_n4 _) (fI_n4 _) (fI_n4 _) rfl (by first | decide | omega) ?_
        refine sp_takeTold [118, 111, 116, 101] (by decide +kernel) (by decide +kernel) (hA _ k1) (hW _) (by unfold fR; omega) (by unfold fR; omega) (by unfold fR; omega) (fun f2' v o2 => fK1 ?_) (fun q o2 x1 hx1 => fK1 ?_)
        · rw [cAt_at]
          obtain ⟨k2, r2⟩ := pOpt_ok o2 k1
          refine fx_si 3 48 (by decide +kernel) (Or.inr (fI_n4 _)) rfl ?_
          dsimp only [List.set]
          refine fx_la 0 49 (v := 226) (by decide +kernel) rfl (by decide +kernel) ?_
          refine fx_lds 53 51 (by decide +kernel) ?_
          refine fx_ci (3) 52 (by decide +kernel) ?_
          refine fx_ci (4) 53 (by decide +kernel) ?_
          refine fx_ci (4) 54 (by decide +kernel) ?_
          refine fx_c5 95 21 57 6 [] (by decide +kernel) (by decide) (by decide) (by decide) (fI_n4 _) (fI_n4 _) (fI_n4 _) rfl (by first | decide | omega) ?_
          refine sp_takeTold [108, 101, 103, 115] (by decide +kernel) (by decide +kernel) (hA _ k2) (hW _) (by unfold fR; omega) (by unfold fR; omega) (by unfold fR; omega) (fun f3' l o3 => fK1 ?_) (fun q o3 x1 hx1 => fK1 ?_)
          · rw [cAt_at]
            obtain ⟨k3, r3⟩ := pOpt_ok o3 k2
            refine fx_si 4 59 (by decide +kernel) (Or.inr (fI_n4 _)) rfl ?_
            dsimp only [List.set]
            refine sp_rp_D (hW _) (by rw [hP]; exact hp0) (by rw [hP]; exact hp1) (by unfold fR; omega) (by unfold fR; omega) (by unfold fR; omega) (by unfold fR; omega) ?_
            exact kq f3' _ pl v l (by rw [e0, o1]; show bS (pOpt T E _ 0 20 1 f1') _ = _; rw [o2]; show bS (pOpt T E _ 3 4 4 f2') _ = _; rw [o3]; rfl)
          · rw [cAt_at]
            have qb := pOpt_bad o3 k2
            refine fx_si 4 59 (by decide +kernel) (Or.inr (fI_n4 _)) rfl ?_
            dsimp only [List.set]
            exact sp_rp_F (by rw [fu_eq]; omega) (kf q (by rw [e0, o1]; show bS (pOpt T E _ 0 20 1 f1') _ = _; rw [o2]; show bS (pOpt T E _ 3 4 4 f2') _ = _; rw [o3]; rfl) _ (eqc_tr (eqc_at _ _ _ _) (eqc_fu _ _ _ _ (by decide))) (fu_eq _ _ _ _))
        · rw [cAt_at]
          have qb := pOpt_bad o2 k1
          refine fx_si 3 48 (by decide +kernel) (Or.inr (fI_n4 _)) rfl ?_
          dsimp only [List.set]
          refine fx_la 0 49 (v := 226) (by decide +kernel) rfl (by decide +kernel) ?_
          refine fx_lds 53 51 (by decide +kernel) ?_
          refine fx_ci (3) 52 (by decide +kernel) ?_
          refine fx_ci (4) 53 (by decide +kernel) ?_
          refine fx_ci (4) 54 (by decide +kernel) ?_
          refine fx_c5 95 21 57 6 [] (by decide +kernel) (by decide) (by decide) (by decide) (fI_n4 _) (fI_n4 _) (fI_n4 _) rfl (by first | decide | omega) ?_
          refine sp_takeTold_f (f_sw (ws := [108, 101, 103, 115]) (by decide +kernel)).1 (by rw [fu_eq]; omega) (fK1 ?_)
          refine fx_si 4 59 (by decide +kernel) (Or.inr (fI_n4 _)) rfl ?_
          dsimp only [List.set]
          exact sp_rp_F (by rw [fu_eq]; omega) (kf q (by rw [e0, o1]; show bS (pOpt T E _ 0 20 1 f1') _ = _; rw [o2]; rfl) _ (eqc_tr (eqc_at _ _ _ _) (eqc_fu _ _ _ _ (by decide))) (fu_eq _ _ _ _))
      · rw [c32] at o1
        rw [cAt_at]
        have qb := pOpt_bad o1 h0d
        refine fx_si 2 37 (by decide +kernel) (Or.inr (fI_n4 _)) rfl ?_
        dsimp only [List.set]
        refine fx_la 0 38 (v := 226) (by decide +kernel) rfl (by decide +kernel) ?_
        refine fx_lds 45 40 (by decide +kernel) ?_
        refine fx_ci (0) 41 (by decide +kernel) ?_
        refine fx_ci (20) 43 (by decide +kernel) ?_
        refine fx_ci (1) 44 (by decide +kernel) ?_
        refine fx_c5 95 21 47 6 [] (by decide +kernel) (by decide) (by decide) (by decide) (fI_n4 _) (fI_n4 _) (fI_n4 _) rfl (by first | decide | omega) ?_
        refine sp_takeTold_f (f_sw (ws := [118, 111, 116, 101]) (by decide +kernel)).1 (by rw [fu_eq]; omega) (fK1 ?_)
        refine fx_si 3 48 (by decide +kernel) (Or.inr (fI_n4 _)) rfl ?_
        dsimp only [List.set]
        refine fx_la 0 49 (v := 226) (by decide +kernel) rfl (by decide +kernel) ?_
        refine fx_lds 53 51 (by decide +kernel) ?_
        refine fx_ci (3) 52 (by decide +kernel) ?_
        refine fx_ci (4) 53 (by decide +kernel) ?_
        refine fx_ci (4) 54 (by decide +kernel) ?_
        refine fx_c5 95 21 57 6 [] (by decide +kernel) (by decide) (by decide) (by decide) (fI_n4 _) (fI_n4 _) (fI_n4 _) rfl (by first | decide | omega) ?_
        refine sp_takeTold_f (f_sw (ws := [108, 101, 103, 115]) (by decide +kernel)).1 (by rw [fu_eq]; omega) (fK1 ?_)
        refine fx_si 4 59 (by decide +kernel) (Or.inr (fI_n4 _)) rfl ?_
        dsimp only [List.set]
        exact sp_rp_F (by rw [fu_eq]; omega) (kf q (by rw [e0, o1]; rfl) _ (eqc_tr (eqc_at _ _ _ _) (eqc_fu _ _ _ _ (by decide))) (fu_eq _ _ _ _))
    · refine fx_si 1 26 (by decide +kernel) (Or.inr (f_n4p (v := 226) rfl (by decide))) rfl ?_
      dsimp only [List.set]
      refine fx_la 0 27 (v := 226) (by decide +kernel) rfl (by decide +kernel) ?_
      refine fx_lds 37 29 (by decide +kernel) ?_
      refine fx_ci (0) 30 (by decide +kernel) ?_
      refine fx_ci (7) 32 (by decide +kernel) ?_
      refine fx_cn (-1) 33 (by decide +kernel) (fun v32 c32 => ?_)
      refine fx_c5 95 21 36 6 [] (by decide +kernel) (by decide) (by decide) (by decide) (fI_n4 _) (fI_n4 _) (fI_n4 _) rfl (by first | decide | omega) ?_
      refine sp_takeTold_f (f_sw (ws := [97, 116]) (by decide +kernel)).1 (by rw [fu_eq]; omega) (fK1 ?_)
      refine fx_si 2 37 (by decide +kernel) (Or.inr (fI_n4 _)) rfl ?_
      dsimp only [List.set]
      refine fx_la 0 38 (v := 226) (by decide +kernel) rfl (by decide +kernel) ?_
      refine fx_lds 45 40 (by decide +kernel) ?_
      refine fx_ci (0) 41 (by decide +kernel) ?_
      refine fx_ci (20) 43 (by decide +kernel) ?_
      refine fx_ci (1) 44 (by decide +kernel) ?_
      refine fx_c5 95 21 47 6 [] (by decide +kernel) (by decide) (by decide) (by decide) (fI_n4 _) (fI_n4 _) (fI_n4 _) rfl (by first | decide | omega) ?_
      refine sp_takeTold_f (f_sw (ws := [118, 111, 116, 101]) (by decide +kernel)).1 (by rw [fu_eq]; omega) (fK1 ?_)
      refine fx_si 3 48 (by decide +kernel) (Or.inr (fI_n4 _)) rfl ?_
      dsimp only [List.set]
      refine fx_la 0 49 (v := 226) (by decide +kernel) rfl (by decide +kernel) ?_
      refine fx_lds 53 51 (by decide +kernel) ?_
      refine fx_ci (3) 52 (by decide +kernel) ?_
      refine fx_ci (4) 53 (by decide +kernel) ?_
      refine fx_ci (4) 54 (by decide +kernel) ?_
      refine fx_c5 95 21 57 6 [] (by decide +kernel) (by decide) (by decide) (by decide) (fI_n4 _) (fI_n4 _) (fI_n4 _) rfl (by first | decide | omega) ?_
      refine sp_takeTold_f (f_sw (ws := [108, 101, 103, 115]) (by decide +kernel)).1 (by rw [fu_eq]; omega) (fK1 ?_)
      refine fx_si 4 59 (by decide +kernel) (Or.inr (fI_n4 _)) rfl ?_
      dsimp only [List.set]
      exact sp_rp_F (by rw [fu_eq]; omega) (kf _ (by unfold pPerson; rw [cif_t p1, cif_f p2]) _ (eqc_tr (eqc_at _ _ _ _) (eqc_fu _ _ _ _ (by decide))) (fu_eq _ _ _ _))
  · refine fx_zne 18 9 (by decide +kernel) (by unfold fR; omega) (fun hc => absurd hc (by decide)) (fun _ => ?_)
    refine fx_la 0 10 (v := 226) (by decide +kernel) rfl (by decide +kernel) ?_
    refine fx_la 0 11 (v := 226) (by decide +kernel) rfl (by decide +kernel) ?_
    refine fx_gi 226 28 2 14 (by decide +kernel) ?_
    try simp only [fu_app, fcy_app, Nat.reduceEqDiff, and_true, and_false, false_and, true_and, if_true, if_false, ite_true, ite_false, reduceIte, Int.reduceToNat, fx_simp0]
    rw [h.2.1]
    refine fx_c2 92 21 17 0 [] (by decide +kernel) (by decide) (by decide) (fI_n4 _) rfl (by first | decide | omega) ?_
    refine sp_wrongAt (by unfold fR; omega) (fK1 ?_)
    refine fx_retb (by decide +kernel) (by first | exact Or.inl rfl | exact Or.inr rfl | omega) ?_
    exact kf f (by unfold pPerson; rw [cif_f p1]) _ (eqc_fu _ _ _ _ (by decide)) (fu_eq _ _ _ _)
end FXT
end
section
/-! fx: dishes, roads, promises, numbers told in the class; a line -/
theorem dshC_ne {T : Int → Int} {f d : Int} {g : Nat → Nat → Int} {c j : Nat} (h : c ≠ 32) : ∀ k : Nat, dshC T f d k g c j = g c j
  | 0 => rfl
  | k + 1 => by
    show fu (dshC T f d k g) 32 (d * 8 + k).toNat _ c j = _
    rw [fu_nc h, dshC_ne h k]
theorem dshC_fu {T : Int → Int} {f d z : Int} {g : Nat → Nat → Int} {c j : Nat} (h : c ≠ 32) : ∀ k : Nat, fu (dshC T f d k g) c j z = dshC T f d k (fu g c j z)
  | 0 => rfl
  | k + 1 => by
    show fu (fu (dshC T f d k g) 32 (d * 8 + k).toNat _) c j z = fu (dshC T f d k (fu g c j z)) 32 (d * 8 + k).toNat _
    rw [← dshC_fu h k, fu_sw _ _ _ (fun t => h t.1.symm)]
theorem cSt_dsh {T : Int → Int} {E f d : Int} {g : Nat → Nat → Int} (h : cSt T E g f) (k : Nat) : cSt T E (dshC T f d k g) f := by
  induction k with
  | zero => exact h
  | succ k ih => exact cSt_fu ih (by decide) (by decide)
theorem cAt_dsh {T : Int → Int} {E f d f' : Int} {g : Nat → Nat → Int} (k : Nat) : cAt T E (dshC T f d k g) f' = dshC T f d k (cAt T E g f') := by
  unfold cAt
  rw [dshC_fu (by decide), dshC_fu (by decide)]
theorem pWd_uniq {T : Int → Int} {E f : Int} {ws ws' : List Nat} (h : pWd T E ws f) (h' : pWd T E ws' f) : ws = ws' := by
  have hl : ws.length = ws'.length := by have := h.1; have := h'.1; omega
  refine List.ext_getElem hl (fun k k1 k2 => ?_)
  have e1 := h.2 k k1
  have e2 := h'.2 k k2
  rw [List.getD_eq_getElem?_getD, List.getElem?_eq_getElem k1] at e1
  rw [List.getD_eq_getElem?_getD, List.getElem?_eq_getElem k2] at e2
  have e1 : T (f + k) = (ws[k] : Int) := e1
  have e2 : T (f + k) = (ws'[k] : Int) := e2
  omega
section FXU
variable {W : ax_W} {r : Nat} {g : Nat → Nat → Int} {Q : Nat → Nat → (Nat → Nat → Int) → Prop} {T : Int → Int} {E : Int} {f : Int}
theorem sp_rd_dish (h : cSt T E g f) (hE : f + 8 ≤ E) (hd0 : 0 ≤ g 29 5) (hd1 : g 29 5 ≤ 5) (kq : fx W r 1 97 69 [226, fI 8] [] (dshC T f (g 29 5) 8 g) Q) :
    ∀ (n k : Nat), k + n = 8 → fx W r 1 97 20 [226, fI (k : Int)] [] (dshC T f (g 29 5) k g) Q
  | n, k, hn => by
    have h' := cSt_dsh (d := g 29 5) h k
    have a3 := h.1.2.2.1
    have f0 := h.2.2.2.1
    have e5 : dshC T f (g 29 5) k g 29 5 = g 29 5 := dshC_ne (by decide) k
    refine fx_li 1 21 (by decide +kernel) rfl ?_
    refine fx_ci (8) 23 (by decide +kernel) ?_
    refine fx_ige 69 26 (by decide +kernel) (by unfold fR; omega) (by unfold fR; omega) (fun h23 => ?_) (fun h23 => ?_)
    · have e : k = 8 := by omega
      subst e
      exact kq
    · refine fx_la 0 27 (v := 226) (by decide +kernel) rfl (by decide +kernel) ?_
      refine fx_gp 226 28 5 234 30 (by decide +kernel) ?_
      refine fx_gp 234 29 2 258 33 (by decide +kernel) ?_
      refine fx_la 0 34 (v := 226) (by decide +kernel) rfl (by decide +kernel) ?_
      refine fx_gp 226 28 5 234 37 (by decide +kernel) ?_
      refine fx_gi 234 29 5 40 (by decide +kernel) ?_
      try simp only [fu_app, fcy_app, Nat.reduceEqDiff, and_true, and_false, false_and, true_and, if_true, if_false, ite_true, ite_false, reduceIte, Int.reduceToNat, fx_simp0]
      rw [e5]
      refine fx_ci (8) 42 (by decide +kernel) ?_
      refine fx_mul 43 (by decide +kernel) rfl ?_
      refine fx_li 1 44 (by decide +kernel) rfl ?_
      refine fx_add 45 (by decide +kernel) rfl ?_
      refine fx_la 0 46 (v := 226) (by decide +kernel) rfl (by decide +kernel) ?_
      refine fx_gp 226 28 0 10 49 (by decide +kernel) ?_
      refine fx_gp 10 1 0 18 52 (by decide +kernel) ?_
      refine fx_la 0 53 (v := 226) (by decide +kernel) rfl (by decide +kernel) ?_
      refine fx_gi 226 28 2 56 (by decide +kernel) ?_
      try simp only [fu_app, fcy_app, Nat.reduceEqDiff, and_true, and_false, false_and, true_and, if_true, if_false, ite_true, ite_false, reduceIte, Int.reduceToNat, fx_simp0]
      refine fx_li 1 57 (by decide +kernel) rfl ?_
      refine fx_add 58 (by decide +kernel) rfl ?_
      rw [h'.2.1]
      obtain ⟨t1, t2, t3⟩ := CT_t h'.1 (k := f + k) (by omega) (by omega)
      refine fx_al 18 2 400 59 (by decide +kernel) rfl (by omega) (by omega) rfl ?_
      try simp only [fu_app, fcy_app, Nat.reduceEqDiff, and_true, and_false, false_and, true_and, if_true, if_false, ite_true, ite_false, reduceIte, Int.reduceToNat, fx_simp0]
      rw [t1]
      refine fx_ci (48) 61 (by decide +kernel) ?_
      refine fx_sub 62 (by decide +kernel) rfl ?_
      refine fx_as 258 32 48 63 (by decide +kernel) rfl (by omega) (by omega) rfl (by unfold fR; omega) ?_
      refine fx_inc 1 66 (1) (by decide +kernel) rfl (Or.inr (f_n4p (v := 226) rfl (by decide))) rfl ?_
      dsimp only [List.set]
      refine fx_go 20 (by decide +kernel) ?_
      match n, hn with
      | 0, hn => exfalso; omega
      | n + 1, hn => exact sp_rd_dish h hE hd0 hd1 kq n (k + 1) (by omega)
theorem sp_readDish (h : cSt T E g f) (hd0 : 0 ≤ g 29 5) (hd1 : g 29 5 ≤ 5)
    (kq : ∀ f', pDish T E f = Sum.inr (f', [1, f]) → Q 1 (fI 1) (apCD T f (cAt T E g f')))
    (kf : ∀ q, pDish T E f = Sum.inl q → ∀ g', eqc g g' → g' 28 1 = q → Q 1 (fI 0) g') : fx W r 1 97 0 [226, 7] [] g Q := by
  have a3 := h.1.2.2.1
  have f0 := h.2.2.2.1
  have f1 := h.2.2.2.2.1
  have d0 := pDg_ge T E f
  have d1 := pDg_le (T := T) f1
  unfold pDish at kq kf
  refine fx_la 0 1 (v := 226) (by decide +kernel) rfl (by decide +kernel) ?_
  refine fx_c1 94 21 4 0 [7] (by decide +kernel) (by decide) rfl (by first | decide | omega) ?_
  refine sp_digits h (fK1 ?_)
  refine fx_ci (8) 6 (by decide +kernel) ?_
  refine fx_ieq 18 9 (by decide +kernel) (by unfold fR; omega) (by unfold fR; omega) (fun h6 => ?_) (fun h6 => ?_)
  · refine fx_ci (0) 19 (by decide +kernel) ?_
    refine fx_si 1 20 (by decide +kernel) (Or.inr (f_n4p (v := 226) rfl (by decide))) rfl ?_
    dsimp only [List.set]
    refine sp_rd_dish h (by omega) hd0 hd1 ?_ 8 0 rfl
    have dd : 48 ≤ T f ∧ T f ≤ 57 := by
      have := prun_all (p := isDi T) (E := E) (i := f) (k := f) (by omega) (show f < pDg T E f by omega)
      exact of_decide_eq_true this
    have h' := cSt_dsh (d := g 29 5) h 8
    have e5 : dshC T f (g 29 5) 8 g 29 5 = g 29 5 := dshC_ne (by decide) 8
    refine fx_la 0 70 (v := 226) (by decide +kernel) rfl (by decide +kernel) ?_
    refine fx_gp 226 28 5 234 73 (by decide +kernel) ?_
    refine fx_dup 74 (by decide +kernel) rfl (by decide) ?_
    refine fx_gi 234 29 5 77 (by decide +kernel) ?_
    try simp only [fu_app, fcy_app, Nat.reduceEqDiff, and_true, and_false, false_and, true_and, if_true, if_false, ite_true, ite_false, reduceIte, Int.reduceToNat, fx_simp0]
    rw [e5]
    refine fx_ci (1) 78 (by decide +kernel) ?_
    refine fx_add 79 (by decide +kernel) rfl ?_
    refine fx_pi 234 29 5 82 (by decide +kernel) (by unfold fR; omega) ?_
    refine fx_la 0 83 (v := 226) (by decide +kernel) rfl (by decide +kernel) ?_
    refine fx_c1 74 21 86 0 [7] (by decide +kernel) (by decide) rfl (by first | decide | omega) ?_
    refine sp_advS (cSt_fu h' (by decide) (by decide)) (fK0 ?_)
    rw [pBh_dg (by omega) dd, cAt_fu (by decide), cAt_dsh]
    refine fx_ci (1) 87 (by decide +kernel) ?_
    refine fx_retb (by decide +kernel) (by first | exact Or.inl rfl | exact Or.inr rfl | omega) ?_
    have kq := kq (pSk T E (f + 8)) (by rw [cif_t h6])
    unfold apCD at kq
    have e : cAt T E g (pSk T E (f + 8)) 29 5 = g 29 5 := by unfold cAt; rw [fu_nc (by decide), fu_nc (by decide)]
    rw [e] at kq
    rw [show pDg T E f = f + 8 by omega]
    exact kq
  · refine fx_la 0 10 (v := 226) (by decide +kernel) rfl (by decide +kernel) ?_
    refine fx_la 0 11 (v := 226) (by decide +kernel) rfl (by decide +kernel) ?_
    refine fx_gi 226 28 2 14 (by decide +kernel) ?_
    try simp only [fu_app, fcy_app, Nat.reduceEqDiff, and_true, and_false, false_and, true_and, if_true, if_false, ite_true, ite_false, reduceIte, Int.reduceToNat, fx_simp0]
    rw [h.2.1]
    refine fx_c2 92 21 17 0 [] (by decide +kernel) (by decide) (by decide) (fI_n4 _) rfl (by first | decide | omega) ?_
    refine sp_wrongAt (by unfold fR; omega) (fK1 ?_)
    refine fx_retb (by decide +kernel) (by first | exact Or.inl rfl | exact Or.inr rfl | omega) ?_
    exact kf f (by rw [cif_f h6]) _ (eqc_fu _ _ _ _ (by decide)) (fu_eq _ _ _ _)
theorem sp_readRoad (h : cSt T E g f)
    (kq : ∀ f' x y, pTwo T E 7 f = Sum.inr (f', x, y) → Q 1 (fI 1) (apCR x y (cAt T E g f')))
    (kf : ∀ q, pTwo T E 7 f = Sum.inl q → ∀ g', eqc g g' → g' 28 1 = q → Q 1 (fI 0) g') : fx W r 3 98 0 [226, 7, 7] [] g Q := by
  have a3 := h.1.2.2.1
  have f0 := h.2.2.2.1
  have f1 := h.2.2.2.2.1
  have ok2 := pOk_dg h.2.2.2
  unfold pTwo at kq kf
  refine fx_la 0 1 (v := 226) (by decide +kernel) rfl (by decide +kernel) ?_
  refine fx_ci (0) 2 (by decide +kernel) ?_
  refine fx_ci (7) 4 (by decide +kernel) ?_
  refine fx_c3 93 21 7 1 [7, 7, 7] (by decide +kernel) (by decide) (by decide) (fI_n4 _) (fI_n4 _) rfl (by first | decide | omega) ?_
  refine sp_takeNumber h (by unfold fR; omega) (by unfold fR; omega) (fun p => fK1 ?_) (fun p v hv => fK1 ?_)
  · have pn : _ ≤ pNu T E f ∧ pNu T E f ≤ _ := p.2.2
    refine fx_si 1 8 (by decide +kernel) (Or.inr (f_n4p (v := 226) rfl (by decide))) rfl ?_
    dsimp only [List.set]
    refine fx_li 1 9 (by decide +kernel) rfl ?_
    refine fx_ci (-1) 10 (by decide +kernel) ?_
    refine fx_ine 17 13 (by decide +kernel) (by unfold fR; omega) (by unfold fR; omega) (fun h10 => ?_) (fun h10 => ?_)
    · refine fx_la 0 18 (v := 226) (by decide +kernel) rfl (by decide +kernel) ?_
      refine fx_li 1 19 (by decide +kernel) rfl ?_
      refine fx_ci (8) 21 (by decide +kernel) ?_
      refine fx_c3 99 21 24 2 [7, 7] (by decide +kernel) (by decide) (by decide) (fI_n4 _) (fI_n4 _) rfl (by first | decide | omega) ?_
      refine sp_takeOther (cSt_at h.1 ok2) (by omega) (by omega) (by decide) (by decide) (fun p1 => fK1 ?_) (fun p1 g' v hv e1 e2 => fK1 ?_)
      · rw [cAt_at]
        have pm : _ ≤ pNu T E (pSk T E (pDg T E f)) ∧ pNu T E (pSk T E (pDg T E f)) ≤ _ := p1.1.2.2
        refine fx_si 2 25 (by decide +kernel) (Or.inr (fI_n4 _)) rfl ?_
        dsimp only [List.set]
        refine fx_li 2 26 (by decide +kernel) rfl ?_
        refine fx_ci (-1) 27 (by decide +kernel) ?_
        refine fx_ine 32 30 (by decide +kernel) (by unfold fR; omega) (by unfold fR; omega) (fun h27 => ?_) (fun h27 => ?_)
        · refine fx_la 0 33 (v := 226) (by decide +kernel) rfl (by decide +kernel) ?_
          refine fx_gp 226 28 5 234 36 (by decide +kernel) ?_
          refine fx_gp 234 29 3 266 39 (by decide +kernel) ?_
          refine fx_li 1 40 (by decide +kernel) rfl ?_
          refine fx_dup2 41 (by decide +kernel) rfl (fI_n4 _) (by decide) ?_
          refine fx_al 266 33 8 42 (by decide +kernel) rfl (by omega) (by omega) rfl ?_
          try simp only [fu_app, fcy_app, Nat.reduceEqDiff, and_true, and_false, false_and, true_and, if_true, if_false, ite_true, ite_false, reduceIte, Int.reduceToNat, fx_simp0]
          refine fx_ci (1) 43 (by decide +kernel) ?_
          refine fx_li 2 44 (by decide +kernel) rfl ?_
          refine fx_bin 6 45 (by decide +kernel) rfl (fun h => absurd h (by decide)) ?_
          refine fx_bin 4 46 (by decide +kernel) rfl (fun h => absurd h (by decide)) ?_
          refine fx_as 266 33 8 47 (by decide +kernel) rfl (by omega) (by omega) rfl (by first | exact fop_R _ _ _ | (unfold fR; omega)) ?_
          refine fx_la 0 48 (v := 226) (by decide +kernel) rfl (by decide +kernel) ?_
          refine fx_gp 226 28 5 234 51 (by decide +kernel) ?_
          refine fx_gp 234 29 3 266 54 (by decide +kernel) ?_
          refine fx_li 2 55 (by decide +kernel) rfl ?_
          refine fx_dup2 56 (by decide +kernel) rfl (fI_n4 _) (by decide) ?_
          refine fx_al 266 33 8 57 (by decide +kernel) rfl (by omega) (by omega) rfl ?_
          try simp only [fu_app, fcy_app, Nat.reduceEqDiff, and_true, and_false, false_and, true_and, if_true, if_false, ite_true, ite_false, reduceIte, Int.reduceToNat, fx_simp0]
          refine fx_ci (1) 58 (by decide +kernel) ?_
          refine fx_li 1 59 (by decide +kernel) rfl ?_
          refine fx_bin 6 60 (by decide +kernel) rfl (fun h => absurd h (by decide)) ?_
          refine fx_bin 4 61 (by decide +kernel) rfl (fun h => absurd h (by decide)) ?_
          refine fx_as 266 33 8 62 (by decide +kernel) rfl (by omega) (by omega) rfl (by first | exact fop_R _ _ _ | (unfold fR; omega)) ?_
          refine fx_ci (1) 63 (by decide +kernel) ?_
          refine fx_retb (by decide +kernel) (by first | exact Or.inl rfl | exact Or.inr rfl | omega) ?_
          have := kq _ _ _ (by rw [cif_t p]; exact cif_t p1)
          unfold apCR at this
          simp only [fu_app, Nat.reduceEqDiff, and_true, and_false, false_and, true_and, if_true, if_false, ite_true, ite_false, reduceIte] at this
          exact this
        · exfalso; omega
      · refine fx_si 2 25 (by decide +kernel) (Or.inr (fI_n4 _)) rfl ?_
        dsimp only [List.set]
        refine fx_li 2 26 (by decide +kernel) rfl ?_
        refine fx_ci (-1) 27 (by decide +kernel) ?_
        refine fx_ine 32 30 (by decide +kernel) (by unfold fR; omega) (by unfold fR; omega) (fun h27 => ?_) (fun h27 => ?_)
        · exfalso; omega
        · refine fx_ci (0) 31 (by decide +kernel) ?_
          refine fx_retb (by decide +kernel) (by first | exact Or.inl rfl | exact Or.inr rfl | omega) ?_
          exact kf _ (by rw [cif_t p]; exact cif_f p1) g' (eqc_tr (eqc_at _ _ _ _) e1) e2
    · exfalso; omega
  · refine fx_si 1 8 (by decide +kernel) (Or.inr (f_n4p (v := 226) rfl (by decide))) rfl ?_
    dsimp only [List.set]
    refine fx_li 1 9 (by decide +kernel) rfl ?_
    refine fx_ci (-1) 10 (by decide +kernel) ?_
    refine fx_ine 17 13 (by decide +kernel) (by unfold fR; omega) (by unfold fR; omega) (fun h10 => ?_) (fun h10 => ?_)
    · exfalso; omega
    · refine fx_cn (-1) 14 (by decide +kernel) (fun v13 c13 => ?_)
      refine fx_go 24 (by decide +kernel) ?_
      refine fx_si 2 25 (by decide +kernel) (Or.inr (fI_n4 _)) rfl ?_
      dsimp only [List.set]
      refine fx_li 2 26 (by decide +kernel) rfl ?_
      refine fx_ci (-1) 27 (by decide +kernel) ?_
      refine fx_ine 32 30 (by decide +kernel) (by unfold fR; omega) (by unfold fR; omega) (fun h27 => ?_) (fun h27 => ?_)
      · exfalso; omega
      · refine fx_ci (0) 31 (by decide +kernel) ?_
        refine fx_retb (by decide +kernel) (by first | exact Or.inl rfl | exact Or.inr rfl | omega) ?_
        exact kf f (by rw [cif_f p]) _ (eqc_fu _ _ _ _ (by decide)) (fu_eq _ _ _ _)
theorem sp_readPromise (h : cSt T E g f) (hp0 : 0 ≤ g 29 4) (hp1 : g 29 4 ≤ 8)
    (kq : ∀ f' x y, pTwo T E (g 29 4 - 1) f = Sum.inr (f', x, y) → Q 1 (fI 1) (apCV x y (cAt T E g f')))
    (kf : ∀ q, pTwo T E (g 29 4 - 1) f = Sum.inl q → ∀ g', eqc g g' → g' 28 1 = q → Q 1 (fI 0) g') : fx W r 3 100 0 [226, 7, 7] [] g Q := by
  have a3 := h.1.2.2.1
  have f0 := h.2.2.2.1
  have f1 := h.2.2.2.2.1
  have ok2 := pOk_dg h.2.2.2
  have eP : ∀ f', cAt T E g f' 29 4 = g 29 4 := fun f' => by unfold cAt; rw [fu_nc (by decide), fu_nc (by decide)]
  unfold pTwo at kq kf
  refine fx_la 0 1 (v := 226) (by decide +kernel) rfl (by decide +kernel) ?_
  refine fx_ci (0) 2 (by decide +kernel) ?_
  refine fx_la 0 3 (v := 226) (by decide +kernel) rfl (by decide +kernel) ?_
  refine fx_gp 226 28 5 234 6 (by decide +kernel) ?_
  refine fx_gi 234 29 4 9 (by decide +kernel) ?_
  refine fx_ci (1) 10 (by decide +kernel) ?_
  refine fx_sub 11 (by decide +kernel) rfl ?_
  refine fx_c3 93 21 14 1 [7, 7, 7] (by decide +kernel) (by decide) (by decide) (fI_n4 _) (fI_n4 _) rfl (by first | decide | omega) ?_
  refine sp_takeNumber h (by unfold fR; omega) (by unfold fR; omega) (fun p => fK1 ?_) (fun p v hv => fK1 ?_)
  · have pn : _ ≤ pNu T E f ∧ pNu T E f ≤ _ := p.2.2
    refine fx_si 1 15 (by decide +kernel) (Or.inr (f_n4p (v := 226) rfl (by decide))) rfl ?_
    dsimp only [List.set]
    refine fx_li 1 16 (by decide +kernel) rfl ?_
    refine fx_ci (-1) 17 (by decide +kernel) ?_
    refine fx_ine 24 20 (by decide +kernel) (by unfold fR; omega) (by unfold fR; omega) (fun h17 => ?_) (fun h17 => ?_)
    · refine fx_la 0 25 (v := 226) (by decide +kernel) rfl (by decide +kernel) ?_
      refine fx_li 1 26 (by decide +kernel) rfl ?_
      refine fx_la 0 27 (v := 226) (by decide +kernel) rfl (by decide +kernel) ?_
      refine fx_gp 226 28 5 234 30 (by decide +kernel) ?_
      refine fx_gi 234 29 4 33 (by decide +kernel) ?_
      try simp only [fu_app, fcy_app, Nat.reduceEqDiff, and_true, and_false, false_and, true_and, if_true, if_false, ite_true, ite_false, reduceIte, Int.reduceToNat, fx_simp0]
      rw [eP]
      refine fx_c3 99 21 36 2 [7, 7] (by decide +kernel) (by decide) (by decide) (fI_n4 _) (fI_n4 _) rfl (by first | decide | omega) ?_
      refine sp_takeOther (cSt_at h.1 ok2) (by omega) (by omega) (by omega) (by omega) (fun p1 => fK1 ?_) (fun p1 g' v hv e1 e2 => fK1 ?_)
      · rw [cAt_at]
        have pm : _ ≤ pNu T E (pSk T E (pDg T E f)) ∧ pNu T E (pSk T E (pDg T E f)) ≤ _ := p1.1.2.2
        refine fx_si 2 37 (by decide +kernel) (Or.inr (fI_n4 _)) rfl ?_
        dsimp only [List.set]
        refine fx_li 2 38 (by decide +kernel) rfl ?_
        refine fx_ci (-1) 39 (by decide +kernel) ?_
        refine fx_ine 44 42 (by decide +kernel) (by unfold fR; omega) (by unfold fR; omega) (fun h39 => ?_) (fun h39 => ?_)
        · refine fx_la 0 45 (v := 226) (by decide +kernel) rfl (by decide +kernel) ?_
          refine fx_gp 226 28 6 178 48 (by decide +kernel) ?_
          refine fx_gp 178 22 2 202 51 (by decide +kernel) ?_
          refine fx_li 1 52 (by decide +kernel) rfl ?_
          refine fx_li 2 53 (by decide +kernel) rfl ?_
          refine fx_as 202 25 8 54 (by decide +kernel) rfl (by omega) (by omega) rfl (by unfold fR; omega) ?_
          refine fx_ci (1) 55 (by decide +kernel) ?_
          refine fx_retb (by decide +kernel) (by first | exact Or.inl rfl | exact Or.inr rfl | omega) ?_
          exact kq _ _ _ (by rw [cif_t p]; exact cif_t p1)
        · exfalso; omega
      · refine fx_si 2 37 (by decide +kernel) (Or.inr (fI_n4 _)) rfl ?_
        dsimp only [List.set]
        refine fx_li 2 38 (by decide +kernel) rfl ?_
        refine fx_ci (-1) 39 (by decide +kernel) ?_
        refine fx_ine 44 42 (by decide +kernel) (by unfold fR; omega) (by unfold fR; omega) (fun h39 => ?_) (fun h39 => ?_)
        · exfalso; omega
        · refine fx_ci (0) 43 (by decide +kernel) ?_
          refine fx_retb (by decide +kernel) (by first | exact Or.inl rfl | exact Or.inr rfl | omega) ?_
          exact kf _ (by rw [cif_t p]; exact cif_f p1) g' (eqc_tr (eqc_at _ _ _ _) e1) e2
    · exfalso; omega
  · refine fx_si 1 15 (by decide +kernel) (Or.inr (f_n4p (v := 226) rfl (by decide))) rfl ?_
    dsimp only [List.set]
    refine fx_li 1 16 (by decide +kernel) rfl ?_
    refine fx_ci (-1) 17 (by decide +kernel) ?_
    refine fx_ine 24 20 (by decide +kernel) (by unfold fR; omega) (by unfold fR; omega) (fun h17 => ?_) (fun h17 => ?_)
    · exfalso; omega
    · refine fx_cn (-1) 21 (by decide +kernel) (fun v20 c20 => ?_)
      refine fx_go 36 (by decide +kernel) ?_
      refine fx_si 2 37 (by decide +kernel) (Or.inr (fI_n4 _)) rfl ?_
      dsimp only [List.set]
      refine fx_li 2 38 (by decide +kernel) rfl ?_
      refine fx_ci (-1) 39 (by decide +kernel) ?_
      refine fx_ine 44 42 (by decide +kernel) (by unfold fR; omega) (by unfold fR; omega) (fun h39 => ?_) (fun h39 => ?_)
      · exfalso; omega
      · refine fx_ci (0) 43 (by decide +kernel) ?_
        refine fx_retb (by decide +kernel) (by first | exact Or.inl rfl | exact Or.inr rfl | omega) ?_
        exact kf f (by rw [cif_f p]) _ (eqc_fu _ _ _ _ (by decide)) (fu_eq _ _ _ _)
end FXU
end
section
/-! fx: a line in the class, and all of them -/
/-- the numbers told, in the class's order -/
noncomputable def pSets (T : Int → Int) (E f : Int) : Int ⊕ (Int × List Int) :=
  cif (pWd T E [113, 117, 111, 116, 97] f) (pSet T E 5 0 160 (pSk T E (pWe T E f)))
  (cif (pWd T E [119, 97, 108, 107] f) (pSet T E 6 0 100 (pSk T E (pWe T E f)))
  (cif (pWd T E [108, 105, 109, 105, 116] f) (pSet T E 7 1 99 (pSk T E (pWe T E f)))
  (cif (pWd T E [105, 114, 111, 110] f) (pSet T E 8 0 999 (pSk T E (pWe T E f)))
  (cif (pWd T E [110, 105, 103, 104, 116] f) (pSet T E 9 0 999 (pSk T E (pWe T E f))) (Sum.inl f)))))
section FXV
variable {W : ax_W} {r : Nat} {g : Nat → Nat → Int} {Q : Nat → Nat → (Nat → Nat → Int) → Prop} {T : Int → Int} {E : Int} {f : Int}
theorem sp_rs_x (hw : g 28 1 = -1) (kq : Q 1 (fI 1) g) : fx W r 6 101 142 [226] [] g Q := by
  refine fx_rg (fun hg => ?_)
  refine fx_la 0 143 (v := 226) (by decide +kernel) rfl (by decide +kernel) ?_
  refine fx_gi 226 28 1 146 (by decide +kernel) ?_
  refine fx_ci (-1) 147 (by decide +kernel) ?_
  refine fx_ine 154 150 (by decide +kernel) (by first | exact hg 28 1 (by decide) (by decide +kernel) (by decide +kernel) | (unfold fR; omega)) (by unfold fR; omega) (fun h147 => ?_) (fun h147 => ?_)
  · refine fx_ci (0) 155 (by decide +kernel) ?_
    refine fx_retb (by decide +kernel) (by first | exact Or.inl rfl | exact Or.inr rfl | omega) ?_
    exact absurd hw h147
  · refine fx_ci (1) 151 (by decide +kernel) ?_
    refine fx_go 155 (by decide +kernel) ?_
    refine fx_retb (by decide +kernel) (by first | exact Or.inl rfl | exact Or.inr rfl | omega) ?_
    exact kq
theorem sp_rs_y (hw : g 28 1 ≠ -1) (kq : Q 1 (fI 0) g) : fx W r 6 101 142 [226] [] g Q := by
  refine fx_rg (fun hg => ?_)
  refine fx_la 0 143 (v := 226) (by decide +kernel) rfl (by decide +kernel) ?_
  refine fx_gi 226 28 1 146 (by decide +kernel) ?_
  refine fx_ci (-1) 147 (by decide +kernel) ?_
  refine fx_ine 154 150 (by decide +kernel) (by first | exact hg 28 1 (by decide) (by decide +kernel) (by decide +kernel) | (unfold fR; omega)) (by unfold fR; omega) (fun h147 => ?_) (fun h147 => ?_)
  · refine fx_ci (0) 155 (by decide +kernel) ?_
    refine fx_retb (by decide +kernel) (by first | exact Or.inl rfl | exact Or.inr rfl | omega) ?_
    exact kq
  · refine fx_ci (1) 151 (by decide +kernel) ?_
    refine fx_go 155 (by decide +kernel) ?_
    refine fx_retb (by decide +kernel) (by first | exact Or.inl rfl | exact Or.inr rfl | omega) ?_
    exact absurd h147 hw
theorem sp_readSetting (h : cSt T E g f) (hw : g 28 1 = -1)
    (kq : ∀ f' u, pSets T E f = Sum.inr (f', u) → Q 1 (fI 1) (apC T u (cAt T E g f')))
    (kf : ∀ q, pSets T E f = Sum.inl q → ∀ g', eqc g g' → g' 28 1 = q → Q 1 (fI 0) g') : fx W r 6 101 0 [226] [] g Q := by
  have a3 := h.1.2.2.1
  have f0 := h.2.2.2.1
  have f1 := h.2.2.2.2.1
  have okw := pOk_we h.2.2.2
  have b0 := okw.1
  have hW : ∀ f', cAt T E g f' 28 1 = -1 := fun f' => by unfold cAt; rw [fu_nj (by decide), fu_nj (by decide)]; exact hw
  unfold pSets at kq kf
  refine fx_la 0 1 (v := 226) (by decide +kernel) rfl (by decide +kernel) ?_
  refine fx_lds 85 3 (by decide +kernel) ?_
  refine fx_c2 78 21 6 5 [] (by decide +kernel) (by decide) (by decide) (by decide) rfl (by first | decide | omega) ?_
  refine sp_takesWord [113, 117, 111, 116, 97] (by decide +kernel) (by decide +kernel) h (fun b3 => fK1 ?_) (fun b3 => fK1 ?_)
  · refine fx_zeq 27 9 (by decide +kernel) (by unfold fR; omega) (fun hc => absurd hc (by decide)) (fun _ => ?_)
    refine fx_la 0 10 (v := 226) (by decide +kernel) rfl (by decide +kernel) ?_
    refine fx_gp 226 28 5 234 13 (by decide +kernel) ?_
    refine fx_la 0 14 (v := 226) (by decide +kernel) rfl (by decide +kernel) ?_
    refine fx_ci (0) 15 (by decide +kernel) ?_
    refine fx_ci (160) 18 (by decide +kernel) ?_
    refine fx_c3 93 21 21 1 [7, 7, 7] (by decide +kernel) (by decide) (by decide) (fI_n4 _) (fI_n4 _) rfl (by first | decide | omega) ?_
    refine sp_takeNumber (cSt_at h.1 okw) (by unfold fR; omega) (by unfold fR; omega) (fun p => fK1 ?_) (fun p v hv => fK1 ?_)
    · rw [cAt_at]
      have pn : _ ≤ pNu T E (pSk T E (pWe T E f)) ∧ pNu T E (pSk T E (pWe T E f)) ≤ _ := p.2.2
      refine fx_pi 234 29 7 24 (by decide +kernel) (by unfold fR; omega) ?_
      refine fx_go 142 (by decide +kernel) ?_
      refine sp_rs_x (by rw [fu_nc (by decide)]; exact hW _) ?_
      have t := kq _ [3, 5, pNu T E (pSk T E (pWe T E f))] (by rw [cif_t b3]; unfold pSet; rw [cif_t p])
      rw [apC_3] at t
      exact t
    · refine fx_pi 234 29 7 24 (by decide +kernel) (by unfold fR; omega) ?_
      refine fx_go 142 (by decide +kernel) ?_
      refine sp_rs_y (by rw [fu_nc (by decide), fu_eq]; omega) (kf _ (by rw [cif_t b3]; unfold pSet; rw [cif_f p]) _ (eqc_tr (eqc_tr (eqc_at _ _ _ _) (eqc_fu _ _ _ _ (by decide))) (eqc_fu _ _ _ _ (by decide))) ?_)
      rw [fu_nc (by decide), fu_eq]
  · refine fx_zeq 27 9 (by decide +kernel) (by unfold fR; omega) (fun _ => ?_) (fun hc => absurd hc (by decide))
    refine fx_la 0 28 (v := 226) (by decide +kernel) rfl (by decide +kernel) ?_
    refine fx_lds 93 30 (by decide +kernel) ?_
    refine fx_c2 78 21 33 5 [] (by decide +kernel) (by decide) (by decide) (by decide) rfl (by first | decide | omega) ?_
    refine sp_takesWord [119, 97, 108, 107] (by decide +kernel) (by decide +kernel) h (fun b30 => fK1 ?_) (fun b30 => fK1 ?_)
    · refine fx_zeq 53 36 (by decide +kernel) (by unfold fR; omega) (fun hc => absurd hc (by decide)) (fun _ => ?_)
      refine fx_la 0 37 (v := 226) (by decide +kernel) rfl (by decide +kernel) ?_
      refine fx_gp 226 28 5 234 40 (by decide +kernel) ?_
      refine fx_la 0 41 (v := 226) (by decide +kernel) rfl (by decide +kernel) ?_
      refine fx_ci (0) 42 (by decide +kernel) ?_
      refine fx_ci (100) 44 (by decide +kernel) ?_
      refine fx_c3 93 21 47 1 [7, 7, 7] (by decide +kernel) (by decide) (by decide) (fI_n4 _) (fI_n4 _) rfl (by first | decide | omega) ?_
      refine sp_takeNumber (cSt_at h.1 okw) (by unfold fR; omega) (by unfold fR; omega) (fun p => fK1 ?_) (fun p v hv => fK1 ?_)
      · rw [cAt_at]
        have pn : _ ≤ pNu T E (pSk T E (pWe T E f)) ∧ pNu T E (pSk T E (pWe T E f)) ≤ _ := p.2.2
        refine fx_pi 234 29 8 50 (by decide +kernel) (by unfold fR; omega) ?_
        refine fx_go 142 (by decide +kernel) ?_
        refine sp_rs_x (by rw [fu_nc (by decide)]; exact hW _) ?_
        have t := kq _ [3, 6, pNu T E (pSk T E (pWe T E f))] (by rw [cif_f b3, cif_t b30]; unfold pSet; rw [cif_t p])
        rw [apC_3] at t
        exact t
      · refine fx_pi 234 29 8 50 (by decide +kernel) (by unfold fR; omega) ?_
        refine fx_go 142 (by decide +kernel) ?_
        refine sp_rs_y (by rw [fu_nc (by decide), fu_eq]; omega) (kf _ (by rw [cif_f b3, cif_t b30]; unfold pSet; rw [cif_f p]) _ (eqc_tr (eqc_tr (eqc_at _ _ _ _) (eqc_fu _ _ _ _ (by decide))) (eqc_fu _ _ _ _ (by decide))) ?_)
        rw [fu_nc (by decide), fu_eq]
    · refine fx_zeq 53 36 (by decide +kernel) (by unfold fR; omega) (fun _ => ?_) (fun hc => absurd hc (by decide))
      refine fx_la 0 54 (v := 226) (by decide +kernel) rfl (by decide +kernel) ?_
      refine fx_lds 101 56 (by decide +kernel) ?_
      refine fx_c2 78 21 59 5 [] (by decide +kernel) (by decide) (by decide) (by decide) rfl (by first | decide | omega) ?_
      refine sp_takesWord [108, 105, 109, 105, 116] (by decide +kernel) (by decide +kernel) h (fun b56 => fK1 ?_) (fun b56 => fK1 ?_)
      · refine fx_zeq 79 62 (by decide +kernel) (by unfold fR; omega) (fun hc => absurd hc (by decide)) (fun _ => ?_)
        refine fx_la 0 63 (v := 226) (by decide +kernel) rfl (by decide +kernel) ?_
        refine fx_gp 226 28 5 234 66 (by decide +kernel) ?_
        refine fx_la 0 67 (v := 226) (by decide +kernel) rfl (by decide +kernel) ?_
        refine fx_ci (1) 68 (by decide +kernel) ?_
        refine fx_ci (99) 70 (by decide +kernel) ?_
        refine fx_c3 93 21 73 1 [7, 7, 7] (by decide +kernel) (by decide) (by decide) (fI_n4 _) (fI_n4 _) rfl (by first | decide | omega) ?_
        refine sp_takeNumber (cSt_at h.1 okw) (by unfold fR; omega) (by unfold fR; omega) (fun p => fK1 ?_) (fun p v hv => fK1 ?_)
        · rw [cAt_at]
          have pn : _ ≤ pNu T E (pSk T E (pWe T E f)) ∧ pNu T E (pSk T E (pWe T E f)) ≤ _ := p.2.2
          refine fx_pi 234 29 9 76 (by decide +kernel) (by unfold fR; omega) ?_
          refine fx_go 142 (by decide +kernel) ?_
          refine sp_rs_x (by rw [fu_nc (by decide)]; exact hW _) ?_
          have t := kq _ [3, 7, pNu T E (pSk T E (pWe T E f))] (by rw [cif_f b3, cif_f b30, cif_t b56]; unfold pSet; rw [cif_t p])
          rw [apC_3] at t
          exact t
        · refine fx_pi 234 29 9 76 (by decide +kernel) (by unfold fR; omega) ?_
          refine fx_go 142 (by decide +kernel) ?_
          refine sp_rs_y (by rw [fu_nc (by decide), fu_eq]; omega) (kf _ (by rw [cif_f b3, cif_f b30, cif_t b56]; unfold pSet; rw [cif_f p]) _ (eqc_tr (eqc_tr (eqc_at _ _ _ _) (eqc_fu _ _ _ _ (by decide))) (eqc_fu _ _ _ _ (by decide))) ?_)
          rw [fu_nc (by decide), fu_eq]
      · refine fx_zeq 79 62 (by decide +kernel) (by unfold fR; omega) (fun _ => ?_) (fun hc => absurd hc (by decide))
        refine fx_la 0 80 (v := 226) (by decide +kernel) rfl (by decide +kernel) ?_
        refine fx_lds 109 82 (by decide +kernel) ?_
        refine fx_c2 78 21 85 5 [] (by decide +kernel) (by decide) (by decide) (by decide) rfl (by first | decide | omega) ?_
        refine sp_takesWord [105, 114, 111, 110] (by decide +kernel) (by decide +kernel) h (fun b82 => fK1 ?_) (fun b82 => fK1 ?_)
        · refine fx_zeq 106 88 (by decide +kernel) (by unfold fR; omega) (fun hc => absurd hc (by decide)) (fun _ => ?_)
          refine fx_la 0 89 (v := 226) (by decide +kernel) rfl (by decide +kernel) ?_
          refine fx_gp 226 28 6 178 92 (by decide +kernel) ?_
          refine fx_la 0 93 (v := 226) (by decide +kernel) rfl (by decide +kernel) ?_
          refine fx_ci (0) 94 (by decide +kernel) ?_
          refine fx_ci (999) 97 (by decide +kernel) ?_
          refine fx_c3 93 21 100 1 [7, 7, 7] (by decide +kernel) (by decide) (by decide) (fI_n4 _) (fI_n4 _) rfl (by first | decide | omega) ?_
          refine sp_takeNumber (cSt_at h.1 okw) (by unfold fR; omega) (by unfold fR; omega) (fun p => fK1 ?_) (fun p v hv => fK1 ?_)
          · rw [cAt_at]
            have pn : _ ≤ pNu T E (pSk T E (pWe T E f)) ∧ pNu T E (pSk T E (pWe T E f)) ≤ _ := p.2.2
            refine fx_pi 178 22 8 103 (by decide +kernel) (by unfold fR; omega) ?_
            refine fx_go 142 (by decide +kernel) ?_
            refine sp_rs_x (by rw [fu_nc (by decide)]; exact hW _) ?_
            have t := kq _ [3, 8, pNu T E (pSk T E (pWe T E f))] (by rw [cif_f b3, cif_f b30, cif_f b56, cif_t b82]; unfold pSet; rw [cif_t p])
            rw [apC_3] at t
            exact t
          · refine fx_pi 178 22 8 103 (by decide +kernel) (by unfold fR; omega) ?_
            refine fx_go 142 (by decide +kernel) ?_
            refine sp_rs_y (by rw [fu_nc (by decide), fu_eq]; omega) (kf _ (by rw [cif_f b3, cif_f b30, cif_f b56, cif_t b82]; unfold pSet; rw [cif_f p]) _ (eqc_tr (eqc_tr (eqc_at _ _ _ _) (eqc_fu _ _ _ _ (by decide))) (eqc_fu _ _ _ _ (by decide))) ?_)
            rw [fu_nc (by decide), fu_eq]
        · refine fx_zeq 106 88 (by decide +kernel) (by unfold fR; omega) (fun _ => ?_) (fun hc => absurd hc (by decide))
          refine fx_la 0 107 (v := 226) (by decide +kernel) rfl (by decide +kernel) ?_
          refine fx_lds 117 109 (by decide +kernel) ?_
          refine fx_c2 78 21 112 5 [] (by decide +kernel) (by decide) (by decide) (by decide) rfl (by first | decide | omega) ?_
          refine sp_takesWord [110, 105, 103, 104, 116] (by decide +kernel) (by decide +kernel) h (fun b109 => fK1 ?_) (fun b109 => fK1 ?_)
          · refine fx_zeq 133 115 (by decide +kernel) (by unfold fR; omega) (fun hc => absurd hc (by decide)) (fun _ => ?_)
            refine fx_la 0 116 (v := 226) (by decide +kernel) rfl (by decide +kernel) ?_
            refine fx_gp 226 28 6 178 119 (by decide +kernel) ?_
            refine fx_la 0 120 (v := 226) (by decide +kernel) rfl (by decide +kernel) ?_
            refine fx_ci (0) 121 (by decide +kernel) ?_
            refine fx_ci (999) 124 (by decide +kernel) ?_
            refine fx_c3 93 21 127 1 [7, 7, 7] (by decide +kernel) (by decide) (by decide) (fI_n4 _) (fI_n4 _) rfl (by first | decide | omega) ?_
            refine sp_takeNumber (cSt_at h.1 okw) (by unfold fR; omega) (by unfold fR; omega) (fun p => fK1 ?_) (fun p v hv => fK1 ?_)
            · rw [cAt_at]
              have pn : _ ≤ pNu T E (pSk T E (pWe T E f)) ∧ pNu T E (pSk T E (pWe T E f)) ≤ _ := p.2.2
              refine fx_pi 178 22 9 130 (by decide +kernel) (by unfold fR; omega) ?_
              refine fx_go 142 (by decide +kernel) ?_
              refine sp_rs_x (by rw [fu_nc (by decide)]; exact hW _) ?_
              have t := kq _ [3, 9, pNu T E (pSk T E (pWe T E f))] (by rw [cif_f b3, cif_f b30, cif_f b56, cif_f b82, cif_t b109]; unfold pSet; rw [cif_t p])
              rw [apC_3] at t
              exact t
            · refine fx_pi 178 22 9 130 (by decide +kernel) (by unfold fR; omega) ?_
              refine fx_go 142 (by decide +kernel) ?_
              refine sp_rs_y (by rw [fu_nc (by decide), fu_eq]; omega) (kf _ (by rw [cif_f b3, cif_f b30, cif_f b56, cif_f b82, cif_t b109]; unfold pSet; rw [cif_f p]) _ (eqc_tr (eqc_tr (eqc_at _ _ _ _) (eqc_fu _ _ _ _ (by decide))) (eqc_fu _ _ _ _ (by decide))) ?_)
              rw [fu_nc (by decide), fu_eq]
          · refine fx_zeq 133 115 (by decide +kernel) (by unfold fR; omega) (fun _ => ?_) (fun hc => absurd hc (by decide))
            refine fx_la 0 134 (v := 226) (by decide +kernel) rfl (by decide +kernel) ?_
            refine fx_la 0 135 (v := 226) (by decide +kernel) rfl (by decide +kernel) ?_
            refine fx_gi 226 28 2 138 (by decide +kernel) ?_
            try simp only [fu_app, fcy_app, Nat.reduceEqDiff, and_true, and_false, false_and, true_and, if_true, if_false, ite_true, ite_false, reduceIte, Int.reduceToNat, fx_simp0]
            rw [h.2.1]
            refine fx_c2 92 21 141 0 [] (by decide +kernel) (by decide) (by decide) (fI_n4 _) rfl (by first | decide | omega) ?_
            refine sp_wrongAt (by unfold fR; omega) (fK1 ?_)
            refine fx_retb (by decide +kernel) (by first | exact Or.inl rfl | exact Or.inr rfl | omega) ?_
            exact kf f (by rw [cif_f b3, cif_f b30, cif_f b56, cif_f b82, cif_f b109]) _ (eqc_fu _ _ _ _ (by decide)) (fu_eq _ _ _ _)
theorem pLine_promise {pp dd : Int} (b : pWd T E [112, 114, 111, 109, 105, 115, 101] f) : pLine T E pp dd f = bS (pTwo T E (pp - 1) (pSk T E (pWe T E f))) (fun a => Sum.inr (a.1, [4, a.2.1, a.2.2])) := by
  have n : ∀ ws, ([112, 114, 111, 109, 105, 115, 101] : List Nat) ≠ ws → ¬ pWd T E ws f := fun ws t q => t (pWd_uniq b q)
  unfold pLine
  rw [cif_f (n _ (by decide)), cif_f (n _ (by decide)), cif_f (n _ (by decide)), cif_f (n _ (by decide)), cif_f (n _ (by decide)), cif_f (n _ (by decide)), cif_f (n _ (by decide)), cif_f (n _ (by decide)), cif_t b]
theorem pLine_sets {pp dd : Int} (b1 : ¬ pWd T E [112, 101, 114, 115, 111, 110] f) (b2 : ¬ pWd T E [100, 105, 115, 104] f) (b3 : ¬ pWd T E [114, 111, 97, 100] f) (b4 : ¬ pWd T E [112, 114, 111, 109, 105, 115, 101] f) : pLine T E pp dd f = pSets T E f := by
  unfold pLine pSets
  rw [cif_f b1, cif_f b2, cif_f b3, cif_f b4]
theorem sp_readLine (h : cSt T E g f) (hw : g 28 1 = -1) (hp0 : 0 ≤ g 29 4) (hp1 : g 29 4 ≤ 8) (hd0 : 0 ≤ g 29 5) (hd1 : g 29 5 ≤ 6)
    (kq : ∀ f' u, pLine T E (g 29 4) (g 29 5) f = Sum.inr (f', u) → Q 1 (fI 1) (apC T u (cAt T E g f')))
    (kf : ∀ q, pLine T E (g 29 4) (g 29 5) f = Sum.inl q → ∀ g', eqc g g' → g' 28 1 = q → Q 1 (fI 0) g') : fx W r 8 77 0 [226, 7] [] g Q := by
  have a3 := h.1.2.2.1
  have f0 := h.2.2.2.1
  have f1 := h.2.2.2.2.1
  have okw := pOk_we h.2.2.2
  refine fx_rg (fun hg => ?_)
  have hW : ∀ f', cAt T E g f' 28 1 = -1 := fun f' => by unfold cAt; rw [fu_nj (by decide), fu_nj (by decide)]; exact hw
  have hP : ∀ f', cAt T E g f' 29 4 = g 29 4 := fun f' => by unfold cAt; rw [fu_nc (by decide), fu_nc (by decide)]
  have hD : ∀ f', cAt T E g f' 29 5 = g 29 5 := fun f' => by unfold cAt; rw [fu_nc (by decide), fu_nc (by decide)]
  refine fx_la 0 1 (v := 226) (by decide +kernel) rfl (by decide +kernel) ?_
  refine fx_gi 226 28 2 4 (by decide +kernel) ?_
  rw [h.2.1]
  refine fx_si 1 5 (by decide +kernel) (Or.inr (f_n4p (v := 226) rfl (by decide))) rfl ?_
  dsimp only [List.set]
  refine fx_la 0 6 (v := 226) (by decide +kernel) rfl (by decide +kernel) ?_
  refine fx_lds 21 8 (by decide +kernel) ?_
  refine fx_c2 78 21 11 5 [] (by decide +kernel) (by decide) (by decide) (by decide) rfl (by first | decide | omega) ?_
  refine sp_takesWord [112, 101, 114, 115, 111, 110] (by decide +kernel) (by decide +kernel) h (fun b8 => fK1 ?_) (fun b8 => fK1 ?_)
  · refine fx_zeq 39 14 (by decide +kernel) (by unfold fR; omega) (fun hc => absurd hc (by decide)) (fun _ => ?_)
    refine fx_la 0 15 (v := 226) (by decide +kernel) rfl (by decide +kernel) ?_
    refine fx_gp 226 28 5 234 18 (by decide +kernel) ?_
    refine fx_gi 234 29 4 21 (by decide +kernel) ?_
    try simp only [fu_app, fcy_app, Nat.reduceEqDiff, and_true, and_false, false_and, true_and, if_true, if_false, ite_true, ite_false, reduceIte, Int.reduceToNat, fx_simp0]
    rw [hP]
    refine fx_ci (8) 23 (by decide +kernel) ?_
    refine fx_ige 33 26 (by decide +kernel) (by unfold fR; omega) (by unfold fR; omega) (fun h23 => ?_) (fun h23 => ?_)
    · refine fx_la 0 34 (v := 226) (by decide +kernel) rfl (by decide +kernel) ?_
      refine fx_li 1 35 (by decide +kernel) rfl ?_
      refine fx_c2 92 21 38 0 [] (by decide +kernel) (by decide) (by decide) (fI_n4 _) rfl (by first | decide | omega) ?_
      refine sp_wrongAt (by unfold fR; omega) (fK1 ?_)
      refine fx_retb (by decide +kernel) (by first | exact Or.inl rfl | exact Or.inr rfl | omega) ?_
      exact kf f (by unfold pLine; rw [cif_t b8, if_pos (by omega)]) _ (eqc_tr (eqc_at _ _ _ _) (eqc_fu _ _ _ _ (by decide))) (fu_eq _ _ _ _)
    · refine fx_la 0 27 (v := 226) (by decide +kernel) rfl (by decide +kernel) ?_
      refine fx_c1 91 21 30 7 [7, 7, 7, 7, 7] (by decide +kernel) (by decide) rfl (by first | decide | omega) ?_
      refine sp_readPerson (cSt_at h.1 okw) (hW _) (by rw [hP]; omega) (by rw [hP]; omega) (fun f' w pl v l e => fK1 ?_) (fun q e g' e1 e2 => fK1 ?_)
      · refine fx_go 38 (by decide +kernel) ?_
        refine fx_retb (by decide +kernel) (by first | exact Or.inl rfl | exact Or.inr rfl | omega) ?_
        have t := kq f' [0, w, pl, v, l] (by unfold pLine; rw [cif_t b8, if_neg (by omega)]; exact e)
        rw [apC_0] at t
        rw [cAt_at]
        exact t
      · refine fx_go 38 (by decide +kernel) ?_
        refine fx_retb (by decide +kernel) (by first | exact Or.inl rfl | exact Or.inr rfl | omega) ?_
        exact kf q (by unfold pLine; rw [cif_t b8, if_neg (by omega)]; exact e) g' (eqc_tr (eqc_at _ _ _ _) e1) e2
  · refine fx_zeq 39 14 (by decide +kernel) (by unfold fR; omega) (fun _ => ?_) (fun hc => absurd hc (by decide))
    refine fx_la 0 40 (v := 226) (by decide +kernel) rfl (by decide +kernel) ?_
    refine fx_lds 61 42 (by decide +kernel) ?_
    refine fx_c2 78 21 45 5 [] (by decide +kernel) (by decide) (by decide) (by decide) rfl (by first | decide | omega) ?_
    refine sp_takesWord [100, 105, 115, 104] (by decide +kernel) (by decide +kernel) h (fun b42 => fK1 ?_) (fun b42 => fK1 ?_)
    · refine fx_zeq 73 48 (by decide +kernel) (by unfold fR; omega) (fun hc => absurd hc (by decide)) (fun _ => ?_)
      refine fx_la 0 49 (v := 226) (by decide +kernel) rfl (by decide +kernel) ?_
      refine fx_gp 226 28 5 234 52 (by decide +kernel) ?_
      refine fx_gi 234 29 5 55 (by decide +kernel) ?_
      try simp only [fu_app, fcy_app, Nat.reduceEqDiff, and_true, and_false, false_and, true_and, if_true, if_false, ite_true, ite_false, reduceIte, Int.reduceToNat, fx_simp0]
      rw [hD]
      refine fx_ci (6) 57 (by decide +kernel) ?_
      refine fx_ige 67 60 (by decide +kernel) (by unfold fR; omega) (by unfold fR; omega) (fun h57 => ?_) (fun h57 => ?_)
      · refine fx_la 0 68 (v := 226) (by decide +kernel) rfl (by decide +kernel) ?_
        refine fx_li 1 69 (by decide +kernel) rfl ?_
        refine fx_c2 92 21 72 0 [] (by decide +kernel) (by decide) (by decide) (fI_n4 _) rfl (by first | decide | omega) ?_
        refine sp_wrongAt (by unfold fR; omega) (fK1 ?_)
        refine fx_retb (by decide +kernel) (by first | exact Or.inl rfl | exact Or.inr rfl | omega) ?_
        exact kf f (by unfold pLine; rw [cif_f b8, cif_t b42, if_pos (by omega)]) _ (eqc_tr (eqc_at _ _ _ _) (eqc_fu _ _ _ _ (by decide))) (fu_eq _ _ _ _)
      · refine fx_la 0 61 (v := 226) (by decide +kernel) rfl (by decide +kernel) ?_
        refine fx_c1 97 21 64 1 [7] (by decide +kernel) (by decide) rfl (by first | decide | omega) ?_
        refine sp_readDish (cSt_at h.1 okw) (by rw [hD]; omega) (by rw [hD]; omega) (fun f' e => fK1 ?_) (fun q e g' e1 e2 => fK1 ?_)
        · refine fx_go 72 (by decide +kernel) ?_
          refine fx_retb (by decide +kernel) (by first | exact Or.inl rfl | exact Or.inr rfl | omega) ?_
          have t := kq f' [1, pSk T E (pWe T E f)] (by unfold pLine; rw [cif_f b8, cif_t b42, if_neg (by omega)]; exact e)
          rw [apC_1] at t
          rw [cAt_at]
          exact t
        · refine fx_go 72 (by decide +kernel) ?_
          refine fx_retb (by decide +kernel) (by first | exact Or.inl rfl | exact Or.inr rfl | omega) ?_
          exact kf q (by unfold pLine; rw [cif_f b8, cif_t b42, if_neg (by omega)]; exact e) g' (eqc_tr (eqc_at _ _ _ _) e1) e2
    · refine fx_zeq 73 48 (by decide +kernel) (by unfold fR; omega) (fun _ => ?_) (fun hc => absurd hc (by decide))
      refine fx_la 0 74 (v := 226) (by decide +kernel) rfl (by decide +kernel) ?_
      refine fx_lds 69 76 (by decide +kernel) ?_
      refine fx_c2 78 21 79 5 [] (by decide +kernel) (by decide) (by decide) (by decide) rfl (by first | decide | omega) ?_
      refine sp_takesWord [114, 111, 97, 100] (by decide +kernel) (by decide +kernel) h (fun b76 => fK1 ?_) (fun b76 => fK1 ?_)
      · refine fx_zeq 87 82 (by decide +kernel) (by unfold fR; omega) (fun hc => absurd hc (by decide)) (fun _ => ?_)
        refine fx_la 0 83 (v := 226) (by decide +kernel) rfl (by decide +kernel) ?_
        refine fx_c1 98 21 86 3 [7, 7] (by decide +kernel) (by decide) rfl (by first | decide | omega) ?_
        refine sp_readRoad (cSt_at h.1 okw) (fun f' x y e => fK1 ?_) (fun q e g' e1 e2 => fK1 ?_)
        · refine fx_retb (by decide +kernel) (by first | exact Or.inl rfl | exact Or.inr rfl | omega) ?_
          have t := kq f' [2, x, y] (by unfold pLine; rw [cif_f b8, cif_f b42, cif_t b76, e]; rfl)
          rw [apC_2] at t
          rw [cAt_at]
          exact t
        · refine fx_retb (by decide +kernel) (by first | exact Or.inl rfl | exact Or.inr rfl | omega) ?_
          exact kf q (by unfold pLine; rw [cif_f b8, cif_f b42, cif_t b76, e]; rfl) g' (eqc_tr (eqc_at _ _ _ _) e1) e2
      · refine fx_zeq 87 82 (by decide +kernel) (by unfold fR; omega) (fun _ => ?_) (fun hc => absurd hc (by decide))
        refine fx_la 0 88 (v := 226) (by decide +kernel) rfl (by decide +kernel) ?_
        refine fx_lds 77 90 (by decide +kernel) ?_
        refine fx_c2 78 21 93 5 [] (by decide +kernel) (by decide) (by decide) (by decide) rfl (by first | decide | omega) ?_
        refine sp_takesWord [112, 114, 111, 109, 105, 115, 101] (by decide +kernel) (by decide +kernel) h (fun b90 => fK1 ?_) (fun b90 => fK1 ?_)
        · refine fx_zeq 101 96 (by decide +kernel) (by unfold fR; omega) (fun hc => absurd hc (by decide)) (fun _ => ?_)
          refine fx_la 0 97 (v := 226) (by decide +kernel) rfl (by decide +kernel) ?_
          refine fx_c1 100 21 100 3 [7, 7] (by decide +kernel) (by decide) rfl (by first | decide | omega) ?_
          refine sp_readPromise (cSt_at h.1 okw) (by rw [hP]; exact hp0) (by rw [hP]; exact hp1) (fun f' x y e => fK1 ?_) (fun q e g' e1 e2 => fK1 ?_)
          · refine fx_retb (by decide +kernel) (by first | exact Or.inl rfl | exact Or.inr rfl | omega) ?_
            rw [hP] at e
            have t := kq f' [4, x, y] (by rw [pLine_promise b90, e]; rfl)
            rw [apC_4] at t
            rw [cAt_at]
            exact t
          · refine fx_retb (by decide +kernel) (by first | exact Or.inl rfl | exact Or.inr rfl | omega) ?_
            rw [hP] at e
            exact kf q (by rw [pLine_promise b90, e]; rfl) g' (eqc_tr (eqc_at _ _ _ _) e1) e2
        · refine fx_zeq 101 96 (by decide +kernel) (by unfold fR; omega) (fun _ => ?_) (fun hc => absurd hc (by decide))
          refine fx_la 0 102 (v := 226) (by decide +kernel) rfl (by decide +kernel) ?_
          refine fx_c1 101 21 105 6 [] (by decide +kernel) (by decide) rfl (by first | decide | omega) ?_
          refine sp_readSetting h hw (fun f' u e => fK1 ?_) (fun q e g' e1 e2 => fK1 ?_)
          · refine fx_retb (by decide +kernel) (by first | exact Or.inl rfl | exact Or.inr rfl | omega) ?_
            exact kq f' u (by rw [pLine_sets b8 b42 b76 b90]; exact e)
          · refine fx_retb (by decide +kernel) (by first | exact Or.inl rfl | exact Or.inr rfl | omega) ?_
            exact kf q (by rw [pLine_sets b8 b42 b76 b90]; exact e) g' e1 e2
end FXV
end
section
/-! fx: the class reads the house's text -/
section FXW
variable {W : ax_W} {r : Nat} {Q : Nat → Nat → (Nat → Nat → Int) → Prop} {T : Int → Int} {E : Int}
theorem apC_fu {g : Nat → Nat → Int} {j : Nat} {z : Int} {u : List Int} : apC T u (fu g 28 j z) = fu (apC T u g) 28 j z := by
  have s : ∀ (g : Nat → Nat → Int) (c k : Nat) y, c ≠ 28 → fu (fu g 28 j z) c k y = fu (fu g c k y) 28 j z := fun g c k y h => fu_sw _ _ _ (fun t => h t.1.symm)
  unfold apC
  split
  · unfold apCP
    rw [fu_nc (by decide), s _ _ _ _ (by decide), s _ _ _ _ (by decide), s _ _ _ _ (by decide), s _ _ _ _ (by decide), s _ _ _ _ (by decide), s _ _ _ _ (by decide), s _ _ _ _ (by decide)]
  · split
    · unfold apCD
      rw [fu_nc (by decide), ← dshC_fu (by decide), s _ _ _ _ (by decide)]
    · split
      · unfold apCR
        rw [fu_nc (by decide), s _ _ _ _ (by decide), fu_nc (by decide), s _ _ _ _ (by decide)]
      · split
        · unfold apCS
          split
          · exact s _ _ _ _ (by decide)
          · split
            · exact s _ _ _ _ (by decide)
            · split
              · exact s _ _ _ _ (by decide)
              · split
                · exact s _ _ _ _ (by decide)
                · exact s _ _ _ _ (by decide)
        · exact s _ _ _ _ (by decide)
theorem apC_at {g : Nat → Nat → Int} {u : List Int} {f : Int} : apC T u (cAt T E g f) = cAt T E (apC T u g) f := by
  unfold cAt
  rw [apC_fu, apC_fu]
noncomputable def apCs (T : Int → Int) (us : List (List Int)) (g : Nat → Nat → Int) : Nat → Nat → Int := us.foldl (fun g u => apC T u g) g
theorem apCs_at {f : Int} : ∀ {us : List (List Int)} {g : Nat → Nat → Int}, apCs T us (cAt T E g f) = cAt T E (apCs T us g) f
  | [], g => rfl
  | u :: us, g => by
    show apCs T us (apC T u (cAt T E g f)) = cAt T E (apCs T us (apC T u g)) f
    rw [apC_at, apCs_at]
/-- what a line does in the class: counts, nothing else -/
theorem apC_ok {g : Nat → Nat → Int} {u : List Int} (hu : uOk E (g 29 4) (g 29 5) u) :
    apC T u g 29 4 = g 29 4 + k0 u ∧ apC T u g 29 5 = g 29 5 + k1 u ∧ eqc g (apC T u g) ∧ (∀ j, apC T u g 28 j = g 28 j) := by
  rcases hu with ⟨w, pl, v, l, rfl, hu⟩ | ⟨b, rfl, hu⟩ | ⟨x, y, rfl, hu⟩ | ⟨x, y, rfl, hu⟩ | ⟨x, y, rfl, hu⟩
  · have e0 : k0 [0, w, pl, v, l] = 1 := rfl
    have e1 : k1 [0, w, pl, v, l] = 0 := rfl
    rw [apC_0, e0, e1]
    unfold apCP
    refine ⟨?_, ?_, fun c j h => ?_, fun j => ?_⟩
    · rw [fu_nc (by decide), fu_nc (by decide), fu_nc (by decide), fu_nc (by decide), fu_eq]
    · rw [fu_nc (by decide), fu_nc (by decide), fu_nc (by decide), fu_nc (by decide), fu_nj (by decide), fu_nc (by decide), fu_nc (by decide)]; omega
    · rw [fu_nc (by omega), fu_nc (by omega), fu_nc (by omega), fu_nc (by omega), fu_nc (by omega), fu_nc (by omega), fu_nc (by omega)]
    · rw [fu_nc (by decide), fu_nc (by decide), fu_nc (by decide), fu_nc (by decide), fu_nc (by decide), fu_nc (by decide), fu_nc (by decide)]
  · have e0 : k0 [1, b] = 0 := rfl
    have e1 : k1 [1, b] = 1 := rfl
    rw [apC_1, e0, e1]
    unfold apCD
    refine ⟨?_, fu_eq _ _ _ _, fun c j h => ?_, fun j => ?_⟩
    · rw [fu_nj (by decide), dshC_ne (by decide)]; omega
    · rw [fu_nc (by omega), dshC_ne (by omega)]
    · rw [fu_nc (by decide), dshC_ne (by decide)]
  · have e0 : k0 [2, x, y] = 0 := rfl
    have e1 : k1 [2, x, y] = 0 := rfl
    rw [apC_2, e0, e1]
    unfold apCR
    refine ⟨?_, ?_, fun c j h => ?_, fun j => ?_⟩
    · rw [fu_nc (by decide), fu_nc (by decide)]; omega
    · rw [fu_nc (by decide), fu_nc (by decide)]; omega
    · rw [fu_nc (by omega), fu_nc (by omega)]
    · rw [fu_nc (by decide), fu_nc (by decide)]
  · have e0 : k0 [3, x, y] = 0 := rfl
    have e1 : k1 [3, x, y] = 0 := rfl
    rw [apC_3, e0, e1]
    have st : ∀ c j, ((22 = c ∨ 29 = c) → j < 7 ∧ c = 29) → apCS x y g c j = g c j := fun c j h => by
      unfold apCS
      split
      · exact fu_ne (by omega)
      · split
        · exact fu_ne (by omega)
        · split
          · exact fu_ne (by omega)
          · split
            · exact fu_ne (by omega)
            · exact fu_ne (by omega)
    refine ⟨?_, ?_, fun c j h => st c j (fun t => by omega), fun j => st _ j (fun t => by omega)⟩
    · rw [st _ _ (fun t => by decide)]; omega
    · rw [st _ _ (fun t => by decide)]; omega
  · have e0 : k0 [4, x, y] = 0 := rfl
    have e1 : k1 [4, x, y] = 0 := rfl
    rw [apC_4, e0, e1]
    unfold apCV
    refine ⟨?_, ?_, fun c j h => ?_, fun j => ?_⟩
    · rw [fu_nc (by decide)]; omega
    · rw [fu_nc (by decide)]; omega
    · rw [fu_nc (by omega)]
    · rw [fu_nc (by decide)]
theorem cSt_apC {g : Nat → Nat → Int} {u : List Int} {f : Int} (hu : uOk E (g 29 4) (g 29 5) u) (h : cSt T E g f) : cSt T E (apC T u g) f := by
  obtain ⟨a1, a2, a3, a4⟩ := apC_ok (T := T) hu
  exact ⟨CT_eq h.1 (a4 _) (fun j => a3 _ _ (by omega)), by rw [a4]; exact h.2.1, by rw [a4]; exact h.2.2.1, h.2.2.2⟩
theorem sp_rls : ∀ (left : Nat) (n : Int) (g : Nat → Nat → Int) (f : Int), n = 14 - left → left ≤ 14 → cSt T E g f → g 28 1 = -1 → 0 ≤ g 29 4 → g 29 4 ≤ 8 → 0 ≤ g 29 5 → g 29 5 ≤ 6 →
    (∀ us, pAll T E left (g 29 4) (g 29 5) f = Sum.inr us → ∀ f', Q 1 (fI 1) (cAt T E (apCs T us g) f')) →
    (∀ q, pAll T E left (g 29 4) (g 29 5) f = Sum.inl q → ∀ g', eqc g g' → g' 28 1 = q → Q 1 (fI 0) g') →
    fx W r 9 75 11 [226, fI 14, fI n] [] g Q
  | left, n, g, f, hn, hl, h, hw, hp0, hp1, hd0, hd1, kq, kf => by
    have a3 := h.1.2.2.1
    have f0 := h.2.2.2.1
    have f1 := h.2.2.2.2.1
    refine fx_rg (fun hg => ?_)
    match left, hn, hl, kq, kf with
    | 0, hn, hl, kq, kf =>
      refine fx_li 2 12 (by decide +kernel) rfl ?_
      refine fx_li 1 13 (by decide +kernel) rfl ?_
      refine fx_ige 58 16 (by decide +kernel) (by unfold fR; omega) (by unfold fR; omega) (fun h13 => ?_) (fun h13 => ?_)
      · refine fx_la 0 59 (v := 226) (by decide +kernel) rfl (by decide +kernel) ?_
        refine fx_la 0 60 (v := 226) (by decide +kernel) rfl (by decide +kernel) ?_
        refine fx_gi 226 28 2 63 (by decide +kernel) ?_
        rw [h.2.1]
        refine fx_c2 92 21 66 0 [] (by decide +kernel) (by decide) (by decide) (fI_n4 _) rfl (by first | decide | omega) ?_
        refine sp_wrongAt (by unfold fR; omega) (fK1 ?_)
        refine fx_retb (by decide +kernel) (by first | exact Or.inl rfl | exact Or.inr rfl | omega) ?_
        exact kf f rfl _ (eqc_fu _ _ _ _ (by decide)) (fu_eq _ _ _ _)
      · exfalso; omega
    | left + 1, hn, hl, kq, kf =>
      have eP : ∀ x, pLine T E (g 29 4) (g 29 5) f = x → pAll T E (left + 1) (g 29 4) (g 29 5) f = bS x (fun a => if a.1 = E then Sum.inr [a.2] else if T a.1 = 59 then bS (pAll T E left (g 29 4 + k0 a.2) (g 29 5 + k1 a.2) (pSk T E (a.1 + 1))) (fun us => Sum.inr (a.2 :: us)) else Sum.inl a.1) := fun x hx => by rw [← hx]; rfl
      refine fx_li 2 12 (by decide +kernel) rfl ?_
      refine fx_li 1 13 (by decide +kernel) rfl ?_
      refine fx_ige 58 16 (by decide +kernel) (by unfold fR; omega) (by unfold fR; omega) (fun h13 => ?_) (fun h13 => ?_)
      · exfalso; omega
      · refine fx_la 0 17 (v := 226) (by decide +kernel) rfl (by decide +kernel) ?_
        refine fx_c1 77 40 20 8 [7] (by decide +kernel) (by decide) rfl (by first | decide | omega) ?_
        refine sp_readLine h hw hp0 hp1 hd0 hd1 (fun f' u e => fK1 ?_) (fun q e g' e1 e2 => fK1 ?_)
        · obtain ⟨fo', hu⟩ := pLine_ok e h.2.2.2 hp1 hd1
          obtain ⟨g1, g2, g3, g4⟩ := apC_ok (T := T) hu
          have cn := uOk_cnt hu hp1 hd1
          have eq := eP _ e
          have eq : pAll T E (left + 1) (g 29 4) (g 29 5) f = (if f' = E then Sum.inr [u] else if T f' = 59 then bS (pAll T E left (g 29 4 + k0 u) (g 29 5 + k1 u) (pSk T E (f' + 1))) (fun us => Sum.inr (u :: us)) else Sum.inl f') := eq
          rw [apC_at]
          have gW : apC T u g 28 1 = -1 := by rw [g4]; exact hw
          have gC : CT T E (apC T u g) := (cSt_apC hu h).1
          have kq : ∀ us, pAll T E (left + 1) (g 29 4) (g 29 5) f = Sum.inr (u :: us) → ∀ f', Q 1 (fI 1) (cAt T E (apCs T us (apC T u g)) f') := fun us t => kq (u :: us) t
          generalize apC T u g = G at *
          have GS : ∀ f', pOk T E f' → cSt T E (cAt T E G f') f' := fun f' t => cSt_at gC t
          have GW : ∀ f', cAt T E G f' 28 1 = -1 := fun f' => by unfold cAt; rw [fu_nj (by decide), fu_nj (by decide)]; exact gW
          have GP : ∀ f', cAt T E G f' 29 4 = G 29 4 := fun f' => by unfold cAt; rw [fu_nc (by decide), fu_nc (by decide)]
          have GD : ∀ f', cAt T E G f' 29 5 = G 29 5 := fun f' => by unfold cAt; rw [fu_nc (by decide), fu_nc (by decide)]
          have p0 := fo'.1
          have p1 := fo'.2.1
          refine fx_zne 25 23 (by decide +kernel) (by unfold fR; omega) (fun _ => ?_) (fun hc => absurd hc (by decide))
          refine fx_la 0 26 (v := 226) (by decide +kernel) rfl (by decide +kernel) ?_
          refine fx_c1 76 21 29 0 [] (by decide +kernel) (by decide) rfl (by first | decide | omega) ?_
          refine sp_isOver (GS _ fo') (fun b26 => fK1 ?_) (fun b26 => fK1 ?_)
          · refine fx_zeq 34 32 (by decide +kernel) (by unfold fR; omega) (fun hc => absurd hc (by decide)) (fun _ => ?_)
            refine fx_ci (1) 33 (by decide +kernel) ?_
            refine fx_retb (by decide +kernel) (by first | exact Or.inl rfl | exact Or.inr rfl | omega) ?_
            rw [if_pos b26] at eq
            exact kq [] eq f'
          · refine fx_zeq 34 32 (by decide +kernel) (by unfold fR; omega) (fun _ => ?_) (fun hc => absurd hc (by decide))
            refine fx_la 0 35 (v := 226) (by decide +kernel) rfl (by decide +kernel) ?_
            refine fx_ci (59) 37 (by decide +kernel) ?_
            refine fx_c2 106 21 40 1 [] (by decide +kernel) (by decide) (by decide) (fI_n4 _) rfl (by first | decide | omega) ?_
            refine sp_takesSign (c := 59) (GS _ fo') (by unfold fR; omega) (by decide) (by decide) (fun b37 => fK1 ?_) (fun b37 => fK1 ?_)
            · refine fx_zne 52 43 (by decide +kernel) (by unfold fR; omega) (fun _ => ?_) (fun hc => absurd hc (by decide))
              refine fx_inc 2 55 (1) (by decide +kernel) rfl (Or.inr (fI_n4 _)) rfl ?_
              dsimp only [List.set]
              refine fx_go 11 (by decide +kernel) ?_
              rw [if_neg (by omega), if_pos b37.2] at eq
              rw [cAt_at]
              refine sp_rls left (n + 1) _ (pSk T E (f' + 1)) (by omega) (by omega) (GS _ (pOk_sk (by omega) (by omega))) (GW _) (by rw [GP]; omega) (by rw [GP]; omega) (by rw [GD]; omega) (by rw [GD]; omega) (fun us t f'' => ?_) (fun q t g' e1 e2 => ?_)
              · rw [GP, GD, g1, g2] at t
                rw [t] at eq
                rw [apCs_at, cAt_at]
                exact kq us eq f''
              · rw [GP, GD, g1, g2] at t
                rw [t] at eq
                exact kf q eq g' (eqc_tr g3 (eqc_tr (eqc_at _ _ _ _) e1)) e2
            · refine fx_zne 52 43 (by decide +kernel) (by unfold fR; omega) (fun hc => absurd hc (by decide)) (fun _ => ?_)
              refine fx_la 0 44 (v := 226) (by decide +kernel) rfl (by decide +kernel) ?_
              refine fx_la 0 45 (v := 226) (by decide +kernel) rfl (by decide +kernel) ?_
              refine fx_gi 226 28 2 48 (by decide +kernel) ?_
              try simp only [fu_app, fcy_app, Nat.reduceEqDiff, and_true, and_false, false_and, true_and, if_true, if_false, ite_true, ite_false, reduceIte, Int.reduceToNat, fx_simp0]
              rw [(GS _ fo').2.1]
              refine fx_c2 92 21 51 0 [] (by decide +kernel) (by decide) (by decide) (fI_n4 _) rfl (by first | decide | omega) ?_
              refine sp_wrongAt (by unfold fR; omega) (fK1 ?_)
              refine fx_retb (by decide +kernel) (by first | exact Or.inl rfl | exact Or.inr rfl | omega) ?_
              rw [if_neg (by omega), if_neg (by omega)] at eq
              exact kf f' eq _ (eqc_tr g3 (eqc_tr (eqc_at _ _ _ _) (eqc_fu _ _ _ _ (by decide)))) (fu_eq _ _ _ _)
        · have eq := eP _ e
          have eq : pAll T E (left + 1) (g 29 4) (g 29 5) f = Sum.inl q := eq
          refine fx_zne 25 23 (by decide +kernel) (by unfold fR; omega) (fun hc => absurd hc (by decide)) (fun _ => ?_)
          refine fx_ci (0) 24 (by decide +kernel) ?_
          refine fx_retb (by decide +kernel) (by first | exact Or.inl rfl | exact Or.inr rfl | omega) ?_
          exact kf q eq g' e1 e2
theorem sp_readLines {g : Nat → Nat → Int} (h : cSt T E g (pSk T E 0)) (hw : g 28 1 = -1) (hp0 : 0 ≤ g 29 4) (hp1 : g 29 4 ≤ 8) (hd0 : 0 ≤ g 29 5) (hd1 : g 29 5 ≤ 6)
    (kq : ∀ us, pText T E (g 29 4) (g 29 5) = Sum.inr us → ∀ f', Q 1 (fI 1) (cAt T E (apCs T us g) f'))
    (kf : ∀ q, pText T E (g 29 4) (g 29 5) = Sum.inl q → ∀ g', eqc g g' → g' 28 1 = q → Q 1 (fI 0) g') : fx W r 9 75 0 [226, fI 14, 7] [] g Q := by
  unfold pText at kq kf
  refine fx_la 0 1 (v := 226) (by decide +kernel) rfl (by decide +kernel) ?_
  refine fx_c1 76 21 4 0 [] (by decide +kernel) (by decide) rfl (by first | decide | omega) ?_
  refine sp_isOver h (fun b1 => fK1 ?_) (fun b1 => fK1 ?_)
  · refine fx_zeq 9 7 (by decide +kernel) (by unfold fR; omega) (fun hc => absurd hc (by decide)) (fun _ => ?_)
    refine fx_ci (1) 8 (by decide +kernel) ?_
    refine fx_retb (by decide +kernel) (by first | exact Or.inl rfl | exact Or.inr rfl | omega) ?_
    rw [if_pos b1] at kq
    have := kq [] rfl (pSk T E 0)
    rw [show apCs T [] g = g from rfl, cAt_self h] at this
    exact this
  · refine fx_zeq 9 7 (by decide +kernel) (by unfold fR; omega) (fun _ => ?_) (fun hc => absurd hc (by decide))
    refine fx_ci (0) 10 (by decide +kernel) ?_
    refine fx_si 2 11 (by decide +kernel) (Or.inr (fI_n4 _)) rfl ?_
    dsimp only [List.set]
    rw [if_neg (by omega)] at kq kf
    exact sp_rls 14 0 g (pSk T E 0) rfl (by decide) h hw hp0 hp1 hd0 hd1 kq kf
end FXW
end
section
/-! fx: both sides take the same from the house's text -/
/-- the draft's people, dishes, what is eaten, roads, as the reference's row has them -/
def RHx (h : Nat) (gc gm : Nat → Nat → Int) : Prop := gc h 4 = gm 149 3 ∧ gc h 5 = gm 149 4 ∧ gc h 6 = gm 149 0 ∧ (∀ j : Nat, (j : Int) < 8 * gc h 5 → gc (h + 3) j = gm 149 (68 + j)) ∧ (∀ j : Nat, j < 8 → gc (h + 4) j = gm 149 (116 + j))
section FXX
variable {T : Int → Int} {E : Int}
theorem dshC_at {f d : Int} {g : Nat → Nat → Int} (hd : 0 ≤ d) : ∀ (k : Nat) (j : Nat), dshC T f d k g 32 j = if d * 8 ≤ (j : Int) ∧ (j : Int) < d * 8 + k then T (f + (j - d * 8)) - 48 else g 32 j
  | 0, j => by rw [if_neg (by omega)]; rfl
  | k + 1, j => by
    show fu (dshC T f d k g) 32 (d * 8 + k).toNat (T (f + k) - 48) 32 j = _
    by_cases e : j = (d * 8 + k).toNat
    · subst e
      rw [fu_eq, if_pos (by omega), show f + (((d * 8 + k).toNat : Int) - d * 8) = f + k by omega]
    · rw [fu_nj e, dshC_at hd k j]
      by_cases c : d * 8 ≤ (j : Int) ∧ (j : Int) < d * 8 + k
      · rw [if_pos c, if_pos (by omega)]
      · rw [if_neg c, if_neg (by omega)]
theorem dshR_at {f d : Int} {g : Nat → Nat → Int} (hd : 0 ≤ d) : ∀ (k : Nat) (j : Nat), dshR T f d k g 149 j = if 68 + 8 * d ≤ (j : Int) ∧ (j : Int) < 68 + 8 * d + k then T (f + (j - 68 - 8 * d)) - 48 else g 149 j
  | 0, j => by rw [if_neg (by omega)]; rfl
  | k + 1, j => by
    show fu (dshR T f d k g) 149 (68 + 8 * d + k).toNat (T (f + k) - 48) 149 j = _
    by_cases e : j = (68 + 8 * d + k).toNat
    · subst e
      rw [fu_eq, if_pos (by omega), show f + (((68 + 8 * d + k).toNat : Int) - 68 - 8 * d) = f + k by omega]
    · rw [fu_nj e, dshR_at hd k j]
      by_cases c : 68 + 8 * d ≤ (j : Int) ∧ (j : Int) < 68 + 8 * d + k
      · rw [if_pos c, if_pos (by omega)]
      · rw [if_neg c, if_neg (by omega)]
theorem RHx_line {gc gm : Nat → Nat → Int} {u : List Int} (h : RHx 29 gc gm) (hu : uOk E (gm 149 3) (gm 149 4) u) (hp0 : 0 ≤ gm 149 3) (hp1 : gm 149 3 ≤ 8) (hd0 : 0 ≤ gm 149 4) (hd1 : gm 149 4 ≤ 6) : RHx 29 (apC T u gc) (apL T u gm) := by
  obtain ⟨a1, a2, a3, a4, a5⟩ := h
  have hu' : uOk E (gc 29 4) (gc 29 5) u := by rw [a1, a2]; exact hu
  obtain ⟨c1, c2, -, -⟩ := apC_ok (T := T) hu'
  obtain ⟨m1, m2, -⟩ := apL_ok (T := T) hu hp0 hp1 hd0 hd1
  refine ⟨by rw [c1, m1, a1], by rw [c2, m2, a2], ?_⟩
  rcases hu with ⟨w, pl, v, l, rfl, hu⟩ | ⟨b, rfl, hu⟩ | ⟨x, y, rfl, hu⟩ | ⟨x, y, rfl, hu⟩ | ⟨x, y, rfl, hu⟩
  · have e1 : k1 [0, w, pl, v, l] = 0 := rfl
    rw [apC_0, apL_0] at *
    unfold apCP apP at *
    refine ⟨?_, fun j hj => ?_, fun j hj => ?_⟩
    · rw [fu_nc (by decide), fu_nc (by decide), fu_nc (by decide), fu_nc (by decide), fu_nj (by decide), fu_nc (by decide), fu_nc (by decide), fu_nj (by decide), fu_nj (by omega), fu_nj (by omega), fu_nj (by omega), fu_nj (by omega), fu_nj (by omega), fu_nj (by omega), fu_nj (by omega)]
      exact a3
    · rw [c2, e1] at hj
      rw [fu_nc (by decide), fu_nc (by decide), fu_nc (by decide), fu_nc (by decide), fu_nc (by decide), fu_nc (by decide), fu_nc (by decide), fu_nj (by omega), fu_nj (by omega), fu_nj (by omega), fu_nj (by omega), fu_nj (by omega), fu_nj (by omega), fu_nj (by omega), fu_nj (by omega)]
      exact a4 j (by omega)
    · rw [fu_nc (by decide), fu_nc (by decide), fu_nc (by decide), fu_nc (by decide), fu_nc (by decide), fu_nc (by decide), fu_nc (by decide), fu_nj (by omega), fu_nj (by omega), fu_nj (by omega), fu_nj (by omega), fu_nj (by omega), fu_nj (by omega), fu_nj (by omega), fu_nj (by omega)]
      exact a5 j hj
  · have e1 : k1 [1, b] = 1 := rfl
    rw [apC_1, apL_1] at *
    unfold apCD apD at *
    refine ⟨?_, fun j hj => ?_, fun j hj => ?_⟩
    · rw [fu_nj (by decide), dshC_ne (by decide), fu_nj (by decide), dshR_ne hd0 (Or.inr (by decide))]
      exact a3
    · rw [c2, e1] at hj
      rw [fu_nc (by decide), dshC_at (by omega), fu_nj (by omega), dshR_at hd0, a2]
      by_cases c : gm 149 4 * 8 ≤ (j : Int) ∧ (j : Int) < gm 149 4 * 8 + (8 : Nat)
      · rw [if_pos c, if_pos (by omega), show b + (((68 + j : Nat) : Int) - 68 - 8 * gm 149 4) = b + ((j : Int) - gm 149 4 * 8) by omega]
      · rw [if_neg c, if_neg (by omega)]
        exact a4 j (by omega)
    · rw [fu_nc (by decide), dshC_ne (by decide), fu_nj (by omega), dshR_at hd0, if_neg (by omega)]
      exact a5 j hj
  · have e1 : k1 [2, x, y] = 0 := rfl
    rw [apC_2, apL_2] at *
    unfold apCR apR at *
    have r1 : gc 33 x.toNat = gm 149 (116 + x).toNat := by rw [show (116 + x).toNat = 116 + x.toNat by omega]; exact a5 x.toNat (by omega)
    refine ⟨?_, fun j hj => ?_, fun j hj => ?_⟩
    · rw [fu_nc (by decide), fu_nc (by decide), fu_nj (by omega), fu_nj (by omega)]
      exact a3
    · rw [c2, e1] at hj
      rw [fu_nc (by decide), fu_nc (by decide), fu_nj (by omega), fu_nj (by omega)]
      exact a4 j (by omega)
    · have st : ∀ j : Nat, j < 8 → fu gc 33 x.toNat (fop 4 (gc 33 x.toNat) (fop 6 1 y)) 33 j = fu gm 149 (116 + x).toNat (fop 4 (gm 149 (116 + x).toNat) (fop 6 1 y)) 149 (116 + j) := fun j hj => by
        by_cases e : j = x.toNat
        · subst e
          rw [fu_eq, show 116 + x.toNat = (116 + x).toNat by omega, fu_eq, r1]
        · rw [fu_nj e, fu_nj (by omega)]
          exact a5 j hj
      by_cases e : j = y.toNat
      · subst e
        rw [show 116 + y.toNat = (116 + y).toNat by omega]
        show fu _ _ y.toNat _ 33 y.toNat = _
        rw [fu_eq, fu_eq, st y.toNat (by omega), show 116 + y.toNat = (116 + y).toNat by omega]
      · show fu _ _ y.toNat _ 33 j = _
        rw [fu_nj e]
        exact (st j hj).trans (fu_nj (show 116 + j ≠ (116 + y).toNat by omega)).symm
  · have e1 : k1 [3, x, y] = 0 := rfl
    rw [apC_3, apL_3] at *
    have st : ∀ c j, c ≠ 22 → (c = 29 → j < 7) → apCS x y gc c j = gc c j := fun c j h1 h2 => by
      unfold apCS
      split
      · exact fu_ne (by omega)
      · split
        · exact fu_ne (by omega)
        · split
          · exact fu_ne (by omega)
          · split
            · exact fu_ne (by omega)
            · exact fu_ne (by omega)
    refine ⟨?_, fun j hj => ?_, fun j hj => ?_⟩
    · rw [st _ _ (by decide) (fun _ => by decide), fu_nj (by omega)]; exact a3
    · rw [c2, e1] at hj
      rw [st _ _ (by decide) (fun t => absurd t (by decide)), fu_nj (by omega)]
      exact a4 j (by omega)
    · rw [st _ _ (by decide) (fun t => absurd t (by decide)), fu_nj (by omega)]
      exact a5 j hj
  · have e1 : k1 [4, x, y] = 0 := rfl
    rw [apC_4, apL_4] at *
    unfold apCV apV at *
    refine ⟨?_, fun j hj => ?_, fun j hj => ?_⟩
    · rw [fu_nc (by decide), fu_nj (by omega)]; exact a3
    · rw [c2, e1] at hj
      rw [fu_nc (by decide), fu_nj (by omega)]
      exact a4 j (by omega)
    · rw [fu_nc (by decide), fu_nj (by omega)]
      exact a5 j hj
theorem RHx_all : ∀ {n : Nat} {f : Int} {us : List (List Int)} {gc gm : Nat → Nat → Int}, pAll T E n (gm 149 3) (gm 149 4) f = Sum.inr us → pOk T E f → 0 ≤ gm 149 3 → gm 149 3 ≤ 8 → 0 ≤ gm 149 4 → gm 149 4 ≤ 6 → RHx 29 gc gm → RHx 29 (apCs T us gc) (apLs T us gm) ∧ eqc gc (apCs T us gc) ∧ (∀ j, apCs T us gc 28 j = gc 28 j) ∧ (∀ c j, ¬ (c = 149 ∧ j < 364) → apLs T us gm c j = gm c j) ∧ 0 ≤ apLs T us gm 149 3 ∧ apLs T us gm 149 3 ≤ 8 ∧ 0 ≤ apLs T us gm 149 4 ∧ apLs T us gm 149 4 ≤ 6
  | 0, f, us, gc, gm, h, _, _, _, _, _, _ => by cases h
  | n + 1, f, us, gc, gm, h, hf, hp0, hp1, hd0, hd1, hr => by
    obtain ⟨⟨f', u⟩, e, h⟩ := bS_inr (show bS (pLine T E (gm 149 3) (gm 149 4) f) _ = Sum.inr us from h)
    obtain ⟨fo', hu⟩ := pLine_ok e hf hp1 hd1
    have hr' := RHx_line (T := T) hr hu hp0 hp1 hd0 hd1
    have hu' : uOk E (gc 29 4) (gc 29 5) u := by rw [hr.1, hr.2.1]; exact hu
    obtain ⟨c1, c2, c3, c4⟩ := apC_ok (T := T) hu'
    obtain ⟨m1, m2, m3, m4, m5, m6, m7⟩ := apL_ok (T := T) hu hp0 hp1 hd0 hd1
    by_cases x1 : f' = E
    · have h : (if f' = E then Sum.inr [u] else if T f' = 59 then bS (pAll T E n (gm 149 3 + k0 u) (gm 149 4 + k1 u) (pSk T E (f' + 1))) (fun us => Sum.inr (u :: us)) else Sum.inl f' : Int ⊕ List (List Int)) = Sum.inr us := h
      rw [if_pos x1] at h
      cases h
      exact ⟨hr', c3, c4, m3, by show 0 ≤ apL T u gm _ _; omega, by show apL T u gm _ _ ≤ 8; omega, by show 0 ≤ apL T u gm _ _; omega, by show apL T u gm _ _ ≤ 6; omega⟩
    · have h : (if f' = E then Sum.inr [u] else if T f' = 59 then bS (pAll T E n (gm 149 3 + k0 u) (gm 149 4 + k1 u) (pSk T E (f' + 1))) (fun us => Sum.inr (u :: us)) else Sum.inl f' : Int ⊕ List (List Int)) = Sum.inr us := h
      rw [if_neg x1] at h
      by_cases x2 : T f' = 59
      · rw [if_pos x2] at h
        obtain ⟨us', e2, h⟩ := bS_inr h
        cases h
        rw [← m1, ← m2] at e2
        have p0 := fo'.1
        have p1 := fo'.2.1
        obtain ⟨r1, r2, r3, r4, r5⟩ := RHx_all e2 (pOk_sk (by omega) (by omega)) (by omega) (by omega) (by omega) (by omega) hr'
        exact ⟨r1, eqc_tr c3 r2, fun j => (r3 j).trans (c4 j), fun c j t => (r4 c j t).trans (m3 c j t), r5⟩
      · rw [if_neg x2] at h
        cases h
end FXX
section FXX2
variable {T : Int → Int} {E : Int}
theorem pAll_bad : ∀ {n : Nat} {pp dd f q : Int}, pAll T E n pp dd f = Sum.inl q → pOk T E f → pp ≤ 8 → dd ≤ 6 → 0 ≤ q ∧ q ≤ E
  | 0, pp, dd, f, q, h, hf, _, _ => by cases h; exact ⟨hf.1, hf.2.1⟩
  | n + 1, pp, dd, f, q, h, hf, hp, hd => by
    rcases bS_inl (show bS (pLine T E pp dd f) _ = Sum.inl q from h) with e | ⟨⟨f', u⟩, e, h⟩
    · exact pLine_bad e hf
    · obtain ⟨fo', hu⟩ := pLine_ok e hf hp hd
      have cn := uOk_cnt hu hp hd
      have p0 := fo'.1
      have p1 := fo'.2.1
      have h : (if f' = E then Sum.inr [u] else if T f' = 59 then bS (pAll T E n (pp + k0 u) (dd + k1 u) (pSk T E (f' + 1))) (fun us => Sum.inr (u :: us)) else Sum.inl f' : Int ⊕ List (List Int)) = Sum.inl q := h
      by_cases x1 : f' = E
      · rw [if_pos x1] at h; cases h
      · rw [if_neg x1] at h
        by_cases x2 : T f' = 59
        · rw [if_pos x2] at h
          rcases bS_inl h with e2 | ⟨us', e2, h⟩
          · exact pAll_bad e2 (pOk_sk (by omega) (by omega)) (by omega) (by omega)
          · cases h
        · rw [if_neg x2] at h
          cases h
          exact ⟨p0, p1⟩
theorem pText_bad {pp dd q : Int} (hE : 0 ≤ E) (h : pText T E pp dd = Sum.inl q) (hp : pp ≤ 8) (hd : dd ≤ 6) : 0 ≤ q ∧ q ≤ E := by
  unfold pText at h
  by_cases c : pSk T E 0 = E
  · rw [if_pos c] at h; cases h
  · rw [if_neg c] at h
    exact pAll_bad h (pOk_sk (Int.le_refl 0) hE) hp hd
theorem apC_txt {g : Nat → Nat → Int} {u : List Int} (hu : uOk E (g 29 4) (g 29 5) u) : apC T u g 29 6 = g 29 6 := by
  rcases hu with ⟨w, pl, v, l, rfl, hu⟩ | ⟨b, rfl, hu⟩ | ⟨x, y, rfl, hu⟩ | ⟨x, y, rfl, hu⟩ | ⟨x, y, rfl, hu⟩
  · rw [apC_0]; unfold apCP
    rw [fu_nc (by decide), fu_nc (by decide), fu_nc (by decide), fu_nc (by decide), fu_nj (by decide), fu_nc (by decide), fu_nc (by decide)]
  · rw [apC_1]; unfold apCD
    rw [fu_nj (by decide), dshC_ne (by decide)]
  · rw [apC_2]; unfold apCR
    rw [fu_nc (by decide), fu_nc (by decide)]
  · rw [apC_3]; unfold apCS
    split
    · exact fu_nj (by decide)
    · split
      · exact fu_nj (by decide)
      · split
        · exact fu_nj (by decide)
        · split
          · exact fu_nc (by decide)
          · exact fu_nc (by decide)
  · rw [apC_4]; unfold apCV
    rw [fu_nc (by decide)]
theorem apCs_ok : ∀ {n : Nat} {f : Int} {us : List (List Int)} {gc : Nat → Nat → Int}, pAll T E n (gc 29 4) (gc 29 5) f = Sum.inr us → pOk T E f → gc 29 4 ≤ 8 → gc 29 5 ≤ 6 → eqc gc (apCs T us gc) ∧ (∀ j, apCs T us gc 28 j = gc 28 j) ∧ apCs T us gc 29 6 = gc 29 6
  | 0, f, us, gc, h, _, _, _ => by cases h
  | n + 1, f, us, gc, h, hf, hp1, hd1 => by
    obtain ⟨⟨f', u⟩, e, h⟩ := bS_inr (show bS (pLine T E (gc 29 4) (gc 29 5) f) _ = Sum.inr us from h)
    obtain ⟨fo', hu⟩ := pLine_ok e hf hp1 hd1
    obtain ⟨c1, c2, c3, c4⟩ := apC_ok (T := T) hu
    have c5 := apC_txt (T := T) hu
    have cn := uOk_cnt hu hp1 hd1
    have h : (if f' = E then Sum.inr [u] else if T f' = 59 then bS (pAll T E n (gc 29 4 + k0 u) (gc 29 5 + k1 u) (pSk T E (f' + 1))) (fun us => Sum.inr (u :: us)) else Sum.inl f' : Int ⊕ List (List Int)) = Sum.inr us := h
    by_cases x1 : f' = E
    · rw [if_pos x1] at h
      cases h
      exact ⟨c3, c4, c5⟩
    · rw [if_neg x1] at h
      by_cases x2 : T f' = 59
      · rw [if_pos x2] at h
        obtain ⟨us', e2, h⟩ := bS_inr h
        cases h
        rw [← c1, ← c2] at e2
        have p0 := fo'.1
        have p1 := fo'.2.1
        obtain ⟨r1, r2, r3⟩ := apCs_ok e2 (pOk_sk (by omega) (by omega)) (by omega) (by omega)
        exact ⟨eqc_tr c3 r1, fun j => (r2 j).trans (c4 j), r3.trans c5⟩
      · rw [if_neg x2] at h
        cases h
theorem pText_cls {g : Nat → Nat → Int} {us : List (List Int)} (hE : 0 ≤ E) (h : pText T E (g 29 4) (g 29 5) = Sum.inr us) (hp0 : 0 ≤ g 29 4) (hp1 : g 29 4 ≤ 8) (hd0 : 0 ≤ g 29 5) (hd1 : g 29 5 ≤ 6) : eqc g (apCs T us g) ∧ (∀ j, apCs T us g 28 j = g 28 j) ∧ apCs T us g 29 6 = g 29 6 := by
  unfold pText at h
  by_cases c : pSk T E 0 = E
  · rw [if_pos c] at h; cases h; exact ⟨eqc_refl _, fun _ => rfl, rfl⟩
  · rw [if_neg c] at h
    exact apCs_ok h (pOk_sk (Int.le_refl 0) hE) hp1 hd1
theorem pText_rel {gc gm : Nat → Nat → Int} {us : List (List Int)} (hE : 0 ≤ E) (h : pText T E (gm 149 3) (gm 149 4) = Sum.inr us) (hp0 : 0 ≤ gm 149 3) (hp1 : gm 149 3 ≤ 8) (hd0 : 0 ≤ gm 149 4) (hd1 : gm 149 4 ≤ 6) (hr : RHx 29 gc gm) : RHx 29 (apCs T us gc) (apLs T us gm) := by
  unfold pText at h
  by_cases c : pSk T E 0 = E
  · rw [if_pos c] at h; cases h; exact hr
  · rw [if_neg c] at h
    exact (RHx_all h (pOk_sk (Int.le_refl 0) hE) hp0 hp1 hd0 hd1 hr).1
end FXX2
end
section
/-! fx: the reference's house() -/
noncomputable def f_al (c len : Nat) : Bool := Nat.blt c 160 && (Nat.beq (Nat.mod (ax_cl c).1 256) 100 && Nat.beq (Nat.div (ax_cl c).1 256) len)
theorem hgA {g : Nat → Nat → Int} (hg : ∀ c j, c < 160 → j < (ax_cl c).1 / 256 → fInt c j = true → fR (g c j)) {c : Nat} (len : Nat) (q : f_al c len = true) {j : Nat} (hj : j < len) : fR (g c j) := by
  obtain ⟨q1, q2⟩ := f_and q
  obtain ⟨q2, q3⟩ := f_and q2
  have q3 : (ax_cl c).1 / 256 = len := sx_beq q3
  exact hg c j (sx_blt q1) (by omega) (f_okp (sx_blt q1) (sx_beq q2)).1
/-- the first n places of a into b -/
def fcpn (g : Nat → Nat → Int) (a b n : Nat) : Nat → Nat → Int := fun c j => if c = b ∧ j < n then g a j else g c j
theorem fcpn_s {g : Nat → Nat → Int} {a b k : Nat} : fu (fcpn g a b k) b k (g a k) = fcpn g a b (k + 1) := by
  funext c j
  unfold fu fcpn
  by_cases h1 : c = b ∧ j = k
  · rw [if_pos h1, if_pos ⟨h1.1, by omega⟩, h1.2]
  · rw [if_neg h1]
    by_cases h2 : c = b ∧ j < k
    · rw [if_pos h2, if_pos ⟨h2.1, by omega⟩]
    · rw [if_neg h2, if_neg (by omega)]
theorem fcpn_0 {g : Nat → Nat → Int} {a b : Nat} : fcpn g a b 0 = g := by
  funext c j
  unfold fcpn
  rw [if_neg (by omega)]
theorem fcpn_nc {g : Nat → Nat → Int} {a b n c j : Nat} (h : c ≠ b) : fcpn g a b n c j = g c j := if_neg (fun t => h t.1)
section FXY
variable {W : ax_W} {r : Nat} {g : Nat → Nat → Int} {Q : Nat → Nat → (Nat → Nat → Int) → Prop}
theorem sp_putsAside_1 (kq : Q 0 0 (fcpn g 149 151 364)) : ∀ (n k : Nat), k + n = 364 → fx W r 0 267 2 [1186, fI (k : Int)] [] (fcpn g 149 151 k) Q
  | n, k, hn => by
    refine fx_rg (fun hg => ?_)
    refine fx_li 1 3 (by decide +kernel) rfl ?_
    refine fx_ci (364) 6 (by decide +kernel) ?_
    refine fx_ige 27 9 (by decide +kernel) (by unfold fR; omega) (by unfold fR; omega) (fun h6 => ?_) (fun h6 => ?_)
    · refine fx_vret (by decide +kernel) ?_
      have e : k = 364 := by omega
      subst e
      exact kq
    · refine fx_la 0 10 (v := 1186) (by decide +kernel) rfl (by decide +kernel) ?_
      refine fx_gp 1186 148 4 1210 13 (by decide +kernel) ?_
      refine fx_li 1 14 (by decide +kernel) rfl ?_
      refine fx_la 0 15 (v := 1186) (by decide +kernel) rfl (by decide +kernel) ?_
      refine fx_gp 1186 148 1 1194 18 (by decide +kernel) ?_
      refine fx_li 1 19 (by decide +kernel) rfl ?_
      refine fx_al 1194 149 764 20 (by decide +kernel) rfl (by omega) (by omega) rfl ?_
      have hv := hgA hg 764 (c := 149) (j := k) (by decide +kernel) (by omega)
      rw [show ((k : Int)).toNat = k from rfl]
      rw [fcpn_nc (by decide)] at hv ⊢
      unfold fR at hv
      refine fx_as 1210 151 364 21 (by decide +kernel) rfl (by omega) (by omega) rfl (by unfold fR; omega) ?_
      rw [show ((k : Int)).toNat = k from rfl, fcpn_s]
      refine fx_inc 1 24 (1) (by decide +kernel) rfl (Or.inr (f_n4p (v := 1186) rfl (by decide))) rfl ?_
      dsimp only [List.set]
      refine fx_go 2 (by decide +kernel) ?_
      match n, hn with
      | 0, hn => exfalso; omega
      | n + 1, hn => exact sp_putsAside_1 kq n (k + 1) (by omega)
theorem sp_putsAside (kq : Q 0 0 (fcpn g 149 151 364)) : fx W r 0 267 0 [1186, 7] [] g Q := by
  refine fx_ci (0) 1 (by decide +kernel) ?_
  refine fx_si 1 2 (by decide +kernel) (Or.inr (f_n4p (v := 1186) rfl (by decide))) rfl ?_
  dsimp only [List.set]
  have := sp_putsAside_1 (W := W) (r := r) kq 364 0 rfl
  rw [fcpn_0] at this
  exact this
theorem sp_comesBack_1 (kq : Q 0 0 (fcpn g 151 149 364)) : ∀ (n k : Nat), k + n = 364 → fx W r 0 293 2 [1186, fI (k : Int)] [] (fcpn g 151 149 k) Q
  | n, k, hn => by
    refine fx_rg (fun hg => ?_)
    refine fx_li 1 3 (by decide +kernel) rfl ?_
    refine fx_ci (364) 6 (by decide +kernel) ?_
    refine fx_ige 27 9 (by decide +kernel) (by unfold fR; omega) (by unfold fR; omega) (fun h6 => ?_) (fun h6 => ?_)
    · refine fx_vret (by decide +kernel) ?_
      have e : k = 364 := by omega
      subst e
      exact kq
    · refine fx_la 0 10 (v := 1186) (by decide +kernel) rfl (by decide +kernel) ?_
      refine fx_gp 1186 148 1 1194 13 (by decide +kernel) ?_
      refine fx_li 1 14 (by decide +kernel) rfl ?_
      refine fx_la 0 15 (v := 1186) (by decide +kernel) rfl (by decide +kernel) ?_
      refine fx_gp 1186 148 4 1210 18 (by decide +kernel) ?_
      refine fx_li 1 19 (by decide +kernel) rfl ?_
      refine fx_al 1210 151 364 20 (by decide +kernel) rfl (by omega) (by omega) rfl ?_
      have hv := hgA hg 364 (c := 151) (j := k) (by decide +kernel) (by omega)
      rw [show ((k : Int)).toNat = k from rfl]
      rw [fcpn_nc (by decide)] at hv ⊢
      unfold fR at hv
      refine fx_as 1194 149 764 21 (by decide +kernel) rfl (by omega) (by omega) rfl (by unfold fR; omega) ?_
      rw [show ((k : Int)).toNat = k from rfl, fcpn_s]
      refine fx_inc 1 24 (1) (by decide +kernel) rfl (Or.inr (f_n4p (v := 1186) rfl (by decide))) rfl ?_
      dsimp only [List.set]
      refine fx_go 2 (by decide +kernel) ?_
      match n, hn with
      | 0, hn => exfalso; omega
      | n + 1, hn => exact sp_comesBack_1 kq n (k + 1) (by omega)
theorem sp_comesBack (kq : Q 0 0 (fcpn g 151 149 364)) : fx W r 0 293 0 [1186, 7] [] g Q := by
  refine fx_ci (0) 1 (by decide +kernel) ?_
  refine fx_si 1 2 (by decide +kernel) (Or.inr (f_n4p (v := 1186) rfl (by decide))) rfl ?_
  dsimp only [List.set]
  have := sp_comesBack_1 (W := W) (r := r) kq 364 0 rfl
  rw [fcpn_0] at this
  exact this
def fBeg (g : Nat → Nat → Int) : Nat → Nat → Int := fu (fu (fu (fu (fu (fu g 148 12 (-1)) 148 9 (-1)) 148 10 (g 148 8)) 148 8 0) 148 11 0) 148 13 0
theorem sp_begins (kq : Q 0 0 (fBeg g)) : fx W r 0 268 0 [1186] [] g Q := by
  refine fx_rg (fun hg => ?_)
  have hv := hg 148 8 (by decide) (by decide +kernel) (by decide +kernel)
  unfold fR at hv
  refine fx_la 0 1 (v := 1186) (by decide +kernel) rfl (by decide +kernel) ?_
  refine fx_ci (-1) 2 (by decide +kernel) ?_
  refine fx_pi 1186 148 12 5 (by decide +kernel) (by unfold fR; omega) ?_
  refine fx_la 0 6 (v := 1186) (by decide +kernel) rfl (by decide +kernel) ?_
  refine fx_ci (-1) 7 (by decide +kernel) ?_
  refine fx_pi 1186 148 9 10 (by decide +kernel) (by unfold fR; omega) ?_
  refine fx_la 0 11 (v := 1186) (by decide +kernel) rfl (by decide +kernel) ?_
  refine fx_la 0 12 (v := 1186) (by decide +kernel) rfl (by decide +kernel) ?_
  refine fx_gi 1186 148 8 15 (by decide +kernel) ?_
  try simp only [fu_app, fcy_app, Nat.reduceEqDiff, and_true, and_false, false_and, true_and, if_true, if_false, ite_true, ite_false, reduceIte, Int.reduceToNat, fx_simp0]
  refine fx_pi 1186 148 10 18 (by decide +kernel) (by unfold fR; omega) ?_
  refine fx_la 0 19 (v := 1186) (by decide +kernel) rfl (by decide +kernel) ?_
  refine fx_ci (0) 20 (by decide +kernel) ?_
  refine fx_pi 1186 148 8 23 (by decide +kernel) (by unfold fR; omega) ?_
  refine fx_la 0 24 (v := 1186) (by decide +kernel) rfl (by decide +kernel) ?_
  refine fx_ci (0) 25 (by decide +kernel) ?_
  refine fx_pi 1186 148 11 28 (by decide +kernel) (by unfold fR; omega) ?_
  refine fx_la 0 29 (v := 1186) (by decide +kernel) rfl (by decide +kernel) ?_
  refine fx_ci (0) 30 (by decide +kernel) ?_
  refine fx_pi 1186 148 13 33 (by decide +kernel) (by unfold fR; omega) ?_
  refine fx_vret (by decide +kernel) ?_
  exact kq
/-- nothing but the row, what is put aside, what is read -/
def frm (g g' : Nat → Nat → Int) : Prop := ∀ c j, c ≠ 149 → c ≠ 151 → ¬ (c = 148 ∧ (j = 0 ∨ j = 6 ∨ (8 ≤ j ∧ j ≤ 13))) → g' c j = g c j
end FXY
end
section
/-! fx: the reference's house(), whole -/
section FXZ
variable {W : ax_W} {r : Nat} {g : Nat → Nat → Int} {Q : Nat → Nat → (Nat → Nat → Int) → Prop} {T : Int → Int} {E : Int}
theorem fu_cg {g g' : Nat → Nat → Int} {c k : Nat} {z : Int} (h : ∀ j, g c j = g' c j) : ∀ j, fu g c k z c j = fu g' c k z c j := fun j => by
  unfold fu
  split
  · rfl
  · exact h j
theorem dshR_cg {g g' : Nat → Nat → Int} {f d : Int} (h : ∀ j, g 149 j = g' 149 j) : ∀ (k : Nat) (j : Nat), dshR T f d k g 149 j = dshR T f d k g' 149 j
  | 0, j => h j
  | k + 1, j => fu_cg (dshR_cg h k) j
theorem apL_cg {g g' : Nat → Nat → Int} {u : List Int} (h : ∀ j, g 149 j = g' 149 j) : ∀ j, apL T u g 149 j = apL T u g' 149 j := by
  unfold apL
  split
  · unfold apP
    rw [h 3]
    exact fu_cg (fu_cg (fu_cg (fu_cg (fu_cg (fu_cg (fu_cg (fu_cg h)))))))
  · split
    · unfold apD
      rw [h 4]
      exact fu_cg (dshR_cg h 8)
    · split
      · unfold apR
        rw [h]
        have h2 := fu_cg (k := (116 + u.getD 1 0).toNat) (z := fop 4 (g' 149 (116 + u.getD 1 0).toNat) (fop 6 1 (u.getD 2 0))) h
        rw [h2]
        exact fu_cg h2
      · split
        · exact fu_cg h
        · exact fu_cg h
theorem apLs_cg : ∀ {us : List (List Int)} {g g' : Nat → Nat → Int}, (∀ j, g 149 j = g' 149 j) → ∀ j, apLs T us g 149 j = apLs T us g' 149 j
  | [], g, g', h => h
  | u :: us, g, g', h => apLs_cg (us := us) (g := apL T u g) (g' := apL T u g') (apL_cg h)
theorem apL_txt {u : List Int} (hu : uOk E (g 149 3) (g 149 4) u) (hp0 : 0 ≤ g 149 3) (hd0 : 0 ≤ g 149 4) : apL T u g 149 0 = g 149 0 := by
  rcases hu with ⟨w, pl, v, l, rfl, hu⟩ | ⟨b, rfl, hu⟩ | ⟨x, y, rfl, hu⟩ | ⟨x, y, rfl, hu⟩ | ⟨x, y, rfl, hu⟩
  · rw [apL_0]; unfold apP
    rw [fu_nj (by decide), fu_nj (by omega), fu_nj (by omega), fu_nj (by omega), fu_nj (by omega), fu_nj (by omega), fu_nj (by omega), fu_nj (by omega)]
  · rw [apL_1]; unfold apD
    rw [fu_nj (by decide), dshR_ne hd0 (Or.inr (by decide))]
  · rw [apL_2]; unfold apR
    rw [fu_nj (by omega), fu_nj (by omega)]
  · rw [apL_3, fu_nj (by omega)]
  · rw [apL_4]; unfold apV
    rw [fu_nj (by omega)]
theorem apLs_ok : ∀ {n : Nat} {f : Int} {us : List (List Int)} {gm : Nat → Nat → Int}, pAll T E n (gm 149 3) (gm 149 4) f = Sum.inr us → pOk T E f → 0 ≤ gm 149 3 → gm 149 3 ≤ 8 → 0 ≤ gm 149 4 → gm 149 4 ≤ 6 → apLs T us gm 149 0 = gm 149 0 ∧ (∀ c j, ¬ (c = 149 ∧ j < 364) → apLs T us gm c j = gm c j)
  | 0, f, us, gm, h, _, _, _, _, _ => by cases h
  | n + 1, f, us, gm, h, hf, hp0, hp1, hd0, hd1 => by
    obtain ⟨⟨f', u⟩, e, h⟩ := bS_inr (show bS (pLine T E (gm 149 3) (gm 149 4) f) _ = Sum.inr us from h)
    obtain ⟨fo', hu⟩ := pLine_ok e hf hp1 hd1
    have ht := apL_txt (T := T) hu hp0 hd0
    obtain ⟨m1, m2, m3, m4, m5, m6, m7⟩ := apL_ok (T := T) hu hp0 hp1 hd0 hd1
    have h : (if f' = E then Sum.inr [u] else if T f' = 59 then bS (pAll T E n (gm 149 3 + k0 u) (gm 149 4 + k1 u) (pSk T E (f' + 1))) (fun us => Sum.inr (u :: us)) else Sum.inl f' : Int ⊕ List (List Int)) = Sum.inr us := h
    by_cases x1 : f' = E
    · rw [if_pos x1] at h
      cases h
      exact ⟨ht, m3⟩
    · rw [if_neg x1] at h
      by_cases x2 : T f' = 59
      · rw [if_pos x2] at h
        obtain ⟨us', e2, h⟩ := bS_inr h
        cases h
        rw [← m1, ← m2] at e2
        have p0 := fo'.1
        have p1 := fo'.2.1
        obtain ⟨r1, r2⟩ := apLs_ok e2 (pOk_sk (by omega) (by omega)) (by omega) (by omega) (by omega) (by omega)
        exact ⟨r1.trans ht, fun c j t => (r2 c j t).trans (m3 c j t)⟩
      · rw [if_neg x2] at h
        cases h
theorem pText_ok {us : List (List Int)} (hE : 0 ≤ E) (h : pText T E (g 149 3) (g 149 4) = Sum.inr us) (hp0 : 0 ≤ g 149 3) (hp1 : g 149 3 ≤ 8) (hd0 : 0 ≤ g 149 4) (hd1 : g 149 4 ≤ 6) : apLs T us g 149 0 = g 149 0 ∧ (∀ c j, ¬ (c = 149 ∧ j < 364) → apLs T us g c j = g c j) := by
  unfold pText at h
  by_cases c : pSk T E 0 = E
  · rw [if_pos c] at h; cases h; exact ⟨rfl, fun _ _ _ => rfl⟩
  · rw [if_neg c] at h
    exact apLs_ok h (pOk_sk (Int.le_refl 0) hE) hp0 hp1 hd0 hd1
theorem sp_mhouse (hT : ∀ k : Int, 0 ≤ k → k < 400 → g 153 k.toNat = T k ∧ 0 ≤ T k ∧ T k ≤ 255) (hE : g 148 8 = E) (hE0 : 0 ≤ E) (hE1 : E ≤ 400) (hp0 : 0 ≤ g 149 3) (hp1 : g 149 3 ≤ 8) (hd0 : 0 ≤ g 149 4) (hd1 : g 149 4 ≤ 6) (ht0 : 0 ≤ g 149 0) (ht1 : g 149 0 ≤ 12)
    (k1 : ∀ q, pText T E (g 149 3) (g 149 4) = Sum.inl q → ∀ g', frm g g' → g' 148 0 = 1 → g' 148 12 = q → g' 148 8 = 0 → g' 148 6 = g 148 6 → (∀ j, g' 149 j = g 149 j) → Q 1 (fI 0) g')
    (k2 : ∀ us, pText T E (g 149 3) (g 149 4) = Sum.inr us → g 149 0 = 12 → ∀ g', frm g g' → g' 148 0 = 2 → g' 148 12 = -1 → g' 148 8 = 0 → g' 148 6 = g 148 6 → (∀ j, g' 149 j = g 149 j) → Q 1 (fI 0) g')
    (k3 : ∀ us, pText T E (g 149 3) (g 149 4) = Sum.inr us → g 149 0 ≠ 12 → ∀ g', frm g g' → g' 148 0 = 0 → g' 148 12 = -1 → g' 148 8 = 0 → g' 148 6 = 0 → (∀ j, g' 149 j = fu (apLs T us g) 149 0 (g 149 0 + 1) 149 j) → Q 1 (fI (g 149 0 + 1)) g') : fx W r 9 266 0 [1186, 7] [] g Q := by
  have gm : ∀ j, fBeg (fcpn g 149 151 364) 149 j = g 149 j := fun j => by
    unfold fBeg
    rw [fu_nc (by decide), fu_nc (by decide), fu_nc (by decide), fu_nc (by decide), fu_nc (by decide), fu_nc (by decide), fcpn_nc (by decide)]
  have ga : ∀ j, j < 364 → fBeg (fcpn g 149 151 364) 151 j = g 149 j := fun j hj => by
    unfold fBeg
    rw [fu_nc (by decide), fu_nc (by decide), fu_nc (by decide), fu_nc (by decide), fu_nc (by decide), fu_nc (by decide)]
    exact if_pos ⟨rfl, hj⟩
  have gfr : ∀ c j, c ≠ 151 → ¬ (c = 148 ∧ 8 ≤ j ∧ j ≤ 13) → fBeg (fcpn g 149 151 364) c j = g c j := fun c j h1 h2 => by
    unfold fBeg
    rw [fu_ne (by omega), fu_ne (by omega), fu_ne (by omega), fu_ne (by omega), fu_ne (by omega), fu_ne (by omega), fcpn_nc h1]
  have gt : fBeg (fcpn g 149 151 364) 148 8 = 0 := by
    unfold fBeg
    rw [fu_nj (by decide), fu_nj (by decide), fu_eq]
  have gb : fBeg (fcpn g 149 151 364) 148 9 = -1 := by
    unfold fBeg
    rw [fu_nj (by decide), fu_nj (by decide), fu_nj (by decide), fu_nj (by decide), fu_eq]
  have gf : fBeg (fcpn g 149 151 364) 148 12 = -1 := by
    unfold fBeg
    rw [fu_nj (by decide), fu_nj (by decide), fu_nj (by decide), fu_nj (by decide), fu_nj (by decide), fu_eq]
  have gat : fBeg (fcpn g 149 151 364) 148 11 = 0 := by
    unfold fBeg
    rw [fu_nj (by decide), fu_eq]
  have ge : fBeg (fcpn g 149 151 364) 148 10 = E := by
    unfold fBeg
    rw [fu_nj (by decide), fu_nj (by decide), fu_nj (by decide), fu_eq, fcpn_nc (by decide)]
    exact hE
  have gR : RT T E (fBeg (fcpn g 149 151 364)) := by
    refine ⟨ge, hE0, hE1, Or.inl gb, fun k h0 h1 => ?_⟩
    unfold flt
    rw [if_pos gb, gfr _ _ (by decide) (fun t => absurd t.1 (by decide))]
    exact hT k h0 h1
  refine fx_la 0 1 (v := 1186) (by decide +kernel) rfl (by decide +kernel) ?_
  refine fx_c1 267 21 4 0 [7] (by decide +kernel) (by decide) rfl (by first | decide | omega) ?_
  refine sp_putsAside (fK0 ?_)
  refine fx_la 0 5 (v := 1186) (by decide +kernel) rfl (by decide +kernel) ?_
  refine fx_c1 268 21 8 0 [] (by decide +kernel) (by decide) rfl (by first | decide | omega) ?_
  refine sp_begins (fK0 ?_)
  generalize fBeg (fcpn g 149 151 364) = G at *
  refine fx_la 0 9 (v := 1186) (by decide +kernel) rfl (by decide +kernel) ?_
  refine fx_ci (0) 10 (by decide +kernel) ?_
  refine fx_c2 269 21 13 8 [7, 7] (by decide +kernel) (by decide) (by decide) (fI_n4 _) rfl (by first | decide | omega) ?_
  refine sp_read gb gR gf gat (by rw [gm]; exact hp0) (by rw [gm]; exact hp1) (by rw [gm]; exact hd0) (by rw [gm]; exact hd1) (fun us e a v q1 q2 q3 => fK1 ?_) (fun q e g' v q1 q2 q3 q4 q5 => fK1 ?_)
  · rw [gm, gm] at e
    have e' := e
    rw [← gm 3, ← gm 4] at e'
    obtain ⟨t1, t2⟩ := pText_ok hE0 e' (by rw [gm]; exact hp0) (by rw [gm]; exact hp1) (by rw [gm]; exact hd0) (by rw [gm]; exact hd1)
    rw [gm] at t1
    have t3 := apLs_cg (T := T) (us := us) gm
    have lf : apLs T us G 148 12 = -1 := by rw [t2 _ _ (fun t => absurd t.1 (by decide))]; exact gf
    have lt : apLs T us G 148 8 = 0 := by rw [t2 _ _ (fun t => absurd t.1 (by decide))]; exact gt
    have la : apLs T us G 148 6 = g 148 6 := by rw [t2 _ _ (fun t => absurd t.1 (by decide)), gfr _ _ (by decide) (by decide)]
    have ls : ∀ j, j < 364 → apLs T us G 151 j = g 149 j := fun j hj => by rw [t2 _ _ (fun t => absurd t.1 (by decide))]; exact ga j hj
    have lr : ∀ c j, c ≠ 149 → c ≠ 151 → ¬ (c = 148 ∧ 8 ≤ j ∧ j ≤ 13) → apLs T us G c j = g c j := fun c j h1 h2 h3 => by rw [t2 _ _ (fun t => h1 t.1), gfr _ _ h2 h3]
    have lb : ∀ j, 364 ≤ j → apLs T us G 149 j = g 149 j := fun j hj => by rw [t2 _ _ (fun t => by omega), gm]
    generalize apLs T us G = H at *
    refine fx_si 1 14 (by decide +kernel) (Or.inr (f_n4p (v := 1186) rfl (by decide))) rfl ?_
    dsimp only [List.set]
    refine fx_la 0 15 (v := 1186) (by decide +kernel) rfl (by decide +kernel) ?_
    refine fx_la 0 16 (v := 1186) (by decide +kernel) rfl (by decide +kernel) ?_
    refine fx_gi 1186 148 12 19 (by decide +kernel) ?_
    try simp only [fu_app, fcy_app, Nat.reduceEqDiff, and_true, and_false, false_and, true_and, if_true, if_false, ite_true, ite_false, reduceIte, Int.reduceToNat, fx_simp0]
    refine fx_ci (-1) 20 (by decide +kernel) ?_
    refine fx_ieq 27 23 (by decide +kernel) (by unfold fR; omega) (by unfold fR; omega) (fun h20 => ?_) (fun h20 => ?_)
    · refine fx_la 0 28 (v := 1186) (by decide +kernel) rfl (by decide +kernel) ?_
      refine fx_gp 1186 148 1 1194 31 (by decide +kernel) ?_
      refine fx_ci (0) 32 (by decide +kernel) ?_
      refine fx_al 1194 149 764 33 (by decide +kernel) rfl (by omega) (by omega) rfl ?_
      try simp only [fu_app, fcy_app, Nat.reduceEqDiff, and_true, and_false, false_and, true_and, if_true, if_false, ite_true, ite_false, reduceIte, Int.reduceToNat, fx_simp0]
      refine fx_ci (12) 35 (by decide +kernel) ?_
      refine fx_ine 42 38 (by decide +kernel) (by unfold fR; omega) (by unfold fR; omega) (fun h35 => ?_) (fun h35 => ?_)
      · refine fx_ci (0) 43 (by decide +kernel) ?_
        refine fx_pi 1186 148 0 46 (by decide +kernel) (by unfold fR; omega) ?_
        refine fx_la 0 47 (v := 1186) (by decide +kernel) rfl (by decide +kernel) ?_
        refine fx_gi 1186 148 0 50 (by decide +kernel) ?_
        try simp only [fu_app, fcy_app, Nat.reduceEqDiff, and_true, and_false, false_and, true_and, if_true, if_false, ite_true, ite_false, reduceIte, Int.reduceToNat, fx_simp0]
        refine fx_zle 59 53 (by decide +kernel) (by unfold fR; omega) (fun h50 => ?_) (fun h50 => ?_)
        · refine fx_la 0 60 (v := 1186) (by decide +kernel) rfl (by decide +kernel) ?_
          refine fx_gp 1186 148 1 1194 63 (by decide +kernel) ?_
          refine fx_ci (0) 64 (by decide +kernel) ?_
          refine fx_dup2 65 (by decide +kernel) rfl (fI_n4 _) (by decide) ?_
          refine fx_al 1194 149 764 66 (by decide +kernel) rfl (by omega) (by omega) rfl ?_
          try simp only [fu_app, fcy_app, Nat.reduceEqDiff, and_true, and_false, false_and, true_and, if_true, if_false, ite_true, ite_false, reduceIte, Int.reduceToNat, fx_simp0]
          refine fx_ci (1) 67 (by decide +kernel) ?_
          refine fx_add 68 (by decide +kernel) rfl ?_
          refine fx_as 1194 149 764 69 (by decide +kernel) rfl (by omega) (by omega) rfl (by unfold fR; omega) ?_
          refine fx_la 0 70 (v := 1186) (by decide +kernel) rfl (by decide +kernel) ?_
          refine fx_ci (0) 71 (by decide +kernel) ?_
          refine fx_pi 1186 148 6 74 (by decide +kernel) (by unfold fR; omega) ?_
          refine fx_la 0 75 (v := 1186) (by decide +kernel) rfl (by decide +kernel) ?_
          refine fx_gp 1186 148 1 1194 78 (by decide +kernel) ?_
          refine fx_ci (0) 79 (by decide +kernel) ?_
          refine fx_al 1194 149 764 80 (by decide +kernel) rfl (by omega) (by omega) rfl ?_
          try simp only [fu_app, fcy_app, Nat.reduceEqDiff, and_true, and_false, false_and, true_and, if_true, if_false, ite_true, ite_false, reduceIte, Int.reduceToNat, fx_simp0]
          refine fx_ret (by decide +kernel) ?_
          rw [t1]
          refine k3 us e (by omega) _ (fun c j h1 h2 h3 => ?_) ?_ ?_ ?_ ?_ (fun j => ?_)
          · rw [fu_ne (by omega), fu_ne (by omega), fu_ne (by omega), fu_ne (by omega)]
            exact lr c j h1 h2 (by omega)
          · rw [fu_nj (by decide), fu_nc (by decide), fu_eq]
          · rw [fu_nj (by decide), fu_nc (by decide), fu_nj (by decide), fu_nj (by decide)]; exact lf
          · rw [fu_nj (by decide), fu_nc (by decide), fu_nj (by decide), fu_nj (by decide)]; exact lt
          · rw [fu_eq]
          · rw [fu_nc (by decide)]
            by_cases c : j = 0
            · subst c
              rw [fu_eq]
              exact (fu_eq _ _ _ _).symm
            · rw [fu_nj c, fu_nc (by decide), fu_nc (by decide), fu_nj c]
              exact t3 j
        · exfalso; omega
      · refine fx_ci (2) 39 (by decide +kernel) ?_
        refine fx_go 43 (by decide +kernel) ?_
        refine fx_pi 1186 148 0 46 (by decide +kernel) (by unfold fR; omega) ?_
        refine fx_la 0 47 (v := 1186) (by decide +kernel) rfl (by decide +kernel) ?_
        refine fx_gi 1186 148 0 50 (by decide +kernel) ?_
        try simp only [fu_app, fcy_app, Nat.reduceEqDiff, and_true, and_false, false_and, true_and, if_true, if_false, ite_true, ite_false, reduceIte, Int.reduceToNat, fx_simp0]
        refine fx_zle 59 53 (by decide +kernel) (by unfold fR; omega) (fun h50 => ?_) (fun h50 => ?_)
        · exfalso; omega
        · refine fx_la 0 54 (v := 1186) (by decide +kernel) rfl (by decide +kernel) ?_
          refine fx_c1 293 21 57 0 [7] (by decide +kernel) (by decide) rfl (by first | decide | omega) ?_
          refine sp_comesBack (fK0 ?_)
          refine fx_ci (0) 58 (by decide +kernel) ?_
          refine fx_ret (by decide +kernel) ?_
          refine k2 us e (by omega) _ (fun c j h1 h2 h3 => ?_) ?_ ?_ ?_ ?_ (fun j => ?_)
          · rw [fcpn_nc h1, fu_ne (by omega), fu_ne (by omega)]
            exact lr c j h1 h2 (by omega)
          · rw [fcpn_nc (by decide), fu_eq]
          · rw [fcpn_nc (by decide), fu_nj (by decide), fu_nj (by decide)]; exact lf
          · rw [fcpn_nc (by decide), fu_nj (by decide), fu_nj (by decide)]; exact lt
          · rw [fcpn_nc (by decide), fu_nj (by decide), fu_nj (by decide)]; exact la
          · unfold fcpn
            by_cases c : 149 = 149 ∧ j < 364
            · rw [if_pos c, fu_nc (by decide), fu_nc (by decide)]; exact ls j c.2
            · rw [if_neg c, fu_nc (by decide), fu_nc (by decide)]; exact lb j (by omega)
    · exact absurd lf h20
  · rw [gm, gm] at e
    have lt : g' 148 8 = 0 := by rw [q1 _ _ (fun t => absurd t.1 (by decide)) (by decide)]; exact gt
    have la : g' 148 6 = g 148 6 := by rw [q1 _ _ (fun t => absurd t.1 (by decide)) (by decide), gfr _ _ (by decide) (by decide)]
    have ls : ∀ j, j < 364 → g' 151 j = g 149 j := fun j hj => by rw [q1 _ _ (fun t => absurd t.1 (by decide)) (fun t => absurd t.1 (by decide))]; exact ga j hj
    have lr : ∀ c j, c ≠ 149 → c ≠ 151 → ¬ (c = 148 ∧ 8 ≤ j ∧ j ≤ 13) → g' c j = g c j := fun c j h1 h2 h3 => by rw [q1 _ _ (fun t => h1 t.1) (fun t => by omega), gfr _ _ h2 h3]
    have lb : ∀ j, 364 ≤ j → g' 149 j = g 149 j := fun j hj => by rw [q1 _ _ (fun t => by omega) (fun t => absurd t.1 (by decide)), gm]
    refine fx_si 1 14 (by decide +kernel) (Or.inr (f_n4p (v := 1186) rfl (by decide))) rfl ?_
    dsimp only [List.set]
    refine fx_la 0 15 (v := 1186) (by decide +kernel) rfl (by decide +kernel) ?_
    refine fx_la 0 16 (v := 1186) (by decide +kernel) rfl (by decide +kernel) ?_
    refine fx_gi 1186 148 12 19 (by decide +kernel) ?_
    try simp only [fu_app, fcy_app, Nat.reduceEqDiff, and_true, and_false, false_and, true_and, if_true, if_false, ite_true, ite_false, reduceIte, Int.reduceToNat, fx_simp0]
    refine fx_ci (-1) 20 (by decide +kernel) ?_
    refine fx_ieq 27 23 (by decide +kernel) (by unfold fR; omega) (by unfold fR; omega) (fun h20 => ?_) (fun h20 => ?_)
    · exfalso; omega
    · refine fx_ci (1) 24 (by decide +kernel) ?_
      refine fx_go 43 (by decide +kernel) ?_
      refine fx_pi 1186 148 0 46 (by decide +kernel) (by unfold fR; omega) ?_
      refine fx_la 0 47 (v := 1186) (by decide +kernel) rfl (by decide +kernel) ?_
      refine fx_gi 1186 148 0 50 (by decide +kernel) ?_
      try simp only [fu_app, fcy_app, Nat.reduceEqDiff, and_true, and_false, false_and, true_and, if_true, if_false, ite_true, ite_false, reduceIte, Int.reduceToNat, fx_simp0]
      refine fx_zle 59 53 (by decide +kernel) (by unfold fR; omega) (fun h50 => ?_) (fun h50 => ?_)
      · exfalso; omega
      · refine fx_la 0 54 (v := 1186) (by decide +kernel) rfl (by decide +kernel) ?_
        refine fx_c1 293 21 57 0 [7] (by decide +kernel) (by decide) rfl (by first | decide | omega) ?_
        refine sp_comesBack (fK0 ?_)
        refine fx_ci (0) 58 (by decide +kernel) ?_
        refine fx_ret (by decide +kernel) ?_
        refine k1 q e _ (fun c j h1 h2 h3 => ?_) ?_ ?_ ?_ ?_ (fun j => ?_)
        · rw [fcpn_nc h1, fu_ne (by omega)]
          exact lr c j h1 h2 (by omega)
        · rw [fcpn_nc (by decide), fu_eq]
        · rw [fcpn_nc (by decide), fu_nj (by decide)]; exact q2
        · rw [fcpn_nc (by decide), fu_nj (by decide)]; exact lt
        · rw [fcpn_nc (by decide), fu_nj (by decide)]; exact la
        · unfold fcpn
          by_cases c : 149 = 149 ∧ j < 364
          · rw [if_pos c, fu_nc (by decide)]; exact ls j c.2
          · rw [if_neg c, fu_nc (by decide)]; exact lb j (by omega)
end FXZ
end
