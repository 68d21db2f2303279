/-! fx: stretches of letters -/
def spn (p : Int → Bool) : Nat → Int → Int
  | 0, i => i
  | n + 1, i => if p i = true then spn p n (i + 1) else i
def prun (p : Int → Bool) (E i : Int) : Int := spn p (E - i).toNat i
theorem prun_stop {p : Int → Bool} {E i : Int} (h : E ≤ i) : prun p E i = i := by
  unfold prun
  rw [show (E - i).toNat = 0 by omega]
  rfl
theorem prun_step {p : Int → Bool} {E i : Int} (h : i < E) (hp : p i = true) : prun p E i = prun p E (i + 1) := by
  unfold prun
  rw [show (E - i).toNat = (E - (i + 1)).toNat + 1 by omega]
  show (if p i = true then _ else _) = _
  rw [if_pos hp]
theorem prun_no {p : Int → Bool} {E i : Int} (hp : p i = false) : prun p E i = i := by
  unfold prun
  cases (E - i).toNat with
  | zero => rfl
  | succ n =>
    show (if p i = true then _ else _) = _
    rw [hp]
    rfl
theorem spn_ok {p : Int → Bool} : ∀ (n : Nat) (i : Int), i ≤ spn p n i ∧ spn p n i ≤ i + n ∧ (∀ k, i ≤ k → k < spn p n i → p k = true) ∧ (spn p n i < i + n → p (spn p n i) = false)
  | 0, i => ⟨by show i ≤ i; omega, by show i ≤ i + 0; omega, fun k h1 h2 => by have h2 : k < i := h2; omega, fun h => by have h : i < i + 0 := h; omega⟩
  | n + 1, i => by
    show i ≤ (if p i = true then spn p n (i + 1) else i) ∧ (if p i = true then spn p n (i + 1) else i) ≤ i + (n + 1 : Nat) ∧ (∀ k, i ≤ k → k < (if p i = true then spn p n (i + 1) else i) → p k = true) ∧ ((if p i = true then spn p n (i + 1) else i) < i + (n + 1 : Nat) → p (if p i = true then spn p n (i + 1) else i) = false)
    obtain ⟨h1, h2, h3, h4⟩ := spn_ok (p := p) n (i + 1)
    by_cases hp : p i = true
    · rw [if_pos hp]
      refine ⟨by omega, by omega, fun k k1 k2 => ?_, fun h => h4 (by omega)⟩
      by_cases e : k = i
      · rw [e]; exact hp
      · exact h3 k (by omega) k2
    · rw [if_neg hp]
      refine ⟨by omega, by omega, fun k k1 k2 => by omega, fun _ => ?_⟩
      cases q : p i with
      | true => exact absurd q hp
      | false => rfl
theorem prun_ge {p : Int → Bool} {E i : Int} : i ≤ prun p E i := (spn_ok _ _).1
theorem prun_le {p : Int → Bool} {E i : Int} (h : i ≤ E) : prun p E i ≤ E := by have := (spn_ok (p := p) (E - i).toNat i).2.1; unfold prun; omega
theorem prun_all {p : Int → Bool} {E i k : Int} (h1 : i ≤ k) (h2 : k < prun p E i) : p k = true := (spn_ok _ _).2.2.1 k h1 h2
theorem prun_end {p : Int → Bool} {E i : Int} (h : prun p E i < E) (hi : i ≤ E) : p (prun p E i) = false := (spn_ok _ _).2.2.2 (by unfold prun at h; omega)
theorem prun_idem {p : Int → Bool} {E i : Int} (hi : i ≤ E) : prun p E (prun p E i) = prun p E i := by
  by_cases h : prun p E i < E
  · exact prun_no (prun_end h hi)
  · exact prun_stop (by omega)
def isSp (T : Int → Int) (i : Int) : Bool := decide (T i = 32)
def isLe (T : Int → Int) (i : Int) : Bool := decide (97 ≤ T i ∧ T i ≤ 122)
def isDi (T : Int → Int) (i : Int) : Bool := decide (48 ≤ T i ∧ T i ≤ 57)
abbrev pSk (T : Int → Int) (E i : Int) : Int := prun (isSp T) E i
abbrev pWe (T : Int → Int) (E i : Int) : Int := prun (isLe T) E i
abbrev pDg (T : Int → Int) (E i : Int) : Int := prun (isDi T) E i
theorem pSk_ge (T : Int → Int) (E i : Int) : i ≤ pSk T E i := prun_ge
theorem pWe_ge (T : Int → Int) (E i : Int) : i ≤ pWe T E i := prun_ge
theorem pDg_ge (T : Int → Int) (E i : Int) : i ≤ pDg T E i := prun_ge
theorem pSk_le {T : Int → Int} {E i : Int} (h : i ≤ E) : pSk T E i ≤ E := prun_le h
theorem pWe_le {T : Int → Int} {E i : Int} (h : i ≤ E) : pWe T E i ≤ E := prun_le h
theorem pDg_le {T : Int → Int} {E i : Int} (h : i ≤ E) : pDg T E i ≤ E := prun_le h
theorem pSk_id {T : Int → Int} {E i : Int} (h : i ≤ E) : pSk T E (pSk T E i) = pSk T E i := prun_idem h
/-- the word s stands at i, and no letter behind it -/
def pWd (T : Int → Int) (E : Int) (ws : List Nat) (i : Int) : Prop := pWe T E i - i = ws.length ∧ ∀ k : Nat, k < ws.length → T (i + k) = (ws.getD k 0 : Nat)
theorem fu_self (g : Nat → Nat → Int) (c j : Nat) : fu g c j (g c j) = g := by
  funext c' j'
  unfold fu
  split
  · rename_i h; rw [h.1, h.2]
  · rfl
theorem fu_fu (g : Nat → Nat → Int) (c j : Nat) (y z : Int) : fu (fu g c j y) c j z = fu g c j z := by
  funext c' j'
  unfold fu
  split <;> rfl
theorem fu_sw (g : Nat → Nat → Int) {c j c2 j2 : Nat} (y z : Int) (h : ¬ (c = c2 ∧ j = j2)) : fu (fu g c j y) c2 j2 z = fu (fu g c2 j2 z) c j y := by
  funext c' j'
  unfold fu
  by_cases h1 : c' = c2 ∧ j' = j2
  · rw [if_pos h1]
    by_cases h2 : c' = c ∧ j' = j
    · exact absurd ⟨h2.1.symm.trans h1.1, h2.2.symm.trans h1.2⟩ h
    · rw [if_neg h2, if_pos h1]
  · rw [if_neg h1]
    by_cases h2 : c' = c ∧ j' = j
    · rw [if_pos h2, if_pos h2]
    · rw [if_neg h2, if_neg h2, if_neg h1]
/-! the reference reads -/
/-- the letters T, E of them; -1: of the tape -/
def RT (T : Int → Int) (E : Int) (g : Nat → Nat → Int) : Prop := g 148 10 = E ∧ 0 ≤ E ∧ E ≤ 400 ∧ (g 148 9 = -1 ∨ g 148 9 = 364) ∧ ∀ k, 0 ≤ k → k < 400 → flt g k = T k ∧ 0 ≤ T k ∧ T k ≤ 255
theorem RT_fu {T : Int → Int} {E : Int} {g : Nat → Nat → Int} (h : RT T E g) {j : Nat} {z : Int} (h1 : j ≠ 9) (h2 : j ≠ 10) : RT T E (fu g 148 j z) := by
  obtain ⟨a1, a2, a3, a4, a5⟩ := h
  refine ⟨by rw [fu_nj (Ne.symm h2)]; exact a1, a2, a3, by rw [fu_nj (Ne.symm h1)]; exact a4, fun k k0 k1 => ?_⟩
  have e : flt (fu g 148 j z) k = flt g k := by
    unfold flt
    rw [fu_nj (Ne.symm h1), fu_nc (by decide), fu_nc (by decide)]
  rw [e]
  exact a5 k k0 k1
section FXG
variable {W : ax_W} {r : Nat} {g : Nat → Nat → Int} {Q : Nat → Nat → (Nat → Nat → Int) → Prop} {T : Int → Int} {E : Int}
theorem sp_letterT {k : Int} (h : RT T E g) (hk : 0 ≤ k) (hE : k < 400) (kq : Q 1 (fI (T k)) g) : fx W r 0 272 0 [1186, fI k] [] g Q := by
  obtain ⟨a1, a2, a3, a4, a5⟩ := h
  refine sp_letter hk (by omega) ?_
  rw [(a5 k hk hE).1]
  exact kq
theorem sp_skip_n : ∀ (n : Nat) (g : Nat → Nat → Int), RT T E g → 0 ≤ g 148 11 → (E - g 148 11).toNat = n → Q 0 0 (fu g 148 11 (spn (isSp T) n (g 148 11))) → fx W r 1 271 0 [1186] [] g Q
  | 0, g, h, h0, hn, kq => by
    have hs := h
    obtain ⟨a1, a2, a3, a4, a5⟩ := h
    refine fx_rg (fun hg => ?_)
    have kq : Q 0 0 (fu g 148 11 (g 148 11)) := kq
    rw [fu_self] at kq
    refine fx_la 0 1 (v := 1186) (by decide +kernel) rfl (by decide +kernel) ?_
    refine fx_gi 1186 148 11 4 (by decide +kernel) ?_
    refine fx_la 0 5 (v := 1186) (by decide +kernel) rfl (by decide +kernel) ?_
    refine fx_gi 1186 148 10 8 (by decide +kernel) ?_
    refine fx_ige 37 11 (by decide +kernel) (by first | exact hg 148 11 (by decide) (by decide +kernel) (by decide +kernel) | (unfold fR; omega)) (by first | exact hg 148 10 (by decide) (by decide +kernel) (by decide +kernel) | (unfold fR; omega)) (fun h8 => ?_) (fun h8 => ?_)
    · refine fx_vret (by decide +kernel) ?_
      exact kq
    · refine fx_la 0 12 (v := 1186) (by decide +kernel) rfl (by decide +kernel) ?_
      refine fx_la 0 13 (v := 1186) (by decide +kernel) rfl (by decide +kernel) ?_
      refine fx_gi 1186 148 11 16 (by decide +kernel) ?_
      refine fx_c2 272 21 19 0 [] (by decide +kernel) (by decide) (by decide) (fI_n4 _) rfl (by first | decide | omega) ?_
      exfalso; omega
  | n + 1, g, h, h0, hn, kq => by
    have hs := h
    obtain ⟨a1, a2, a3, a4, a5⟩ := h
    refine fx_rg (fun hg => ?_)
    have kq : Q 0 0 (fu g 148 11 (if isSp T (g 148 11) = true then spn (isSp T) n (g 148 11 + 1) else g 148 11)) := kq
    refine fx_la 0 1 (v := 1186) (by decide +kernel) rfl (by decide +kernel) ?_
    refine fx_gi 1186 148 11 4 (by decide +kernel) ?_
    refine fx_la 0 5 (v := 1186) (by decide +kernel) rfl (by decide +kernel) ?_
    refine fx_gi 1186 148 10 8 (by decide +kernel) ?_
    refine fx_ige 37 11 (by decide +kernel) (by first | exact hg 148 11 (by decide) (by decide +kernel) (by decide +kernel) | (unfold fR; omega)) (by first | exact hg 148 10 (by decide) (by decide +kernel) (by decide +kernel) | (unfold fR; omega)) (fun h8 => ?_) (fun h8 => ?_)
    · refine fx_vret (by decide +kernel) ?_
      first
        | (exfalso; omega)
        | (rw [if_neg (by unfold isSp; simp only [decide_eq_true_eq]; omega), fu_self] at kq
           exact kq)
    · refine fx_la 0 12 (v := 1186) (by decide +kernel) rfl (by decide +kernel) ?_
      refine fx_la 0 13 (v := 1186) (by decide +kernel) rfl (by decide +kernel) ?_
      refine fx_gi 1186 148 11 16 (by decide +kernel) ?_
      refine fx_c2 272 21 19 0 [] (by decide +kernel) (by decide) (by decide) (fI_n4 _) rfl (by first | decide | omega) ?_
      have t5 := a5 (g 148 11) h0 (by omega)
      refine sp_letterT hs h0 (by omega) (fK1 ?_)
      refine fx_ci (32) 21 (by decide +kernel) ?_
      refine fx_ine 37 24 (by decide +kernel) (by unfold fR; omega) (by unfold fR; omega) (fun h21 => ?_) (fun h21 => ?_)
      · refine fx_vret (by decide +kernel) ?_
        first
          | (exfalso; omega)
          | (rw [if_neg (by unfold isSp; simp only [decide_eq_true_eq]; omega), fu_self] at kq
             exact kq)
      · refine fx_la 0 25 (v := 1186) (by decide +kernel) rfl (by decide +kernel) ?_
        refine fx_dup 26 (by decide +kernel) rfl (by decide) ?_
        refine fx_gi 1186 148 11 29 (by decide +kernel) ?_
        try simp only [fu_app, fcy_app, Nat.reduceEqDiff, and_true, and_false, false_and, true_and, if_true, if_false, ite_true, ite_false, reduceIte, Int.reduceToNat, fx_simp0]
        refine fx_ci (1) 30 (by decide +kernel) ?_
        refine fx_add 31 (by decide +kernel) rfl ?_
        refine fx_pi 1186 148 11 34 (by decide +kernel) (by unfold fR; omega) ?_
        refine fx_go 0 (by decide +kernel) ?_
        rw [if_pos (by unfold isSp; simp only [decide_eq_true_eq]; omega)] at kq
        refine sp_skip_n n _ (RT_fu hs (by decide) (by decide)) (by rw [fu_eq]; omega) (by rw [fu_eq]; omega) ?_
        rw [fu_eq, fu_fu]
        exact kq
theorem sp_skip (h : RT T E g) (h0 : 0 ≤ g 148 11) (kq : Q 0 0 (fu g 148 11 (pSk T E (g 148 11)))) : fx W r 1 271 0 [1186] [] g Q := sp_skip_n _ g h h0 rfl kq
end FXG
