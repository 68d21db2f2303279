/-! fx: the law's text, pure: where it goes on, and the steps that it says -/
/-- a fact that is told by a word; -1: none -/
noncomputable def pFact (T : Int → Int) (E f : Int) : Int := cif (pWd T E [112, 101, 114, 115, 111, 110] f) 1000 (cif (pWd T E [112, 108, 97, 99, 101] f) 1001 (cif (pWd T E [100, 105, 115, 104] f) 1002 (cif (pWd T E [99, 111, 108, 100] f) 1003 (cif (pWd T E [118, 111, 116, 101] f) 1004 (cif (pWd T E [119, 101, 105, 103, 104, 116] f) 1005 (cif (pWd T E [110, 105, 103, 104, 116] f) 1006 (-1)))))))
noncomputable def pPart (T : Int → Int) (E f : Int) : Int ⊕ (Int × Int) := cif (pFact T E f = -1) (cif (pN T E 0 999 f) (Sum.inr (pSk T E (pDg T E f), pNu T E f)) (Sum.inl f)) (Sum.inr (pSk T E (pWe T E f), pFact T E f))
/-- is the sign z at f -/
def pSg (T : Int → Int) (E z f : Int) : Prop := f < E ∧ T f = z
/-- a sum from f on, n bytes left; c: the steps so far; j: is it joined to one before -/
noncomputable def pSum (T : Int → Int) (E : Int) : Nat → Int → List Int → Bool → Int ⊕ (Int × List Int)
  | 0, f, _, _ => Sum.inl f
  | n + 1, f, c, j => bS (pPart T E f) (fun a => cif (pSg T E 43 a.1) (pSum T E n (pSk T E (a.1 + 1)) (c ++ (a.2 :: cond j [2000] [])) true) (Sum.inr (a.1, c ++ (a.2 :: cond j [2000] []))))
/-- an atom (0), what is joined by and (1), by or (2) -/
noncomputable def pCd (T : Int → Int) (E : Int) : Nat → Nat → Int → Int → List Int → Bool → Int ⊕ (Int × List Int)
  | 0, _, _, f, _, _ => Sum.inl f
  | n + 1, 0, d, f, c, _ =>
    cif (pSg T E 40 f) (cif (6 ≤ d) (Sum.inl f) (bS (pCd T E n 2 (d + 1) (pSk T E (f + 1)) c false) (fun a => cif (pSg T E 41 a.1) (Sum.inr (pSk T E (a.1 + 1), a.2)) (Sum.inl a.1))))
    (cif (pWd T E [110, 111, 116] f) (cif (6 ≤ d) (Sum.inl f) (bS (pCd T E n 0 (d + 1) (pSk T E (pWe T E f)) c false) (fun a => Sum.inr (a.1, a.2 ++ [2003]))))
    (cif (pWd T E [112, 114, 111, 109, 105, 115, 101, 100] f) (Sum.inr (pSk T E (pWe T E f), c ++ [1007]))
    (cif (pWd T E [116, 104, 114, 101, 101] f) (Sum.inr (pSk T E (pWe T E f), c ++ [1008]))
    (bS (pSum T E 401 f c false) (fun a => cif (pSg T E 60 a.1) (bS (pSum T E 401 (pSk T E (a.1 + 1)) a.2 false) (fun b => Sum.inr (b.1, b.2 ++ [2001])))
      (cif (pSg T E 62 a.1) (bS (pSum T E 401 (pSk T E (a.1 + 1)) a.2 false) (fun b => Sum.inr (b.1, b.2 ++ [2002]))) (Sum.inl a.1)))))))
  | n + 1, 1, d, f, c, j => bS (pCd T E n 0 d f c false) (fun a => cif (pWd T E [97, 110, 100] a.1) (pCd T E n 1 d (pSk T E (pWe T E a.1)) (a.2 ++ cond j [2004] []) true) (Sum.inr (a.1, a.2 ++ cond j [2004] [])))
  | n + 1, _ + 2, d, f, c, j => bS (pCd T E n 1 d f c false) (fun a => cif (pWd T E [111, 114] a.1) (pCd T E n 2 d (pSk T E (pWe T E a.1)) (a.2 ++ cond j [2005] []) true) (Sum.inr (a.1, a.2 ++ cond j [2005] [])))
theorem bS_inr2 {α β : Type} {x : Int ⊕ α} {k : α → Int ⊕ β} {y : β} (h : bS x k = Sum.inr y) : ∃ a, x = Sum.inr a ∧ k a = Sum.inr y := bS_inr h
theorem bS_r {α β : Type} {a : α} {k : α → Int ⊕ β} : bS (Sum.inr a) k = k a := rfl
theorem bS_l {α β : Type} {q : Int} {k : α → Int ⊕ β} : bS (Sum.inl q : Int ⊕ α) k = Sum.inl q := rfl
theorem pWd_lt {T : Int → Int} {E f : Int} {ws : List Nat} (hn : 0 < ws.length) (h : pWd T E ws f) : f + 1 ≤ pWe T E f := by
  have := h.1
  omega
theorem pOk_s1 {T : Int → Int} {E f z : Int} (h : pOk T E f) (hs : pSg T E z f) : pOk T E (pSk T E (f + 1)) := pOk_sk (by have := h.1; omega) (by have := hs.1; omega)
theorem pFact_w {T : Int → Int} {E f : Int} (h : pFact T E f ≠ -1) : f + 1 ≤ pWe T E f := by
  have w : ∀ (ws : List Nat) (a b : Int), 0 < ws.length → (b ≠ -1 → f + 1 ≤ pWe T E f) → cif (pWd T E ws f) a b ≠ -1 → f + 1 ≤ pWe T E f := fun ws a b hn hb hc => by
    by_cases c : pWd T E ws f
    · exact pWd_lt hn c
    · rw [cif_f c] at hc; exact hb hc
  refine w _ _ _ (by decide) (w _ _ _ (by decide) (w _ _ _ (by decide) (w _ _ _ (by decide) (w _ _ _ (by decide) (w _ _ _ (by decide) (w _ _ _ (by decide) (fun t => absurd rfl t))))))) h
theorem pFact_b (T : Int → Int) (E f : Int) : pFact T E f = -1 ∨ (1000 ≤ pFact T E f ∧ pFact T E f ≤ 1006) := by
  have w : ∀ (P : Prop) (a b : Int), (1000 ≤ a ∧ a ≤ 1006) → (b = -1 ∨ (1000 ≤ b ∧ b ≤ 1006)) → (cif P a b = -1 ∨ (1000 ≤ cif P a b ∧ cif P a b ≤ 1006)) := fun P a b ha hb => by
    by_cases c : P
    · rw [cif_t c]; exact Or.inr ha
    · rw [cif_f c]; exact hb
  exact w _ _ _ (by decide) (w _ _ _ (by decide) (w _ _ _ (by decide) (w _ _ _ (by decide) (w _ _ _ (by decide) (w _ _ _ (by decide) (w _ _ _ (by decide) (Or.inl rfl)))))))
/-- a part goes on behind f -/
theorem pPart_ok {T : Int → Int} {E f f1 v : Int} (h : pPart T E f = Sum.inr (f1, v)) (hf : pOk T E f) : pOk T E f1 ∧ f + 1 ≤ f1 ∧ 0 ≤ v ∧ v ≤ 1006 := by
  unfold pPart at h
  by_cases c : pFact T E f = -1
  · rw [cif_t c] at h
    by_cases c2 : pN T E 0 999 f
    · rw [cif_t c2] at h
      cases h
      have h1 := pSk_ge T E (pDg T E f)
      obtain ⟨n1, n2, n3, n4⟩ := c2
      exact ⟨pOk_dg hf, by omega, n3, by show nv T f _ ≤ 1006; omega⟩
    · rw [cif_f c2] at h; cases h
  · rw [cif_f c] at h
    cases h
    have h1 := pFact_w c
    have h2 := pSk_ge T E (pWe T E f)
    have h3 := pFact_b T E f
    exact ⟨pOk_we hf, by omega, by omega, by omega⟩
/-- P: how many steps are still owed -/
theorem pSum_ok {T : Int → Int} {E : Int} {P : Nat} : ∀ (n : Nat) (f : Int) (c : List Int) (j : Bool) (f1 : Int) (c1 : List Int), pSum T E n f c j = Sum.inr (f1, c1) → pOk T E f → c.length + P + cond j 1 0 ≤ f → pOk T E f1 ∧ f + 1 ≤ f1 ∧ c1.length + P ≤ f1
  | 0, f, c, j, f1, c1, h, _, _ => by cases h
  | n + 1, f, c, j, f1, c1, h, hf, hl => by
    obtain ⟨⟨f2, v⟩, h1, h2⟩ := bS_inr h
    obtain ⟨o1, o2, -, -⟩ := pPart_ok h1 hf
    have ln : ((c ++ (v :: cond j [2000] [])).length : Int) = c.length + 1 + cond j 1 0 := by
      cases j
      · show ((c ++ [v]).length : Int) = c.length + 1 + 0
        rw [List.length_append]; simp
      · show ((c ++ [v, 2000]).length : Int) = c.length + 1 + 1
        rw [List.length_append]; simp; omega
    have cb : ((cond j 1 0 : Nat) : Int) = cond j 1 0 := by cases j <;> rfl
    have h2 : cif (pSg T E 43 f2) (pSum T E n (pSk T E (f2 + 1)) (c ++ (v :: cond j [2000] [])) true) (Sum.inr (f2, c ++ (v :: cond j [2000] []))) = Sum.inr (f1, c1) := h2
    by_cases s : pSg T E 43 f2
    · rw [cif_t s] at h2
      have h3 := pSk_ge T E (f2 + 1)
      obtain ⟨q1, q2, q3⟩ := pSum_ok n _ _ _ _ _ h2 (pOk_s1 o1 s) (by
        show ((c ++ (v :: cond j [2000] [])).length : Int) + P + 1 ≤ _
        omega)
      exact ⟨q1, by omega, q3⟩
    · rw [cif_f s] at h2
      cases h2
      exact ⟨o1, o2, by omega⟩
theorem cbI (j : Bool) : ((cond j 1 0 : Nat) : Int) = cond j 1 0 := by cases j <;> rfl
theorem ln_j (c : List Int) (j : Bool) (x : Int) : ((c ++ cond j [x] []).length : Int) = c.length + cond j 1 0 := by
  rw [List.length_append]
  cases j <;> simp
theorem ln_1 (c : List Int) (x : Int) : ((c ++ [x]).length : Int) = c.length + 1 := by
  rw [List.length_append]
  simp
theorem pCd_ok {T : Int → Int} {E : Int} : ∀ (n k : Nat) (P : Nat) (d f : Int) (c : List Int) (j : Bool) (f1 : Int) (c1 : List Int), pCd T E n k d f c j = Sum.inr (f1, c1) → pOk T E f → c.length + P + cond j 1 0 ≤ f → pOk T E f1 ∧ f + 1 ≤ f1 ∧ c1.length + P ≤ f1
  | 0, _, _, _, _, _, _, _, _, h, _, _ => by cases h
  | n + 1, 0, P, d, f, c, j, f1, c1, h, hf, hl => by
    have hj : (0 : Int) ≤ cond j 1 0 := by cases j <;> decide
    have h : cif (pSg T E 40 f) (cif (6 ≤ d) (Sum.inl f) (bS (pCd T E n 2 (d + 1) (pSk T E (f + 1)) c false) (fun a => cif (pSg T E 41 a.1) (Sum.inr (pSk T E (a.1 + 1), a.2)) (Sum.inl a.1)))) _ = Sum.inr (f1, c1) := h
    by_cases s0 : pSg T E 40 f
    · rw [cif_t s0] at h
      have g0 := pSk_ge T E (f + 1)
      by_cases d6 : 6 ≤ d
      · rw [cif_t d6] at h; cases h
      · rw [cif_f d6] at h
        obtain ⟨⟨f2, c2⟩, h1, h2⟩ := bS_inr h
        obtain ⟨o1, o2, o3⟩ := pCd_ok n 2 P _ _ _ _ _ _ h1 (pOk_s1 hf s0) (by show (c.length : Int) + P + 0 ≤ _; omega)
        have h2 : cif (pSg T E 41 f2) (Sum.inr (pSk T E (f2 + 1), c2)) (Sum.inl f2) = Sum.inr (f1, c1) := h2
        by_cases s1 : pSg T E 41 f2
        · rw [cif_t s1] at h2
          cases h2
          have g1 := pSk_ge T E (f2 + 1)
          exact ⟨pOk_s1 o1 s1, by omega, by omega⟩
        · rw [cif_f s1] at h2; cases h2
    · rw [cif_f s0] at h
      by_cases w1 : pWd T E [110, 111, 116] f
      · rw [cif_t w1] at h
        have g0 := pSk_ge T E (pWe T E f)
        have g1 : pWe T E f - f = 3 := w1.1
        by_cases d6 : 6 ≤ d
        · rw [cif_t d6] at h; cases h
        · rw [cif_f d6] at h
          obtain ⟨⟨f2, c2⟩, h1, h2⟩ := bS_inr h
          obtain ⟨o1, o2, o3⟩ := pCd_ok n 0 (P + 1) _ _ _ _ _ _ h1 (pOk_we hf) (by show (c.length : Int) + ((P + 1 : Nat) : Int) + 0 ≤ _; omega)
          have h2 : (Sum.inr (f2, c2 ++ [2003]) : Int ⊕ (Int × List Int)) = Sum.inr (f1, c1) := h2
          cases h2
          have := ln_1 c2 2003
          exact ⟨o1, by omega, by omega⟩
      · rw [cif_f w1] at h
        by_cases w2 : pWd T E [112, 114, 111, 109, 105, 115, 101, 100] f
        · rw [cif_t w2] at h
          cases h
          have g0 := pSk_ge T E (pWe T E f)
          have g1 : pWe T E f - f = 8 := w2.1
          have := ln_1 c 1007
          exact ⟨pOk_we hf, by omega, by omega⟩
        · rw [cif_f w2] at h
          by_cases w3 : pWd T E [116, 104, 114, 101, 101] f
          · rw [cif_t w3] at h
            cases h
            have g0 := pSk_ge T E (pWe T E f)
            have g1 : pWe T E f - f = 5 := w3.1
            have := ln_1 c 1008
            exact ⟨pOk_we hf, by omega, by omega⟩
          · rw [cif_f w3] at h
            obtain ⟨⟨f2, c2⟩, h1, h2⟩ := bS_inr h
            obtain ⟨o1, o2, o3⟩ := pSum_ok (P := P) _ _ _ _ _ _ h1 hf (by show (c.length : Int) + P + 0 ≤ _; omega)
            have h2 : cif (pSg T E 60 f2) (bS (pSum T E 401 (pSk T E (f2 + 1)) c2 false) (fun b => Sum.inr (b.1, b.2 ++ [2001]))) (cif (pSg T E 62 f2) (bS (pSum T E 401 (pSk T E (f2 + 1)) c2 false) (fun b => Sum.inr (b.1, b.2 ++ [2002]))) (Sum.inl f2)) = Sum.inr (f1, c1) := h2
            have g0 := pSk_ge T E (f2 + 1)
            have nxt : ∀ (z x : Int), pSg T E z f2 → bS (pSum T E 401 (pSk T E (f2 + 1)) c2 false) (fun b => Sum.inr (b.1, b.2 ++ [x])) = Sum.inr (f1, c1) → pOk T E f1 ∧ f + 1 ≤ f1 ∧ c1.length + P ≤ f1 := fun z x s h2 => by
              obtain ⟨⟨f3, c3⟩, h3, h4⟩ := bS_inr h2
              obtain ⟨q1, q2, q3⟩ := pSum_ok (P := P + 1) _ _ _ _ _ _ h3 (pOk_s1 o1 s) (by show (c2.length : Int) + ((P + 1 : Nat) : Int) + 0 ≤ _; omega)
              have h4 : (Sum.inr (f3, c3 ++ [x]) : Int ⊕ (Int × List Int)) = Sum.inr (f1, c1) := h4
              cases h4
              have := ln_1 c3 x
              exact ⟨q1, by omega, by omega⟩
            by_cases s1 : pSg T E 60 f2
            · rw [cif_t s1] at h2
              exact nxt _ _ s1 h2
            · rw [cif_f s1] at h2
              by_cases s2 : pSg T E 62 f2
              · rw [cif_t s2] at h2
                exact nxt _ _ s2 h2
              · rw [cif_f s2] at h2; cases h2
  | n + 1, 1, P, d, f, c, j, f1, c1, h, hf, hl => by
    obtain ⟨⟨f2, c2⟩, h1, h2⟩ := bS_inr h
    have cb := cbI j
    obtain ⟨o1, o2, o3⟩ := pCd_ok n 0 (P + cond j 1 0) _ _ _ _ _ _ h1 hf (by show (c.length : Int) + ((P + cond j 1 0 : Nat) : Int) + 0 ≤ _; omega)
    have l2 := ln_j c2 j 2004
    have h2 : cif (pWd T E [97, 110, 100] f2) (pCd T E n 1 d (pSk T E (pWe T E f2)) (c2 ++ cond j [2004] []) true) (Sum.inr (f2, c2 ++ cond j [2004] [])) = Sum.inr (f1, c1) := h2
    by_cases w : pWd T E [97, 110, 100] f2
    · rw [cif_t w] at h2
      have g0 := pSk_ge T E (pWe T E f2)
      have g1 : pWe T E f2 - f2 = 3 := w.1
      obtain ⟨q1, q2, q3⟩ := pCd_ok n 1 P _ _ _ _ _ _ h2 (pOk_we o1) (by show _ + (P : Int) + 1 ≤ _; omega)
      exact ⟨q1, by omega, q3⟩
    · rw [cif_f w] at h2
      cases h2
      exact ⟨o1, o2, by omega⟩
  | n + 1, k + 2, P, d, f, c, j, f1, c1, h, hf, hl => by
    obtain ⟨⟨f2, c2⟩, h1, h2⟩ := bS_inr h
    have cb := cbI j
    obtain ⟨o1, o2, o3⟩ := pCd_ok n 1 (P + cond j 1 0) _ _ _ _ _ _ h1 hf (by show (c.length : Int) + ((P + cond j 1 0 : Nat) : Int) + 0 ≤ _; omega)
    have l2 := ln_j c2 j 2005
    have h2 : cif (pWd T E [111, 114] f2) (pCd T E n 2 d (pSk T E (pWe T E f2)) (c2 ++ cond j [2005] []) true) (Sum.inr (f2, c2 ++ cond j [2005] [])) = Sum.inr (f1, c1) := h2
    by_cases w : pWd T E [111, 114] f2
    · rw [cif_t w] at h2
      have g0 := pSk_ge T E (pWe T E f2)
      have g1 : pWe T E f2 - f2 = 2 := w.1
      obtain ⟨q1, q2, q3⟩ := pCd_ok n 2 P _ _ _ _ _ _ h2 (pOk_we o1) (by show _ + (P : Int) + 1 ≤ _; omega)
      exact ⟨q1, by omega, q3⟩
    · rw [cif_f w] at h2
      cases h2
      exact ⟨o1, o2, by omega⟩
