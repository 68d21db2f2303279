/-! fx: the law on both sides -/
/-- the lines of the law at the cell b: kinds, numbers, steps -/
def LwC (b : Nat) (g : Nat → Nat → Int) (segs : List (List Int × Int × Int)) : Prop := ∀ i : Nat, i < segs.length → g (b + 1) i = (segs.getD i ([], 0, 0)).2.1 ∧ g (b + 2) i = (segs.getD i ([], 0, 0)).2.2 ∧ ∃ f0 : Nat, g (b + 3) i = (f0 : Int) ∧ g (b + 4) i = ((f0 + (segs.getD i ([], 0, 0)).1.length : Nat) : Int) ∧ f0 + (segs.getD i ([], 0, 0)).1.length ≤ 400 ∧ ∀ k : Nat, k < (segs.getD i ([], 0, 0)).1.length → g (b + 5) (f0 + k) = (segs.getD i ([], 0, 0)).1.getD k 0
/-- the law's text in a row -/
def tTx (t : Nat → Int) : Int → Int := fun k => t (364 + k.toNat)
/-- the law at the cell b is that of the row t -/
def RLw (b : Nat) (g : Nat → Nat → Int) (t : Nat → Int) : Prop := (∀ k : Nat, k < 400 → 0 ≤ t (364 + k) ∧ t (364 + k) ≤ 255) ∧ (0 ≤ t 2 ∧ t 2 ≤ 400) ∧ ((t 1 = -1 ∧ g b 7 = -1) ∨ ∃ segs, pLawR (tTx t) (t 2) = Sum.inr segs ∧ t 1 = (segs.length : Int) ∧ g b 7 = (segs.length : Int) ∧ segs.length ≤ 12 ∧ LwC b g segs)
theorem lawR_0 (T : Int → Int) : pLawR T 0 = Sum.inr [] := by
  unfold pLawR
  rw [if_pos (show pSk T 0 0 = 0 from prun_stop (Int.le_refl 0))]
/-- texts that are the same where they are read -/
theorem lawR_n {T T' : Int → Int} {E : Int} (hE : 0 ≤ E) (h : ∀ k : Nat, (k : Int) < E → T k = T' k) (h0 : ∀ k : Int, k < 0 → T k = T 0) (h1 : ∀ k : Int, k < 0 → T' k = T' 0) : pLawR T E = pLawR T' E := by
  by_cases e : E = 0
  · subst e
    rw [lawR_0, lawR_0]
  · refine lawR_x (fun k hk => ?_) hE
    by_cases n : k < 0
    · rw [h0 k n, h1 k n]
      exact h 0 (by omega)
    · have := h k.toNat (by omega)
      rw [show ((k.toNat : Nat) : Int) = k by omega] at this
      exact this
theorem tTx_0 (t : Nat → Int) (k : Int) (h : k < 0) : tTx t k = tTx t 0 := by
  unfold tTx
  rw [show k.toNat = 0 by omega]
  rfl
theorem RLw_eq {b b' : Nat} {g g' : Nat → Nat → Int} {t t' : Nat → Int} (h : RLw b g t) (e7 : g' b' 7 = g b 7) (e : ∀ i j, 1 ≤ i → i ≤ 5 → g' (b' + i) j = g (b + i) j) (et : ∀ k, k = 1 ∨ k = 2 ∨ (364 ≤ k ∧ k < 764) → t' k = t k) : RLw b' g' t' := by
  obtain ⟨h1, h2, h3⟩ := h
  have e1 := et 1 (Or.inl rfl)
  have e2 := et 2 (Or.inr (Or.inl rfl))
  refine ⟨fun k hk => by rw [et _ (by omega)]; exact h1 k hk, by rw [e2]; exact h2, ?_⟩
  rw [e1, e2, e7]
  rcases h3 with h3 | ⟨segs, a1, a2, a3, a4, a5⟩
  · exact Or.inl h3
  · refine Or.inr ⟨segs, ?_, a2, a3, a4, fun i hi => ?_⟩
    · rw [← a1]
      refine lawR_n h2.1 (fun k hk => ?_) (tTx_0 _) (tTx_0 _)
      unfold tTx
      exact et _ (by omega)
    · obtain ⟨b1, b2, f0, b3, b4, b5, b6⟩ := a5 i hi
      refine ⟨by rw [e _ _ (by decide) (by decide)]; exact b1, by rw [e _ _ (by decide) (by decide)]; exact b2, f0, by rw [e _ _ (by decide) (by decide)]; exact b3, by rw [e _ _ (by decide) (by decide)]; exact b4, b5, fun k hk => by rw [e _ _ (by decide) (by decide)]; exact b6 k hk⟩
section IC
variable {T : Int → Int} {E : Int}
theorem getD_l {c d : List Int} {k : Nat} (h : k < d.length) : (c ++ d).getD (c.length + k) 0 = d.getD k 0 := by
  rw [List.getD_eq_getElem?_getD, List.getD_eq_getElem?_getD, List.getElem?_append_right (by omega), show c.length + k - c.length = k by omega]
theorem getD_f {c d : List Int} {k : Nat} (h : k < c.length) : (c ++ d).getD k 0 = c.getD k 0 := by
  rw [List.getD_eq_getElem?_getD, List.getD_eq_getElem?_getD, List.getElem?_append_left h]
/-- what the class writes of the lines, beside what the reference reads of them -/
theorem pLs_sg2 : ∀ (n : Nat) (f : Int) (c : List Int) (ls : List (List Int)) (segs : List (List Int × Int × Int)), pSeg T E n f = Sum.inr segs → ∃ c2 l2, pLs T E n f c ls = Sum.inr (c ++ c2, ls ++ l2) ∧ l2.length = segs.length ∧ ∀ i : Nat, i < segs.length → ∃ f0 : Nat, l2.getD i [] = [(segs.getD i ([], 0, 0)).2.1, (segs.getD i ([], 0, 0)).2.2, (f0 : Int), ((f0 + (segs.getD i ([], 0, 0)).1.length : Nat) : Int)] ∧ f0 + (segs.getD i ([], 0, 0)).1.length ≤ (c ++ c2).length ∧ ∀ k : Nat, k < (segs.getD i ([], 0, 0)).1.length → (c ++ c2).getD (f0 + k) 0 = (segs.getD i ([], 0, 0)).1.getD k 0
  | 0, f, c, ls, segs, h => by
    have h : (Sum.inl f : Int ⊕ List (List Int × Int × Int)) = Sum.inr segs := h
    cases h
  | n + 1, f, c, ls, segs, hs => by
    cases h : pLL T E f [] with
    | inl q0 =>
      have hs : bS (pLL T E f []) _ = Sum.inr segs := hs
      rw [h, bS_l] at hs
      cases hs
    | inr a =>
      obtain ⟨f1, d, kd, am⟩ := a
      have e1 : pLL T E f c = Sum.inr (f1, c ++ d, kd, am) := by rw [pLL_sh, h, bS_r]
      have eS : pSeg T E (n + 1) f = if f1 = E then Sum.inr [(d, kd, am)] else if T f1 = 59 then bS (pSeg T E n (pSk T E (f1 + 1))) (fun r => Sum.inr ((d, kd, am) :: r)) else Sum.inl f1 := by
        show bS (pLL T E f []) _ = _
        rw [h, bS_r]
      have eL : pLs T E (n + 1) f c ls = if f1 = E then Sum.inr (c ++ d, ls ++ [[kd, am, (c.length : Int), ((c ++ d).length : Int)]]) else if T f1 = 59 then pLs T E n (pSk T E (f1 + 1)) (c ++ d) (ls ++ [[kd, am, (c.length : Int), ((c ++ d).length : Int)]]) else Sum.inl f1 := by
        show bS (pLL T E f c) _ = _
        rw [e1, bS_r]
      rw [eS] at hs
      rw [eL]
      by_cases x1 : f1 = E
      · rw [if_pos x1] at hs ⊢
        cases hs
        refine ⟨d, _, rfl, rfl, fun i hi => ?_⟩
        have i0 : i = 0 := by
          have hi : i < 1 := hi
          omega
        subst i0
        refine ⟨c.length, ?_, ?_, fun k hk => getD_l hk⟩
        · show [kd, am, (c.length : Int), ((c ++ d).length : Int)] = [kd, am, (c.length : Int), ((c.length + d.length : Nat) : Int)]
          rw [List.length_append]
        · show c.length + d.length ≤ (c ++ d).length
          rw [List.length_append]
          omega
      · rw [if_neg x1] at hs ⊢
        by_cases x2 : T f1 = 59
        · rw [if_pos x2] at hs ⊢
          obtain ⟨r2, h2, h3⟩ := bS_inr hs
          cases h3
          obtain ⟨c2, l2, h4, h5, h6⟩ := pLs_sg2 n (pSk T E (f1 + 1)) (c ++ d) (ls ++ [[kd, am, (c.length : Int), ((c ++ d).length : Int)]]) r2 h2
          refine ⟨d ++ c2, [kd, am, (c.length : Int), ((c ++ d).length : Int)] :: l2, ?_, by rw [List.length_cons, List.length_cons, h5], fun i hi => ?_⟩
          · rw [h4, List.append_assoc, List.append_assoc]
            rfl
          · rw [← List.append_assoc]
            cases i with
            | zero =>
              refine ⟨c.length, ?_, ?_, fun k hk => ?_⟩
              · show [kd, am, (c.length : Int), ((c ++ d).length : Int)] = [kd, am, (c.length : Int), ((c.length + d.length : Nat) : Int)]
                rw [List.length_append]
              · show c.length + d.length ≤ (c ++ d ++ c2).length
                rw [List.length_append, List.length_append]
                omega
              · have hk : k < d.length := hk
                rw [getD_f (by rw [List.length_append]; omega)]
                exact getD_l hk
            | succ i =>
              have hi : i + 1 < r2.length + 1 := hi
              exact h6 i (by omega)
        · rw [if_neg x2] at hs
          cases hs
theorem pLaw_sg2 {segs : List (List Int × Int × Int)} {c1 : List Int} {l1 : List (List Int)} (h : pLawR T E = Sum.inr segs) (h2 : pLaw T E = Sum.inr (c1, l1)) : l1.length = segs.length ∧ ∀ i : Nat, i < segs.length → ∃ f0 : Nat, l1.getD i [] = [(segs.getD i ([], 0, 0)).2.1, (segs.getD i ([], 0, 0)).2.2, (f0 : Int), ((f0 + (segs.getD i ([], 0, 0)).1.length : Nat) : Int)] ∧ f0 + (segs.getD i ([], 0, 0)).1.length ≤ c1.length ∧ ∀ k : Nat, k < (segs.getD i ([], 0, 0)).1.length → c1.getD (f0 + k) 0 = (segs.getD i ([], 0, 0)).1.getD k 0 := by
  unfold pLawR at h
  unfold pLaw at h2
  by_cases e : pSk T E 0 = E
  · rw [if_pos e] at h h2
    cases h
    cases h2
    exact ⟨rfl, fun i hi => absurd hi (Nat.not_lt_zero _)⟩
  · rw [if_neg e] at h h2
    obtain ⟨c2, l2, h4, h5, h6⟩ := pLs_sg2 12 _ [] [] segs h
    rw [h4] at h2
    cases h2
    exact ⟨h5, h6⟩
/-- the class's law behind a right text -/
theorem LwC_law {g0 g1 g' : Nat → Nat → Int} {f1 z : Int} {c1 : List Int} {l1 : List (List Int)} {segs : List (List Int × Int × Int)} (hE1 : E ≤ 400) (h : pLawR T E = Sum.inr segs) (h2 : pLaw T E = Sum.inr (c1, l1)) (hw : lwT T E g0 g1 f1 c1 l1) (hc : (c1.length : Int) ≤ E) (e : g' = fu (cpLw (fu g1 0 18 z) 35 8) 0 16 0) : LwC 8 g' segs ∧ g' 8 7 = (segs.length : Int) := by
  obtain ⟨q1, q2⟩ := pLaw_sg2 h h2
  obtain ⟨⟨-, -, s3, -⟩, ⟨l0, l4⟩, -⟩ := hw
  have cp : ∀ i j, 1 ≤ i → i ≤ 5 → g' (8 + i) j = g1 (35 + i) j := fun i j i1 i2 => by
    rw [e, fu_nc (by omega)]
    unfold cpLw
    rw [fu_nc (by omega), fu_nc (by omega)]
    rcases (by omega : i = 1 ∨ i = 2 ∨ i = 3 ∨ i = 4 ∨ i = 5) with rfl | rfl | rfl | rfl | rfl
    · rw [fcy_app, if_neg (by decide), fcy_app, if_neg (by decide), fcy_app, if_neg (by decide), fcy_app, if_neg (by decide), fcy_app, if_pos rfl, fu_nc (by decide)]
    · rw [fcy_app, if_neg (by decide), fcy_app, if_neg (by decide), fcy_app, if_neg (by decide), fcy_app, if_pos rfl, fcy_app, if_neg (by decide), fu_nc (by decide)]
    · rw [fcy_app, if_neg (by decide), fcy_app, if_neg (by decide), fcy_app, if_pos rfl, fcy_app, if_neg (by decide), fcy_app, if_neg (by decide), fu_nc (by decide)]
    · rw [fcy_app, if_neg (by decide), fcy_app, if_pos rfl, fcy_app, if_neg (by decide), fcy_app, if_neg (by decide), fcy_app, if_neg (by decide), fu_nc (by decide)]
    · rw [fcy_app, if_pos rfl, fcy_app, if_neg (by decide), fcy_app, if_neg (by decide), fcy_app, if_neg (by decide), fcy_app, if_neg (by decide), fu_nc (by decide)]
  have e7 : g' 8 7 = g1 35 7 := by
    rw [e, fu_nc (by decide)]
    unfold cpLw
    rw [fu_nj (by decide), fu_eq, fu_nc (by decide)]
  refine ⟨fun i hi => ?_, by rw [e7, l0, q1]⟩
  obtain ⟨f0, p1, p2, p3⟩ := q2 i hi
  obtain ⟨m1, m2, m3, m4⟩ := l4 i (by omega)
  rw [p1] at m1 m2 m3 m4
  refine ⟨by rw [cp 1 i (by decide) (by decide)]; exact m1, by rw [cp 2 i (by decide) (by decide)]; exact m2, f0, by rw [cp 3 i (by decide) (by decide)]; exact m3, by rw [cp 4 i (by decide) (by decide)]; exact m4, by omega, fun k hk => ?_⟩
  rw [cp 5 _ (by decide) (by decide), ← p3 k hk]
  exact s3 _ (by omega)
end IC
/-- a right text of the law keeps both sides' laws alike -/
theorem RLw_law {T : Int → Int} {E z f1 : Int} {g g0 g1 g2 g3 : Nat → Nat → Int} {c1 : List Int} {l1 : List (List Int)} {segs : List (List Int × Int × Int)} (h : RLw 8 g (g 149)) (hT : ∀ k : Int, 0 ≤ k → k < 400 → 0 ≤ T k ∧ T k ≤ 255) (hn : ∀ k : Int, k < 0 → T k = T 0) (hE0 : 0 ≤ E) (hE1 : E ≤ 400) (hr : pLawR T E = Sum.inr segs) (h2 : pLaw T E = Sum.inr (c1, l1)) (hw : lwT T E g0 g1 f1 c1 l1) (hc : (c1.length : Int) ≤ E) (e : g2 = fu (cpLw (fu g1 0 18 z) 35 8) 0 16 0)
    (m1 : g3 149 1 = (segs.length : Int)) (m2 : g3 149 2 = E) (m3 : ∀ j : Nat, (j : Int) < E → g3 149 (364 + j) = T j) (m4 : ∀ j : Nat, E ≤ (j : Int) → g3 149 (364 + j) = g 149 (364 + j)) (s12 : segs.length ≤ 12) (x7 : g3 8 7 = g2 8 7) (xi : ∀ i j, 1 ≤ i → i ≤ 5 → g3 (8 + i) j = g2 (8 + i) j) : RLw 8 g3 (g3 149) := by
  obtain ⟨q1, q2⟩ := LwC_law hE1 hr h2 hw hc e
  refine ⟨fun k hk => ?_, by rw [m2]; exact ⟨hE0, hE1⟩, Or.inr ⟨segs, ?_, m1, by rw [x7]; exact q2, s12, fun i hi => ?_⟩⟩
  · by_cases c : (k : Int) < E
    · rw [m3 k c]; exact hT k (by omega) (by omega)
    · rw [m4 k (by omega)]; exact h.1 k hk
  · rw [m2, ← hr]
    refine lawR_n hE0 (fun k hk => ?_) (tTx_0 _) hn
    unfold tTx
    exact m3 k hk
  · obtain ⟨b1, b2, f0, b3, b4, b5, b6⟩ := q1 i hi
    refine ⟨by rw [xi _ _ (by decide) (by decide)]; exact b1, by rw [xi _ _ (by decide) (by decide)]; exact b2, f0, by rw [xi _ _ (by decide) (by decide)]; exact b3, by rw [xi _ _ (by decide) (by decide)]; exact b4, b5, fun k hk => by rw [xi _ _ (by decide) (by decide)]; exact b6 k hk⟩
