/-! fx: the class reads the law: conditions, lines -/
section LCX
variable {T : Int → Int} {E : Int}
theorem AtS.up {dp : Int} {dd dd' : Nat} (h : AtS T E dp dd) (hd : dd ≤ dd') : AtS T E dp dd' := fun W r g g0 Q f c n h1 h2 h3 k1 k2 => fx.up (h W r g g0 Q f c n h1 h2 h3 k1 k2) (Nat.le_refl _) hd
theorem sp_lcond {dp : Int} {dd e : Nat} (hA : AtS T E dp e) (he : e + 1 ≤ dd) (hdd : 9 ≤ dd) (hdp : fR dp) : CoS T E dp dd := fun W r g g0 Q f c n h hl hn k1 k2 => by
  have ok1 := h.1.2.2.2.1
  refine fx_ci (0) 1 (by decide +kernel) ?_
  refine fx_si 2 2 (by decide +kernel) (Or.inr (fI_n4 _)) rfl ?_
  dsimp only [List.set]
  refine fx_ci (0) 3 (by decide +kernel) ?_
  refine fx_si 3 4 (by decide +kernel) (Or.inr (fI_n4 _)) rfl ?_
  dsimp only [List.set]
  exact sp_lco_2 hA he hdd hdp k1 k2 n 0 f c 0 false g 7 ok1 (Or.inl ⟨rfl, rfl, rfl⟩) h (by omega) (fun _ => hl) (by omega) rfl
theorem sp_lAC : ∀ k : Nat, k ≤ 6 → AtS T E (6 - k) (9 + 2 * k) ∧ CoS T E (6 - k) (10 + 2 * k)
  | 0, _ => by
    have a : AtS T E (6 - ((0 : Nat) : Int)) (9 + 2 * 0) := sp_latom (e := 8) (by decide) (by decide) (fun t => absurd t (by decide)) (fun t => absurd t (by decide)) (by decide) (by decide)
    exact ⟨a, sp_lcond a (by decide) (by decide) (by unfold fR; decide)⟩
  | k + 1, hk => by
    obtain ⟨a, c⟩ := sp_lAC k (by omega)
    have e : 6 - ((k + 1 : Nat) : Int) + 1 = 6 - (k : Int) := by omega
    have a' : AtS T E (6 - ((k + 1 : Nat) : Int)) (9 + 2 * (k + 1)) := sp_latom (e := 10 + 2 * k) (by omega) (by omega) (fun _ => by rw [e]; exact c) (fun _ => by rw [e]; exact a.up (by omega)) (by omega) (by omega)
    exact ⟨a', sp_lcond a' (by omega) (by omega) (by unfold fR; omega)⟩
theorem sp_lC0 : CoS T E 0 22 := (sp_lAC (T := T) (E := E) 6 (Nat.le_refl _)).2
end LCX
/-- the kind of a line, by its word -/
noncomputable def pKind (T : Int → Int) (E f : Int) : Int := cif (pWd T E [109, 111, 114, 101] f) 0 (cif (pWd T E [108, 101, 115, 115] f) 1 (cif (pWd T E [111, 102, 102] f) 2 (-1)))
/-- behind kind and amount -/
noncomputable def pIf (T : Int → Int) (E f : Int) (c : List Int) (k a : Int) : Int ⊕ (Int × List Int × Int × Int) := cif (pWd T E [105, 102] f) (bS (pCd T E 1300 2 0 (pSk T E (pWe T E f)) c false) (fun b => Sum.inr (b.1, b.2, k, a))) (Sum.inr (f, c, k, a))
noncomputable def pLL (T : Int → Int) (E f : Int) (c : List Int) : Int ⊕ (Int × List Int × Int × Int) := cif (pKind T E f = -1) (Sum.inl f) (cif (pKind T E f = 2) (pIf T E (pSk T E (pWe T E f)) c 2 0) (cif (pN T E 0 30 (pSk T E (pWe T E f))) (pIf T E (pSk T E (pDg T E (pSk T E (pWe T E f)))) c (pKind T E f) (pNu T E (pSk T E (pWe T E f)))) (Sum.inl (pSk T E (pWe T E f)))))
/-- all lines, n at most; ls: those so far (kind, amount, from, behind) -/
noncomputable def pLs (T : Int → Int) (E : Int) : Nat → Int → List Int → List (List Int) → Int ⊕ (List Int × List (List Int))
  | 0, f, _, _ => Sum.inl f
  | n + 1, f, c, ls => bS (pLL T E f c) (fun a => if a.1 = E then Sum.inr (a.2.1, ls ++ [[a.2.2.1, a.2.2.2, (c.length : Int), (a.2.1.length : Int)]]) else if T a.1 = 59 then pLs T E n (pSk T E (a.1 + 1)) a.2.1 (ls ++ [[a.2.2.1, a.2.2.2, (c.length : Int), (a.2.1.length : Int)]]) else Sum.inl a.1)
noncomputable def pLaw (T : Int → Int) (E : Int) : Int ⊕ (List Int × List (List Int)) := if pSk T E 0 = E then Sum.inr ([], []) else pLs T E 12 (pSk T E 0) [] []
theorem pKind_w {T : Int → Int} {E f : Int} (h : pKind T E f ≠ -1) : f + 3 ≤ pWe T E f ∧ 0 ≤ pKind T E f ∧ pKind T E f ≤ 2 := by
  unfold pKind at h ⊢
  by_cases c1 : pWd T E [109, 111, 114, 101] f
  · have : pWe T E f - f = 4 := c1.1
    rw [cif_t c1]; omega
  · rw [cif_f c1] at h ⊢
    by_cases c2 : pWd T E [108, 101, 115, 115] f
    · have : pWe T E f - f = 4 := c2.1
      rw [cif_t c2]; omega
    · rw [cif_f c2] at h ⊢
      by_cases c3 : pWd T E [111, 102, 102] f
      · have : pWe T E f - f = 3 := c3.1
        rw [cif_t c3]; omega
      · rw [cif_f c3] at h; exact absurd rfl h
theorem pIf_ok {T : Int → Int} {E f f1 k a k1 a1 : Int} {c c1 : List Int} (h : pIf T E f c k a = Sum.inr (f1, c1, k1, a1)) (hf : pOk T E f) (hl : (c.length : Int) ≤ f) : pOk T E f1 ∧ f ≤ f1 ∧ (c1.length : Int) ≤ f1 ∧ k1 = k ∧ a1 = a := by
  unfold pIf at h
  by_cases w : pWd T E [105, 102] f
  · rw [cif_t w] at h
    have g0 := pSk_ge T E (pWe T E f)
    have g1 : pWe T E f - f = 2 := w.1
    obtain ⟨⟨f2, c2⟩, h1, h2⟩ := bS_inr h
    have h2 : (Sum.inr (f2, c2, k, a) : Int ⊕ (Int × List Int × Int × Int)) = Sum.inr (f1, c1, k1, a1) := h2
    cases h2
    obtain ⟨o1, o2, o3⟩ := pCd_ok 1300 2 0 _ _ _ _ _ _ h1 (pOk_we hf) (by show (c.length : Int) + 0 + 0 ≤ _; omega)
    exact ⟨o1, by omega, by omega, rfl, rfl⟩
  · rw [cif_f w] at h
    cases h
    exact ⟨hf, Int.le_refl _, hl, rfl, rfl⟩
theorem pLL_ok {T : Int → Int} {E f f1 k1 a1 : Int} {c c1 : List Int} (h : pLL T E f c = Sum.inr (f1, c1, k1, a1)) (hf : pOk T E f) (hl : (c.length : Int) ≤ f) : pOk T E f1 ∧ f + 1 ≤ f1 ∧ (c1.length : Int) ≤ f1 ∧ 0 ≤ k1 ∧ k1 ≤ 2 ∧ 0 ≤ a1 ∧ a1 ≤ 30 := by
  unfold pLL at h
  by_cases k : pKind T E f = -1
  · rw [cif_t k] at h; cases h
  · rw [cif_f k] at h
    have w := pKind_w k
    have g0 := pSk_ge T E (pWe T E f)
    by_cases k2 : pKind T E f = 2
    · rw [cif_t k2] at h
      obtain ⟨o1, o2, o3, rfl, rfl⟩ := pIf_ok h (pOk_we hf) (by omega)
      exact ⟨o1, by omega, o3, by decide, by decide, by decide, by decide⟩
    · rw [cif_f k2] at h
      by_cases n : pN T E 0 30 (pSk T E (pWe T E f))
      · rw [cif_t n] at h
        have g1 := pDg_ge T E (pSk T E (pWe T E f))
        have g2 := pSk_ge T E (pDg T E (pSk T E (pWe T E f)))
        obtain ⟨o1, o2, o3, rfl, rfl⟩ := pIf_ok h (pOk_dg (pOk_we hf)) (by omega)
        exact ⟨o1, by omega, o3, by omega, by omega, n.2.2.1, n.2.2.2⟩
      · rw [cif_f n] at h; cases h
