/-! fx: the law's text, on both sides -/
section G5OP
variable {T : Int → Int} {E : Int}
theorem pIf_sh (c : List Int) (f k a : Int) : pIf T E f c k a = bS (pIf T E f [] k a) (fun x => Sum.inr (x.1, c ++ x.2.1, x.2.2)) := by
  unfold pIf
  by_cases w : pWd T E [105, 102] f
  · rw [cif_t w, cif_t w]
    have h := pCd_sh (T := T) (E := E) c 1300 2 0 (pSk T E (pWe T E f)) [] false
    rw [List.append_nil] at h
    rw [h]
    cases pCd T E 1300 2 0 (pSk T E (pWe T E f)) [] false with
    | inl q => rfl
    | inr x => rfl
  · rw [cif_f w, cif_f w, bS_r, List.append_nil]
theorem pLL_sh (c : List Int) (f : Int) : pLL T E f c = bS (pLL T E f []) (fun x => Sum.inr (x.1, c ++ x.2.1, x.2.2)) := by
  unfold pLL
  by_cases k : pKind T E f = -1
  · rw [cif_t k, cif_t k]; rfl
  · rw [cif_f k, cif_f k]
    by_cases k2 : pKind T E f = 2
    · rw [cif_t k2, cif_t k2]; exact pIf_sh c _ _ _
    · rw [cif_f k2, cif_f k2]
      by_cases n : pN T E 0 30 (pSk T E (pWe T E f))
      · rw [cif_t n, cif_t n]; exact pIf_sh c _ _ _
      · rw [cif_f n, cif_f n]; rfl
theorem pLs_seg : ∀ (n : Nat) (f : Int) (c : List Int) (ls : List (List Int)), (∀ q, pSeg T E n f = Sum.inl q → pLs T E n f c ls = Sum.inl q) ∧ (∀ segs, pSeg T E n f = Sum.inr segs → ∃ c1 l1, pLs T E n f c ls = Sum.inr (c1, l1) ∧ l1.length = ls.length + segs.length)
  | 0, f, c, ls => ⟨fun q h => by
      have h : (Sum.inl f : Int ⊕ List (List Int × Int × Int)) = Sum.inl q := h
      cases h
      rfl, fun segs h => by
      have h : (Sum.inl f : Int ⊕ List (List Int × Int × Int)) = Sum.inr segs := h
      cases h⟩
  | n + 1, f, c, ls => by
    cases h : pLL T E f [] with
    | inl q0 =>
      have e1 : pLL T E f c = Sum.inl q0 := by rw [pLL_sh, h, bS_l]
      refine ⟨fun q hq => ?_, fun segs hs => ?_⟩
      · have hq : bS (pLL T E f []) _ = Sum.inl q := hq
        rw [h, bS_l] at hq
        cases hq
        show bS (pLL T E f c) _ = _
        rw [e1, bS_l]
      · have hs : bS (pLL T E f []) _ = Sum.inr segs := hs
        rw [h, bS_l] at hs
        cases hs
    | inr a =>
      obtain ⟨f1, d, kd, am⟩ := a
      have e1 : pLL T E f c = Sum.inr (f1, c ++ d, kd, am) := by rw [pLL_sh, h, bS_r]
      have eS : pSeg T E (n + 1) f = if f1 = E then Sum.inr [(d, kd, am)] else if T f1 = 59 then bS (pSeg T E n (pSk T E (f1 + 1))) (fun r => Sum.inr ((d, kd, am) :: r)) else Sum.inl f1 := by
        show bS (pLL T E f []) _ = _
        rw [h, bS_r]
      have eL : pLs T E (n + 1) f c ls = if f1 = E then Sum.inr (c ++ d, ls ++ [[kd, am, (c.length : Int), ((c ++ d).length : Int)]]) else if T f1 = 59 then pLs T E n (pSk T E (f1 + 1)) (c ++ d) (ls ++ [[kd, am, (c.length : Int), ((c ++ d).length : Int)]]) else Sum.inl f1 := by
        show bS (pLL T E f c) _ = _
        rw [e1, bS_r]
      rw [eS, eL]
      by_cases x1 : f1 = E
      · rw [if_pos x1, if_pos x1]
        refine ⟨(fun q hq => nomatch hq), fun segs hs => ?_⟩
        cases hs
        exact ⟨_, _, rfl, by rw [List.length_append]; rfl⟩
      · rw [if_neg x1, if_neg x1]
        by_cases x2 : T f1 = 59
        · rw [if_pos x2, if_pos x2]
          obtain ⟨i1, i2⟩ := pLs_seg n (pSk T E (f1 + 1)) (c ++ d) (ls ++ [[kd, am, (c.length : Int), ((c ++ d).length : Int)]])
          refine ⟨fun q hq => ?_, fun segs hs => ?_⟩
          · cases h2 : pSeg T E n (pSk T E (f1 + 1)) with
            | inl q2 => rw [h2, bS_l] at hq; cases hq; exact i1 _ h2
            | inr r2 => rw [h2, bS_r] at hq; cases hq
          · obtain ⟨r2, h2, h3⟩ := bS_inr hs
            cases h3
            obtain ⟨c1, l1, h4, h5⟩ := i2 r2 h2
            refine ⟨c1, l1, h4, ?_⟩
            rw [h5, List.length_append, List.length_cons]
            show ls.length + 1 + r2.length = ls.length + (r2.length + 1)
            omega
        · rw [if_neg x2, if_neg x2]
          exact ⟨fun q hq => by cases hq; rfl, fun segs hs => by cases hs⟩
theorem pLaw_L {q : Int} (h : pLawR T E = Sum.inl q) : pLaw T E = Sum.inl q := by
  unfold pLawR at h
  unfold pLaw
  by_cases e : pSk T E 0 = E
  · rw [if_pos e] at h; cases h
  · rw [if_neg e] at h ⊢
    exact (pLs_seg 12 _ [] []).1 q h
theorem pLaw_R {segs : List (List Int × Int × Int)} (h : pLawR T E = Sum.inr segs) : ∃ c1 l1, pLaw T E = Sum.inr (c1, l1) ∧ l1.length = segs.length := by
  unfold pLawR at h
  unfold pLaw
  by_cases e : pSk T E 0 = E
  · rw [if_pos e] at h ⊢
    cases h
    exact ⟨[], [], rfl, rfl⟩
  · rw [if_neg e] at h ⊢
    obtain ⟨c1, l1, h1, h2⟩ := (pLs_seg 12 _ [] []).2 segs h
    exact ⟨c1, l1, h1, by rw [h2]; show 0 + segs.length = _; omega⟩
end G5OP
/-- what the law reads -/
abbrev tpT (g : Nat → Nat → Int) : Int → Int := fun k => g 2 k.toNat
def fLC (g g1 : Nat → Nat → Int) : Prop := ∀ c j, ¬ (8 ≤ c ∧ c ≤ 13) → ¬ (34 ≤ c ∧ c ≤ 40) → ¬ (c = 1 ∧ j = 1) → ¬ (c = 0 ∧ (j = 18 ∨ j = 16)) → c ≠ 159 → g1 c j = g c j
def PWl (g : Nat → Nat → Int) (k v : Nat) (g1 : Nat → Nat → Int) : Prop := k = 1 ∧ fLC g g1 ∧ g1 1 1 = 0 ∧ ((∃ q, pLaw (tpT g) (g 1 1) = Sum.inl q ∧ v = fI 1) ∨ (∃ c1 l1, pLaw (tpT g) (g 1 1) = Sum.inr (c1, l1) ∧ v = fI 0 ∧ g1 159 0 = ((fJ (l1.length : Int) - 4 : Nat) : Int)))
def PMl (g g1 : Nat → Nat → Int) (k w : Nat) (g2 : Nat → Nat → Int) : Prop := k = 1 ∧ ∃ zw, w = fI zw ∧ fR zw ∧ ((∃ q, pLawR (tpT g) (g 1 1) = Sum.inl q ∧ g2 148 0 = 1) ∨ (∃ segs, pLawR (tpT g) (g 1 1) = Sum.inr segs ∧ g2 148 0 = 0 ∧ zw = (segs.length : Int))) ∧ (gxg g2 ∧ g2 1 1 = g2 148 8 ∧ g2 0 15 = g2 148 3 ∧ g2 159 0 = g1 159 0)
