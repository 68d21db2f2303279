/-! fx: what the steps of the law's text leave on a stack of 24 -/
/-- all along the steps, from a stack on, there is room, and what is taken is there -/
noncomputable def rnS (F : Nat → Int) : List Int → List Int → Prop
  | [], _ => True
  | s :: c, st => (if s < 2000 then (0 ≤ s ∧ s ≤ 1008) ∧ st.length < 24 else if s = 2003 then ∃ b t, st = b :: t ∧ (b = 0 ∨ b = 1) else s ≤ 2005 ∧ 2 ≤ st.length) ∧ rnS F c (stpS F s st)
noncomputable def ruS (F : Nat → Int) (c st : List Int) : List Int := c.foldl (fun st s => stpS F s st) st
section IB
variable {F : Nat → Int} {T : Int → Int} {E : Int}
theorem ruS_0 (st : List Int) : ruS F [] st = st := rfl
theorem ruS_1 (s : Int) (c st : List Int) : ruS F (s :: c) st = ruS F c (stpS F s st) := rfl
theorem ruS_ap (a b st : List Int) : ruS F (a ++ b) st = ruS F b (ruS F a st) := by unfold ruS; rw [List.foldl_append]
theorem ruS_ev (c : List Int) : ruS F c [] = evS F c := rfl
theorem rnS_1 (s : Int) (c st : List Int) : rnS F (s :: c) st = ((if s < 2000 then (0 ≤ s ∧ s ≤ 1008) ∧ st.length < 24 else if s = 2003 then ∃ b t, st = b :: t ∧ (b = 0 ∨ b = 1) else s ≤ 2005 ∧ 2 ≤ st.length) ∧ rnS F c (stpS F s st)) := rfl
theorem rnS_ap : ∀ (a b st : List Int), rnS F a st → rnS F b (ruS F a st) → rnS F (a ++ b) st
  | [], _, _, _, h => h
  | s :: a, b, st, h, h2 => ⟨h.1, rnS_ap a b _ h.2 h2⟩
theorem stp_lt {s : Int} (st : List Int) (h : s < 2000) : stpS F s st = vS F s :: st := stp_v st (by omega)
theorem stp_no {b : Int} (t : List Int) : stpS F 2003 (b :: t) = (1 - b) :: t := by
  unfold stpS
  rw [if_neg (by decide), if_neg (by decide), if_pos rfl]
  rfl
theorem stp_jn {s a b : Int} (t : List Int) (h : 2000 ≤ s) (h3 : s ≠ 2003) : stpS F s (b :: a :: t) = jnS s a b :: t := by
  unfold stpS
  rw [if_neg (by omega), if_neg (by omega), if_neg h3]
  rfl
/-- a number more, with B of room at most -/
def WdV (F : Nat → Int) (B : Nat) (w : List Int) : Prop := ∀ st : List Int, st.length + B ≤ 24 → rnS F w st ∧ ∃ v, ruS F w st = v :: st
def WjV (F : Nat → Int) (B : Nat) (w : List Int) : Prop := ∀ (v0 : Int) (st : List Int), st.length + 1 + B ≤ 24 → rnS F w (v0 :: st) ∧ ∃ v, ruS F w (v0 :: st) = v :: st
def WdB (F : Nat → Int) (B : Nat) (w : List Int) : Prop := ∀ st : List Int, st.length + B ≤ 24 → rnS F w st ∧ ∃ v, (v = 0 ∨ v = 1) ∧ ruS F w st = v :: st
def WjB (F : Nat → Int) (B : Nat) (w : List Int) : Prop := ∀ (v0 : Int) (st : List Int), (v0 = 0 ∨ v0 = 1) → st.length + 1 + B ≤ 24 → rnS F w (v0 :: st) ∧ ∃ v, (v = 0 ∨ v = 1) ∧ ruS F w (v0 :: st) = v :: st
theorem WdB.up {B B' : Nat} {w : List Int} (h : WdB F B w) (hb : B ≤ B') : WdB F B' w := fun st hs => h st (by omega)
theorem pPart_v {f f1 v : Int} (h : pPart T E f = Sum.inr (f1, v)) : 0 ≤ v ∧ v ≤ 1006 := by
  unfold pPart at h
  by_cases c : pFact T E f = -1
  · rw [cif_t c] at h
    by_cases c2 : pN T E 0 999 f
    · rw [cif_t c2] at h
      cases h
      obtain ⟨n1, n2, n3, n4⟩ := c2
      show 0 ≤ nv T f _ ∧ nv T f _ ≤ 1006
      omega
    · rw [cif_f c2] at h; cases h
  · rw [cif_f c] at h
    cases h
    have h3 := pFact_b T E f
    omega
theorem pSum_W : ∀ (n : Nat) (f : Int) (c : List Int) (j : Bool) (f1 : Int) (c1 : List Int), pSum T E n f c j = Sum.inr (f1, c1) → ∃ w, c1 = c ++ w ∧ (j = false → WdV F 2 w) ∧ (j = true → WjV F 1 w)
  | 0, f, c, j, f1, c1, h => by cases h
  | n + 1, f, c, j, f1, c1, h => by
    obtain ⟨⟨f2, v⟩, h1, h2⟩ := bS_inr h
    have hv := pPart_v h1
    have u0 : ∀ st : List Int, st.length < 24 → rnS F [v] st ∧ ruS F [v] st = vS F v :: st := fun st hs => by
      refine ⟨?_, ?_⟩
      · rw [rnS_1, if_pos (by omega)]
        exact ⟨⟨by omega, hs⟩, True.intro⟩
      · rw [ruS_1, ruS_0, stp_lt st (by omega)]
    have u1 : ∀ (v0 : Int) (st : List Int), st.length + 1 < 24 → rnS F [v, 2000] (v0 :: st) ∧ ∃ x, ruS F [v, 2000] (v0 :: st) = x :: st := fun v0 st hs => by
      refine ⟨?_, ?_⟩
      · rw [rnS_1, if_pos (by omega), stp_lt _ (by omega), rnS_1, if_neg (by decide), if_neg (by decide)]
        exact ⟨⟨by omega, by rw [List.length_cons]; exact hs⟩, ⟨by decide, by rw [List.length_cons, List.length_cons]; omega⟩, True.intro⟩
      · rw [ruS_1, stp_lt _ (by omega), ruS_1, stp_jn _ (by decide) (by decide)]
        exact ⟨_, rfl⟩
    have h2 : cif (pSg T E 43 f2) (pSum T E n (pSk T E (f2 + 1)) (c ++ (v :: cond j [2000] [])) true) (Sum.inr (f2, c ++ (v :: cond j [2000] []))) = Sum.inr (f1, c1) := h2
    by_cases s : pSg T E 43 f2
    · rw [cif_t s] at h2
      obtain ⟨w, e, -, hw⟩ := pSum_W n _ _ _ _ _ h2
      have hw := hw rfl
      refine ⟨(v :: cond j [2000] []) ++ w, by rw [e, List.append_assoc], fun hj => ?_, fun hj => ?_⟩
      · subst hj
        intro st hs
        obtain ⟨a1, a2⟩ := u0 st (by omega)
        obtain ⟨b1, b2, b3⟩ := hw (vS F v) st (by omega)
        refine ⟨rnS_ap [v] w st a1 (by rw [a2]; exact b1), b2, ?_⟩
        show ruS F ([v] ++ w) st = _
        rw [ruS_ap, a2, b3]
      · subst hj
        intro v0 st hs
        obtain ⟨a1, x, a2⟩ := u1 v0 st (by omega)
        obtain ⟨b1, b2, b3⟩ := hw x st (by omega)
        refine ⟨rnS_ap [v, 2000] w _ a1 (by rw [a2]; exact b1), b2, ?_⟩
        show ruS F ([v, 2000] ++ w) (v0 :: st) = _
        rw [ruS_ap, a2, b3]
    · rw [cif_f s] at h2
      cases h2
      refine ⟨v :: cond j [2000] [], rfl, fun hj => ?_, fun hj => ?_⟩
      · subst hj
        intro st hs
        obtain ⟨a1, a2⟩ := u0 st (by omega)
        exact ⟨a1, _, a2⟩
      · subst hj
        intro v0 st hs
        obtain ⟨a1, x, a2⟩ := u1 v0 st (by omega)
        exact ⟨a1, x, a2⟩
/-- room that an atom (0), what is joined by and (1), by or (2) needs, d deep -/
def bbS (k : Nat) (d : Int) : Nat := 3 + 2 * (6 - d).toNat + k
theorem pCd_W (hF : (F 7 = 0 ∨ F 7 = 1) ∧ (F 8 = 0 ∨ F 8 = 1)) : ∀ (n k : Nat) (d f : Int) (c : List Int) (j : Bool) (f1 : Int) (c1 : List Int), pCd T E n k d f c j = Sum.inr (f1, c1) → k ≤ 2 → 0 ≤ d → d ≤ 6 → ∃ w, c1 = c ++ w ∧ (j = false ∨ k = 0 → WdB F (bbS k d) w) ∧ (j = true → k ≠ 0 → WjB F (bbS (k - 1) d) w)
  | 0, _, _, _, _, _, _, _, h, _, _, _ => by cases h
  | n + 1, 0, d, f, c, j, f1, c1, h, hk, hd0, hd6 => by
    have h : cif (pSg T E 40 f) (cif (6 ≤ d) (Sum.inl f) (bS (pCd T E n 2 (d + 1) (pSk T E (f + 1)) c false) (fun a => cif (pSg T E 41 a.1) (Sum.inr (pSk T E (a.1 + 1), a.2)) (Sum.inl a.1)))) _ = Sum.inr (f1, c1) := h
    have lf : ∀ s : Int, s ≤ 1008 → 1000 ≤ s → (F (s - 1000).toNat = 0 ∨ F (s - 1000).toNat = 1) → WdB F (bbS 0 d) [s] := fun s s1 s0 sv st hs => by
      unfold bbS at hs
      refine ⟨?_, F (s - 1000).toNat, sv, ?_⟩
      · rw [rnS_1, if_pos (by omega)]
        exact ⟨⟨by omega, by omega⟩, True.intro⟩
      · rw [ruS_1, ruS_0, stp_lt _ (by omega)]
        unfold vS
        rw [if_neg (by omega)]
    by_cases s0 : pSg T E 40 f
    · rw [cif_t s0] at h
      by_cases d6 : 6 ≤ d
      · rw [cif_t d6] at h; cases h
      · rw [cif_f d6] at h
        obtain ⟨⟨f2, c2⟩, h1, h2⟩ := bS_inr h
        obtain ⟨w, e, hw, -⟩ := pCd_W hF n 2 _ _ _ _ _ _ h1 (by decide) (by omega) (by omega)
        have h2 : cif (pSg T E 41 f2) (Sum.inr (pSk T E (f2 + 1), c2)) (Sum.inl f2) = Sum.inr (f1, c1) := h2
        by_cases s1 : pSg T E 41 f2
        · rw [cif_t s1] at h2
          cases h2
          exact ⟨w, e, fun _ => (hw (Or.inl rfl)).up (by unfold bbS; omega), fun _ t => absurd rfl t⟩
        · rw [cif_f s1] at h2; cases h2
    · rw [cif_f s0] at h
      by_cases w1 : pWd T E [110, 111, 116] f
      · rw [cif_t w1] at h
        by_cases d6 : 6 ≤ d
        · rw [cif_t d6] at h; cases h
        · rw [cif_f d6] at h
          obtain ⟨⟨f2, c2⟩, h1, h2⟩ := bS_inr h
          obtain ⟨w, e, hw, -⟩ := pCd_W hF n 0 _ _ _ _ _ _ h1 (by decide) (by omega) (by omega)
          have h2 : (Sum.inr (f2, c2 ++ [2003]) : Int ⊕ (Int × List Int)) = Sum.inr (f1, c1) := h2
          cases h2
          refine ⟨w ++ [2003], by rw [e, List.append_assoc], fun _ st hs => ?_, fun _ t => absurd rfl t⟩
          obtain ⟨b1, v, b2, b3⟩ := hw (Or.inr rfl) st (by unfold bbS at hs ⊢; omega)
          refine ⟨rnS_ap _ _ _ b1 ?_, 1 - v, by omega, ?_⟩
          · rw [b3, rnS_1, if_neg (by decide), if_pos rfl]
            exact ⟨⟨v, st, rfl, b2⟩, True.intro⟩
          · rw [ruS_ap, b3, ruS_1, ruS_0, stp_no]
      · rw [cif_f w1] at h
        by_cases w2 : pWd T E [112, 114, 111, 109, 105, 115, 101, 100] f
        · rw [cif_t w2] at h
          cases h
          exact ⟨[1007], rfl, fun _ => lf 1007 (by decide) (by decide) hF.1, fun _ t => absurd rfl t⟩
        · rw [cif_f w2] at h
          by_cases w3 : pWd T E [116, 104, 114, 101, 101] f
          · rw [cif_t w3] at h
            cases h
            exact ⟨[1008], rfl, fun _ => lf 1008 (by decide) (by decide) hF.2, fun _ t => absurd rfl t⟩
          · rw [cif_f w3] at h
            obtain ⟨⟨f2, c2⟩, h1, h2⟩ := bS_inr h
            obtain ⟨w, e, hw, -⟩ := pSum_W (F := F) _ _ _ _ _ _ h1
            have hw := hw rfl
            have h2 : cif (pSg T E 60 f2) (bS (pSum T E 401 (pSk T E (f2 + 1)) c2 false) (fun b => Sum.inr (b.1, b.2 ++ [2001]))) (cif (pSg T E 62 f2) (bS (pSum T E 401 (pSk T E (f2 + 1)) c2 false) (fun b => Sum.inr (b.1, b.2 ++ [2002]))) (Sum.inl f2)) = Sum.inr (f1, c1) := h2
            have nxt : ∀ (x : Int), (x = 2001 ∨ x = 2002) → bS (pSum T E 401 (pSk T E (f2 + 1)) c2 false) (fun b => Sum.inr (b.1, b.2 ++ [x])) = Sum.inr (f1, c1) → ∃ w, c1 = c ++ w ∧ WdB F (bbS 0 d) w := fun x hx h2 => by
              obtain ⟨⟨f3, c3⟩, h3, h4⟩ := bS_inr h2
              obtain ⟨w', e', hw', -⟩ := pSum_W (F := F) _ _ _ _ _ _ h3
              have hw' := hw' rfl
              have h4 : (Sum.inr (f3, c3 ++ [x]) : Int ⊕ (Int × List Int)) = Sum.inr (f1, c1) := h4
              cases h4
              refine ⟨w ++ (w' ++ [x]), by rw [e', e, List.append_assoc, List.append_assoc], fun st hs => ?_⟩
              unfold bbS at hs
              obtain ⟨a1, v, a2⟩ := hw st (by omega)
              obtain ⟨b1, u, b2⟩ := hw' (v :: st) (by rw [List.length_cons]; omega)
              refine ⟨rnS_ap _ _ _ a1 (by rw [a2]; exact rnS_ap _ _ _ b1 (by rw [b2, rnS_1, if_neg (by omega), if_neg (by omega)]; exact ⟨⟨by omega, by rw [List.length_cons, List.length_cons]; omega⟩, True.intro⟩)), jnS x v u, ?_, ?_⟩
              · unfold jnS
                rcases hx with rfl | rfl
                · rw [if_neg (by decide), if_pos rfl]; split <;> simp
                · rw [if_neg (by decide), if_neg (by decide), if_pos rfl]; split <;> simp
              · rw [ruS_ap, a2, ruS_ap, b2, ruS_1, ruS_0, stp_jn _ (by omega) (by omega)]
            have fin : ∀ x : Int, (x = 2001 ∨ x = 2002) → bS (pSum T E 401 (pSk T E (f2 + 1)) c2 false) (fun b => Sum.inr (b.1, b.2 ++ [x])) = Sum.inr (f1, c1) → ∃ w, c1 = c ++ w ∧ (j = false ∨ 0 = 0 → WdB F (bbS 0 d) w) ∧ (j = true → 0 ≠ 0 → WjB F (bbS (0 - 1) d) w) := fun x hx h2 => by
              obtain ⟨w, e1, e2⟩ := nxt x hx h2
              exact ⟨w, e1, fun _ => e2, fun _ t => absurd rfl t⟩
            by_cases s1 : pSg T E 60 f2
            · rw [cif_t s1] at h2
              exact fin _ (Or.inl rfl) h2
            · rw [cif_f s1] at h2
              by_cases s2 : pSg T E 62 f2
              · rw [cif_t s2] at h2
                exact fin _ (Or.inr rfl) h2
              · rw [cif_f s2] at h2; cases h2
  | n + 1, 1, d, f, c, j, f1, c1, h, hk, hd0, hd6 => by
    obtain ⟨⟨f2, c2⟩, h1, h2⟩ := bS_inr h
    obtain ⟨wa, e, ha, -⟩ := pCd_W hF n 0 _ _ _ _ _ _ h1 (by decide) hd0 hd6
    have ha := ha (Or.inr rfl)
    have h2 : cif (pWd T E [97, 110, 100] f2) (pCd T E n 1 d (pSk T E (pWe T E f2)) (c2 ++ cond j [2004] []) true) (Sum.inr (f2, c2 ++ cond j [2004] [])) = Sum.inr (f1, c1) := h2
    have rest : ∃ w', c1 = c2 ++ cond j [2004] [] ++ w' ∧ WjB F (bbS 0 d) w' := by
      by_cases w : pWd T E [97, 110, 100] f2
      · rw [cif_t w] at h2
        obtain ⟨w', e', -, hw'⟩ := pCd_W hF n 1 _ _ _ _ _ _ h2 (by decide) hd0 hd6
        exact ⟨w', e', hw' rfl (by decide)⟩
      · rw [cif_f w] at h2
        cases h2
        exact ⟨[], by rw [List.append_nil], fun v0 st hv _ => ⟨True.intro, v0, hv, rfl⟩⟩
    obtain ⟨w', e', hw'⟩ := rest
    refine ⟨wa ++ (cond j [2004] [] ++ w'), by rw [e', e, List.append_assoc, List.append_assoc], fun hj => ?_, fun hj _ => ?_⟩
    · rcases hj with hj | hj
      · subst hj
        intro st hs
        have hs : st.length + (3 + 2 * (6 - d).toNat + 1) ≤ 24 := hs
        obtain ⟨a1, v, a2, a3⟩ := ha st (by unfold bbS; omega)
        obtain ⟨b1, u, b2, b3⟩ := hw' v st a2 (by unfold bbS; omega)
        refine ⟨rnS_ap _ _ _ a1 (by rw [a3]; exact b1), u, b2, ?_⟩
        rw [ruS_ap, a3]
        exact b3
      · exact absurd hj (by decide)
    · subst hj
      intro v0 st hv hs
      have hs : st.length + 1 + (3 + 2 * (6 - d).toNat + 0) ≤ 24 := hs
      obtain ⟨a1, v, a2, a3⟩ := ha (v0 :: st) (by rw [List.length_cons]; unfold bbS; omega)
      have hj : jnS 2004 v0 v = 0 ∨ jnS 2004 v0 v = 1 := by
        unfold jnS
        rw [if_neg (by decide), if_neg (by decide), if_neg (by decide), if_pos rfl, b01_and hv a2]
        split <;> simp
      obtain ⟨b1, u, b2, b3⟩ := hw' (jnS 2004 v0 v) st hj (by unfold bbS; omega)
      have ej : ruS F [2004] (v :: v0 :: st) = jnS 2004 v0 v :: st := by rw [ruS_1, ruS_0, stp_jn _ (by decide) (by decide)]
      refine ⟨rnS_ap _ _ _ a1 (by rw [a3]; refine rnS_ap [2004] w' _ ?_ (by rw [ej]; exact b1); rw [rnS_1, if_neg (by decide), if_neg (by decide)]; exact ⟨⟨by decide, by rw [List.length_cons, List.length_cons]; omega⟩, True.intro⟩), u, b2, ?_⟩
      rw [ruS_ap, a3]
      show ruS F ([2004] ++ w') _ = _
      rw [ruS_ap, ej, b3]
  | n + 1, 2, d, f, c, j, f1, c1, h, hk, hd0, hd6 => by
    obtain ⟨⟨f2, c2⟩, h1, h2⟩ := bS_inr h
    obtain ⟨wa, e, ha, -⟩ := pCd_W hF n 1 _ _ _ _ _ _ h1 (by decide) hd0 hd6
    have ha := ha (Or.inl rfl)
    have h2 : cif (pWd T E [111, 114] f2) (pCd T E n 2 d (pSk T E (pWe T E f2)) (c2 ++ cond j [2005] []) true) (Sum.inr (f2, c2 ++ cond j [2005] [])) = Sum.inr (f1, c1) := h2
    have rest : ∃ w', c1 = c2 ++ cond j [2005] [] ++ w' ∧ WjB F (bbS 1 d) w' := by
      by_cases w : pWd T E [111, 114] f2
      · rw [cif_t w] at h2
        obtain ⟨w', e', -, hw'⟩ := pCd_W hF n 2 _ _ _ _ _ _ h2 (by decide) hd0 hd6
        exact ⟨w', e', hw' rfl (by decide)⟩
      · rw [cif_f w] at h2
        cases h2
        exact ⟨[], by rw [List.append_nil], fun v0 st hv _ => ⟨True.intro, v0, hv, rfl⟩⟩
    obtain ⟨w', e', hw'⟩ := rest
    refine ⟨wa ++ (cond j [2005] [] ++ w'), by rw [e', e, List.append_assoc, List.append_assoc], fun hj => ?_, fun hj _ => ?_⟩
    · rcases hj with hj | hj
      · subst hj
        intro st hs
        have hs : st.length + (3 + 2 * (6 - d).toNat + 2) ≤ 24 := hs
        obtain ⟨a1, v, a2, a3⟩ := ha st (by unfold bbS; omega)
        obtain ⟨b1, u, b2, b3⟩ := hw' v st a2 (by unfold bbS; omega)
        refine ⟨rnS_ap _ _ _ a1 (by rw [a3]; exact b1), u, b2, ?_⟩
        rw [ruS_ap, a3]
        exact b3
      · exact absurd hj (by decide)
    · subst hj
      intro v0 st hv hs
      have hs : st.length + 1 + (3 + 2 * (6 - d).toNat + 1) ≤ 24 := hs
      obtain ⟨a1, v, a2, a3⟩ := ha (v0 :: st) (by rw [List.length_cons]; unfold bbS; omega)
      have hj : jnS 2005 v0 v = 0 ∨ jnS 2005 v0 v = 1 := by
        unfold jnS
        rw [if_neg (by decide), if_neg (by decide), if_neg (by decide), if_neg (by decide), b01_or hv a2]
        split <;> simp
      obtain ⟨b1, u, b2, b3⟩ := hw' (jnS 2005 v0 v) st hj (by unfold bbS; omega)
      have ej : ruS F [2005] (v :: v0 :: st) = jnS 2005 v0 v :: st := by rw [ruS_1, ruS_0, stp_jn _ (by decide) (by decide)]
      refine ⟨rnS_ap _ _ _ a1 (by rw [a3]; refine rnS_ap [2005] w' _ ?_ (by rw [ej]; exact b1); rw [rnS_1, if_neg (by decide), if_neg (by decide)]; exact ⟨⟨by decide, by rw [List.length_cons, List.length_cons]; omega⟩, True.intro⟩), u, b2, ?_⟩
      rw [ruS_ap, a3]
      show ruS F ([2005] ++ w') _ = _
      rw [ruS_ap, ej, b3]
  | n + 1, k + 3, _, _, _, _, _, _, _, hk, _, _ => by omega
/-- a line's own steps: there is room for them, and they say whether it holds -/
def LnOK (F : Nat → Int) (d : List Int) : Prop := d = [] ∨ (rnS F d [] ∧ ∃ v, (v = 0 ∨ v = 1) ∧ evS F d = [v])
theorem pIf_W (hF : (F 7 = 0 ∨ F 7 = 1) ∧ (F 8 = 0 ∨ F 8 = 1)) {f k a f1 k1 a1 : Int} {d : List Int} (h : pIf T E f [] k a = Sum.inr (f1, d, k1, a1)) : LnOK F d := by
  unfold pIf at h
  by_cases w : pWd T E [105, 102] f
  · rw [cif_t w] at h
    obtain ⟨⟨f2, c2⟩, h1, h2⟩ := bS_inr h
    obtain ⟨w', e, hw, -⟩ := pCd_W hF 1300 2 0 _ _ _ _ _ h1 (by decide) (by decide) (by decide)
    have h2 : (Sum.inr (f2, c2, k, a) : Int ⊕ (Int × List Int × Int × Int)) = Sum.inr (f1, d, k1, a1) := h2
    cases h2
    obtain ⟨a1, v, a2, a3⟩ := hw (Or.inl rfl) [] (by unfold bbS; decide)
    rw [List.nil_append] at e
    subst e
    exact Or.inr ⟨a1, v, a2, a3⟩
  · rw [cif_f w] at h
    cases h
    exact Or.inl rfl
theorem pLL_W (hF : (F 7 = 0 ∨ F 7 = 1) ∧ (F 8 = 0 ∨ F 8 = 1)) {f f1 kd am : Int} {d : List Int} (h : pLL T E f [] = Sum.inr (f1, d, kd, am)) : LnOK F d := by
  unfold pLL at h
  by_cases k : pKind T E f = -1
  · rw [cif_t k] at h; cases h
  · rw [cif_f k] at h
    by_cases k2 : pKind T E f = 2
    · rw [cif_t k2] at h; exact pIf_W hF h
    · rw [cif_f k2] at h
      by_cases n : pN T E 0 30 (pSk T E (pWe T E f))
      · rw [cif_t n] at h; exact pIf_W hF h
      · rw [cif_f n] at h; cases h
/-- what is told of each line -/
def SgOK (F : Nat → Int) (segs : List (List Int × Int × Int)) : Prop := ∀ s ∈ segs, LnOK F s.1 ∧ (s.2.1 = 0 ∨ s.2.1 = 1 ∨ s.2.1 = 2) ∧ 0 ≤ s.2.2 ∧ s.2.2 ≤ 30
theorem pSeg_W (hF : (F 7 = 0 ∨ F 7 = 1) ∧ (F 8 = 0 ∨ F 8 = 1)) : ∀ (n : Nat) (f : Int) (segs : List (List Int × Int × Int)), pOk T E f → pSeg T E n f = Sum.inr segs → SgOK F segs
  | 0, _, _, _, h => by cases h
  | n + 1, f, segs, hf, h => by
    obtain ⟨⟨f1, d, kd, am⟩, h1, h2⟩ := bS_inr (show bS (pLL T E f []) _ = Sum.inr segs from h)
    obtain ⟨o1, o2, o3, o4, o5, o6, o7⟩ := pLL_ok h1 hf (by have := hf.1; show (0 : Int) ≤ f; exact this)
    have hd := pLL_W hF h1
    have h2 : (if f1 = E then Sum.inr [(d, kd, am)] else if T f1 = 59 then bS (pSeg T E n (pSk T E (f1 + 1))) (fun r => Sum.inr ((d, kd, am) :: r)) else Sum.inl f1 : Int ⊕ List (List Int × Int × Int)) = Sum.inr segs := h2
    have me : LnOK F d ∧ (kd = 0 ∨ kd = 1 ∨ kd = 2) ∧ 0 ≤ am ∧ am ≤ 30 := ⟨hd, by omega, o6, o7⟩
    by_cases x : f1 = E
    · rw [if_pos x] at h2
      cases h2
      intro s hs
      rcases List.mem_cons.mp hs with rfl | hs
      · exact me
      · cases hs
    · rw [if_neg x] at h2
      by_cases x2 : T f1 = 59
      · rw [if_pos x2] at h2
        obtain ⟨r2, h3, h4⟩ := bS_inr h2
        cases h4
        have ih := pSeg_W hF n _ r2 (pOk_sk (by have := o1.1; omega) (by have := o1.2.1; omega)) h3
        intro s hs
        rcases List.mem_cons.mp hs with rfl | hs
        · exact me
        · exact ih s hs
      · rw [if_neg x2] at h2; cases h2
theorem pLawR_W (hF : (F 7 = 0 ∨ F 7 = 1) ∧ (F 8 = 0 ∨ F 8 = 1)) (hE : 0 ≤ E) {segs : List (List Int × Int × Int)} (h : pLawR T E = Sum.inr segs) : SgOK F segs := by
  unfold pLawR at h
  by_cases e : pSk T E 0 = E
  · rw [if_pos e] at h
    cases h
    intro s hs
    cases hs
  · rw [if_neg e] at h
    exact pSeg_W hF 12 _ segs (pOk_sk (Int.le_refl 0) hE) h
end IB
