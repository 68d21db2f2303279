/-! joined: 83.ch41ia 83.ch42ib 83.ch43ic0 83.ch44ic 83.ch45id 83.ch46ie 83.ch47if -/
section
/-! fx: the law's text: bytes behind its end don't count -/
section IA
variable {T T' : Int → Int} {E : Int}
theorem spn_x {p p' : Int → Bool} : ∀ (n : Nat) (i : Int), (∀ k, i ≤ k → k < i + n → p k = p' k) → spn p n i = spn p' n i
  | 0, _, _ => rfl
  | n + 1, i, h => by
    show (if p i = true then spn p n (i + 1) else i) = (if p' i = true then spn p' n (i + 1) else i)
    rw [h i (by omega) (by omega), spn_x n (i + 1) (fun k h1 h2 => h k (by omega) (by omega))]
theorem prun_x {p p' : Int → Bool} (h : ∀ k, k < E → p k = p' k) (i : Int) : prun p E i = prun p' E i := by
  unfold prun
  exact spn_x _ i (fun k h1 h2 => h k (by omega))
theorem sk_x (h : ∀ k, k < E → T k = T' k) (i : Int) : prun (isSp T) E i = prun (isSp T') E i := prun_x (fun k hk => by unfold isSp; rw [h k hk]) i
theorem we_x (h : ∀ k, k < E → T k = T' k) (i : Int) : prun (isLe T) E i = prun (isLe T') E i := prun_x (fun k hk => by unfold isLe; rw [h k hk]) i
theorem dg_x (h : ∀ k, k < E → T k = T' k) (i : Int) : prun (isDi T) E i = prun (isDi T') E i := prun_x (fun k hk => by unfold isDi; rw [h k hk]) i
theorem prun_hi {p : Int → Bool} {i : Int} (h : i < prun p E i) : prun p E i ≤ E := by
  by_cases e : i ≤ E
  · exact prun_le e
  · rw [prun_stop (by omega)] at h; omega
theorem wd_x (h : ∀ k, k < E → T k = T' k) (ws : List Nat) (f : Int) : pWd T E ws f = pWd T' E ws f := by
  unfold pWd pWe
  rw [we_x h f]
  refine propext ⟨fun ⟨a, b⟩ => ⟨a, fun k hk => ?_⟩, fun ⟨a, b⟩ => ⟨a, fun k hk => ?_⟩⟩
  · have := prun_hi (p := isLe T') (E := E) (i := f) (by omega)
    rw [← h (f + k) (by omega)]; exact b k hk
  · have := prun_hi (p := isLe T') (E := E) (i := f) (by omega)
    rw [h (f + k) (by omega)]; exact b k hk
theorem nv_x (h : ∀ k, k < E → T k = T' k) (f : Int) : ∀ n : Nat, f + n ≤ E → nv T f n = nv T' f n
  | 0, _ => rfl
  | n + 1, hn => by
    show 10 * nv T f n + T (f + n) - 48 = 10 * nv T' f n + T' (f + n) - 48
    rw [nv_x h f n (by omega), h (f + n) (by omega)]
theorem nu_x (h : ∀ k, k < E → T k = T' k) (f : Int) : nv T f (prun (isDi T) E f - f).toNat = nv T' f (prun (isDi T') E f - f).toNat := by
  rw [dg_x h f]
  have g1 : f ≤ prun (isDi T') E f := prun_ge
  by_cases e : f < prun (isDi T') E f
  · have := prun_hi (p := isDi T') (E := E) (i := f) e
    exact nv_x h f _ (by omega)
  · rw [show (prun (isDi T') E f - f).toNat = 0 by omega]; rfl
theorem pN_x (h : ∀ k, k < E → T k = T' k) (lo hi f : Int) : pN T E lo hi f = pN T' E lo hi f := by
  unfold pN pDg
  rw [nu_x h f, dg_x h f]
theorem sg_x (h : ∀ k, k < E → T k = T' k) (z f : Int) : pSg T E z f = pSg T' E z f := by
  unfold pSg
  refine propext ⟨fun ⟨a, b⟩ => ⟨a, ?_⟩, fun ⟨a, b⟩ => ⟨a, ?_⟩⟩
  · rw [← h f a]; exact b
  · rw [h f a]; exact b
theorem fact_x (h : ∀ k, k < E → T k = T' k) (f : Int) : pFact T E f = pFact T' E f := by
  unfold pFact
  simp only [wd_x h]
theorem part_x (h : ∀ k, k < E → T k = T' k) (f : Int) : pPart T E f = pPart T' E f := by
  unfold pPart pNu pSk pWe pDg
  rw [nu_x h f]
  simp only [fact_x h, pN_x h, sk_x h, we_x h, dg_x h]
theorem sum_x (h : ∀ k, k < E → T k = T' k) : ∀ (n : Nat) (f : Int) (c : List Int) (j : Bool), pSum T E n f c j = pSum T' E n f c j
  | 0, _, _, _ => rfl
  | n + 1, f, c, j => by
    show bS (pPart T E f) (fun a => cif (pSg T E 43 a.1) (pSum T E n (pSk T E (a.1 + 1)) (c ++ (a.2 :: cond j [2000] [])) true) (Sum.inr (a.1, c ++ (a.2 :: cond j [2000] [])))) = bS (pPart T' E f) (fun a => cif (pSg T' E 43 a.1) (pSum T' E n (pSk T' E (a.1 + 1)) (c ++ (a.2 :: cond j [2000] [])) true) (Sum.inr (a.1, c ++ (a.2 :: cond j [2000] []))))
    simp only [part_x h, sg_x h, sk_x h, sum_x h n]
theorem cd_x (h : ∀ k, k < E → T k = T' k) : ∀ (n k : Nat) (d f : Int) (c : List Int) (j : Bool), pCd T E n k d f c j = pCd T' E n k d f c j
  | 0, _, _, _, _, _ => rfl
  | n + 1, 0, d, f, c, j => by
    have ih := cd_x h n
    simp only [pCd, sg_x h, wd_x h, sk_x h, we_x h, sum_x h, ih]
  | n + 1, 1, d, f, c, j => by
    have ih := cd_x h n
    simp only [pCd, sg_x h, wd_x h, sk_x h, we_x h, sum_x h, ih]
  | n + 1, k + 2, d, f, c, j => by
    have ih := cd_x h n
    simp only [pCd, sg_x h, wd_x h, sk_x h, we_x h, sum_x h, ih]
theorem kind_x (h : ∀ k, k < E → T k = T' k) (f : Int) : pKind T E f = pKind T' E f := by
  unfold pKind
  simp only [wd_x h]
theorem if_x (h : ∀ k, k < E → T k = T' k) (f : Int) (c : List Int) (k a : Int) : pIf T E f c k a = pIf T' E f c k a := by
  unfold pIf pSk pWe
  simp only [wd_x h, sk_x h, we_x h, cd_x h]
theorem ll_x (h : ∀ k, k < E → T k = T' k) (f : Int) (c : List Int) : pLL T E f c = pLL T' E f c := by
  unfold pLL pNu pSk pWe pDg
  simp only [nu_x h]
  simp only [kind_x h, pN_x h, if_x h, sk_x h, we_x h, dg_x h]
theorem ok_x (h : ∀ k, k < E → T k = T' k) (f : Int) : pOk T E f = pOk T' E f := by
  unfold pOk pSk
  simp only [sk_x h]
theorem seg_x (h : ∀ k, k < E → T k = T' k) : ∀ (n : Nat) (f : Int), pOk T E f → pSeg T E n f = pSeg T' E n f
  | 0, _, _ => rfl
  | n + 1, f, hf => by
    show bS (pLL T E f []) (fun a => if a.1 = E then Sum.inr [a.2] else if T a.1 = 59 then bS (pSeg T E n (pSk T E (a.1 + 1))) (fun r => Sum.inr (a.2 :: r)) else Sum.inl a.1) = bS (pLL T' E f []) (fun a => if a.1 = E then Sum.inr [a.2] else if T' a.1 = 59 then bS (pSeg T' E n (pSk T' E (a.1 + 1))) (fun r => Sum.inr (a.2 :: r)) else Sum.inl a.1)
    rw [← ll_x h f []]
    cases q : pLL T E f [] with
    | inl q => rw [bS_l, bS_l]
    | inr a =>
      obtain ⟨f1, d, kd, am⟩ := a
      rw [bS_r, bS_r]
      obtain ⟨o1, o2, -⟩ := pLL_ok q hf (by have := hf.1; show (0 : Int) ≤ f; exact this)
      show (if f1 = E then Sum.inr [(d, kd, am)] else if T f1 = 59 then bS (pSeg T E n (pSk T E (f1 + 1))) (fun r => Sum.inr ((d, kd, am) :: r)) else Sum.inl f1 : Int ⊕ List (List Int × Int × Int)) = if f1 = E then Sum.inr [(d, kd, am)] else if T' f1 = 59 then bS (pSeg T' E n (pSk T' E (f1 + 1))) (fun r => Sum.inr ((d, kd, am) :: r)) else Sum.inl f1
      by_cases x : f1 = E
      · rw [if_pos x, if_pos x]
      · rw [if_neg x, if_neg x, ← h f1 (by have := o1.2.1; omega)]
        by_cases x2 : T f1 = 59
        · rw [if_pos x2, if_pos x2]
          have o3 : pOk T E (pSk T E (f1 + 1)) := pOk_sk (by have := o1.1; omega) (by have := o1.2.1; omega)
          rw [seg_x h n _ o3]
          unfold pSk
          rw [sk_x h]
        · rw [if_neg x2, if_neg x2]
theorem lawR_x (h : ∀ k, k < E → T k = T' k) (hE : 0 ≤ E) : pLawR T E = pLawR T' E := by
  unfold pLawR
  have o : pOk T E (pSk T E 0) := pOk_sk (Int.le_refl 0) hE
  rw [seg_x h 12 _ o]
  unfold pSk
  rw [sk_x h]
end IA
end
section
/-! fx: what the steps of the law's text leave on a stack of 24 -/
/-- all along the steps, from a stack on, there is room, and what is taken is there -/
noncomputable def rnS (F : Nat → Int) : List Int → List Int → Prop
  | [], _ => True
  | s :: c, st => (if s < 2000 then (0 ≤ s ∧ s ≤ 1008) ∧ st.length < 24 else if s = 2003 then ∃ b t, st = b :: t ∧ (b = 0 ∨ b = 1) else s ≤ 2005 ∧ 2 ≤ st.length) ∧ rnS F c (stpS F s st)
noncomputable def ruS (F : Nat → Int) (c st : List Int) : List Int := c.foldl (fun st s => stpS F s st) st
section IB
variable {F : Nat → Int} {T : Int → Int} {E : Int}
theorem ruS_0 (st : List Int) : ruS F [] st = st := rfl
theorem ruS_1 (s : Int) (c st : List Int) : ruS F (s :: c) st = ruS F c (stpS F s st) := rfl
theorem ruS_ap (a b st : List Int) : ruS F (a ++ b) st = ruS F b (ruS F a st) := by unfold ruS; rw [List.foldl_append]
theorem ruS_ev (c : List Int) : ruS F c [] = evS F c := rfl
theorem rnS_1 (s : Int) (c st : List Int) : rnS F (s :: c) st = ((if s < 2000 then (0 ≤ s ∧ s ≤ 1008) ∧ st.length < 24 else if s = 2003 then ∃ b t, st = b :: t ∧ (b = 0 ∨ b = 1) else s ≤ 2005 ∧ 2 ≤ st.length) ∧ rnS F c (stpS F s st)) := rfl
theorem rnS_ap : ∀ (a b st : List Int), rnS F a st → rnS F b (ruS F a st) → rnS F (a ++ b) st
  | [], _, _, _, h => h
  | s :: a, b, st, h, h2 => ⟨h.1, rnS_ap a b _ h.2 h2⟩
theorem stp_lt {s : Int} (st : List Int) (h : s < 2000) : stpS F s st = vS F s :: st := stp_v st (by omega)
theorem stp_no {b : Int} (t : List Int) : stpS F 2003 (b :: t) = (1 - b) :: t := by
  unfold stpS
  rw [if_neg (by decide), if_neg (by decide), if_pos rfl]
  rfl
theorem stp_jn {s a b : Int} (t : List Int) (h : 2000 ≤ s) (h3 : s ≠ 2003) : stpS F s (b :: a :: t) = jnS s a b :: t := by
  unfold stpS
  rw [if_neg (by omega), if_neg (by omega), if_neg h3]
  rfl
/-- a number more, with B of room at most -/
def WdV (F : Nat → Int) (B : Nat) (w : List Int) : Prop := ∀ st : List Int, st.length + B ≤ 24 → rnS F w st ∧ ∃ v, ruS F w st = v :: st
def WjV (F : Nat → Int) (B : Nat) (w : List Int) : Prop := ∀ (v0 : Int) (st : List Int), st.length + 1 + B ≤ 24 → rnS F w (v0 :: st) ∧ ∃ v, ruS F w (v0 :: st) = v :: st
def WdB (F : Nat → Int) (B : Nat) (w : List Int) : Prop := ∀ st : List Int, st.length + B ≤ 24 → rnS F w st ∧ ∃ v, (v = 0 ∨ v = 1) ∧ ruS F w st = v :: st
def WjB (F : Nat → Int) (B : Nat) (w : List Int) : Prop := ∀ (v0 : Int) (st : List Int), (v0 = 0 ∨ v0 = 1) → st.length + 1 + B ≤ 24 → rnS F w (v0 :: st) ∧ ∃ v, (v = 0 ∨ v = 1) ∧ ruS F w (v0 :: st) = v :: st
theorem WdB.up {B B' : Nat} {w : List Int} (h : WdB F B w) (hb : B ≤ B') : WdB F B' w := fun st hs => h st (by omega)
theorem pPart_v {f f1 v : Int} (h : pPart T E f = Sum.inr (f1, v)) : 0 ≤ v ∧ v ≤ 1006 := by
  unfold pPart at h
  by_cases c : pFact T E f = -1
  · rw [cif_t c] at h
    by_cases c2 : pN T E 0 999 f
    · rw [cif_t c2] at h
      cases h
      obtain ⟨n1, n2, n3, n4⟩ := c2
      show 0 ≤ nv T f _ ∧ nv T f _ ≤ 1006
      omega
    · rw [cif_f c2] at h; cases h
  · rw [cif_f c] at h
    cases h
    have h3 := pFact_b T E f
    omega
theorem pSum_W : ∀ (n : Nat) (f : Int) (c : List Int) (j : Bool) (f1 : Int) (c1 : List Int), pSum T E n f c j = Sum.inr (f1, c1) → ∃ w, c1 = c ++ w ∧ (j = false → WdV F 2 w) ∧ (j = true → WjV F 1 w)
  | 0, f, c, j, f1, c1, h => by cases h
  | n + 1, f, c, j, f1, c1, h => by
    obtain ⟨⟨f2, v⟩, h1, h2⟩ := bS_inr h
    have hv := pPart_v h1
    have u0 : ∀ st : List Int, st.length < 24 → rnS F [v] st ∧ ruS F [v] st = vS F v :: st := fun st hs => by
      refine ⟨?_, ?_⟩
      · rw [rnS_1, if_pos (by omega)]
        exact ⟨⟨by omega, hs⟩, True.intro⟩
      · rw [ruS_1, ruS_0, stp_lt st (by omega)]
    have u1 : ∀ (v0 : Int) (st : List Int), st.length + 1 < 24 → rnS F [v, 2000] (v0 :: st) ∧ ∃ x, ruS F [v, 2000] (v0 :: st) = x :: st := fun v0 st hs => by
      refine ⟨?_, ?_⟩
      · rw [rnS_1, if_pos (by omega), stp_lt _ (by omega), rnS_1, if_neg (by decide), if_neg (by decide)]
        exact ⟨⟨by omega, by rw [List.length_cons]; exact hs⟩, ⟨by decide, by rw [List.length_cons, List.length_cons]; omega⟩, True.intro⟩
      · rw [ruS_1, stp_lt _ (by omega), ruS_1, stp_jn _ (by decide) (by decide)]
        exact ⟨_, rfl⟩
    have h2 : cif (pSg T E 43 f2) (pSum T E n (pSk T E (f2 + 1)) (c ++ (v :: cond j [2000] [])) true) (Sum.inr (f2, c ++ (v :: cond j [2000] []))) = Sum.inr (f1, c1) := h2
    by_cases s : pSg T E 43 f2
    · rw [cif_t s] at h2
      obtain ⟨w, e, -, hw⟩ := pSum_W n _ _ _ _ _ h2
      have hw := hw rfl
      refine ⟨(v :: cond j [2000] []) ++ w, by rw [e, List.append_assoc], fun hj => ?_, fun hj => ?_⟩
      · subst hj
        intro st hs
        obtain ⟨a1, a2⟩ := u0 st (by omega)
        obtain ⟨b1, b2, b3⟩ := hw (vS F v) st (by omega)
        refine ⟨rnS_ap [v] w st a1 (by rw [a2]; exact b1), b2, ?_⟩
        show ruS F ([v] ++ w) st = _
        rw [ruS_ap, a2, b3]
      · subst hj
        intro v0 st hs
        obtain ⟨a1, x, a2⟩ := u1 v0 st (by omega)
        obtain ⟨b1, b2, b3⟩ := hw x st (by omega)
        refine ⟨rnS_ap [v, 2000] w _ a1 (by rw [a2]; exact b1), b2, ?_⟩
        show ruS F ([v, 2000] ++ w) (v0 :: st) = _
        rw [ruS_ap, a2, b3]
    · rw [cif_f s] at h2
      cases h2
      refine ⟨v :: cond j [2000] [], rfl, fun hj => ?_, fun hj => ?_⟩
      · subst hj
        intro st hs
        obtain ⟨a1, a2⟩ := u0 st (by omega)
        exact ⟨a1, _, a2⟩
      · subst hj
        intro v0 st hs
        obtain ⟨a1, x, a2⟩ := u1 v0 st (by omega)
        exact ⟨a1, x, a2⟩
/-- room that an atom (0), what is joined by and (1), by or (2) needs, d deep -/
def bbS (k : Nat) (d : Int) : Nat := 3 + 2 * (6 - d).toNat + k
theorem pCd_W (hF : (F 7 = 0 ∨ F 7 = 1) ∧ (F 8 = 0 ∨ F 8 = 1)) : ∀ (n k : Nat) (d f : Int) (c : List Int) (j : Bool) (f1 : Int) (c1 : List Int), pCd T E n k d f c j = Sum.inr (f1, c1) → k ≤ 2 → 0 ≤ d → d ≤ 6 → ∃ w, c1 = c ++ w ∧ (j = false ∨ k = 0 → WdB F (bbS k d) w) ∧ (j = true → k ≠ 0 → WjB F (bbS (k - 1) d) w)
  | 0, _, _, _, _, _, _, _, h, _, _, _ => by cases h
  | n + 1, 0, d, f, c, j, f1, c1, h, hk, hd0, hd6 => by
    have h : cif (pSg T E 40 f) (cif (6 ≤ d) (Sum.inl f) (bS (pCd T E n 2 (d + 1) (pSk T E (f + 1)) c false) (fun a => cif (pSg T E 41 a.1) (Sum.inr (pSk T E (a.1 + 1), a.2)) (Sum.inl a.1)))) _ = Sum.inr (f1, c1) := h
    have lf : ∀ s : Int, s ≤ 1008 → 1000 ≤ s → (F (s - 1000).toNat = 0 ∨ F (s - 1000).toNat = 1) → WdB F (bbS 0 d) [s] := fun s s1 s0 sv st hs => by
      unfold bbS at hs
      refine ⟨?_, F (s - 1000).toNat, sv, ?_⟩
      · rw [rnS_1, if_pos (by omega)]
        exact ⟨⟨by omega, by omega⟩, True.intro⟩
      · rw [ruS_1, ruS_0, stp_lt _ (by omega)]
        unfold vS
        rw [if_neg (by omega)]
    by_cases s0 : pSg T E 40 f
    · rw [cif_t s0] at h
      by_cases d6 : 6 ≤ d
      · rw [cif_t d6] at h; cases h
      · rw [cif_f d6] at h
        obtain ⟨⟨f2, c2⟩, h1, h2⟩ := bS_inr h
        obtain ⟨w, e, hw, -⟩ := pCd_W hF n 2 _ _ _ _ _ _ h1 (by decide) (by omega) (by omega)
        have h2 : cif (pSg T E 41 f2) (Sum.inr (pSk T E (f2 + 1), c2)) (Sum.inl f2) = Sum.inr (f1, c1) := h2
        by_cases s1 : pSg T E 41 f2
        · rw [cif_t s1] at h2
          cases h2
          exact ⟨w, e, fun _ => (hw (Or.inl rfl)).up (by unfold bbS; omega), fun _ t => absurd rfl t⟩
        · rw [cif_f s1] at h2; cases h2
    · rw [cif_f s0] at h
      by_cases w1 : pWd T E [110, 111, 116] f
      · rw [cif_t w1] at h
        by_cases d6 : 6 ≤ d
        · rw [cif_t d6] at h; cases h
        · rw [cif_f d6] at h
          obtain ⟨⟨f2, c2⟩, h1, h2⟩ := bS_inr h
          obtain ⟨w, e, hw, -⟩ := pCd_W hF n 0 _ _ _ _ _ _ h1 (by decide) (by omega) (by omega)
          have h2 : (Sum.inr (f2, c2 ++ [2003]) : Int ⊕ (Int × List Int)) = Sum.inr (f1, c1) := h2
          cases h2
          refine ⟨w ++ [2003], by rw [e, List.append_assoc], fun _ st hs => ?_, fun _ t => absurd rfl t⟩
          obtain ⟨b1, v, b2, b3⟩ := hw (Or.inr rfl) st (by unfold bbS at hs ⊢; omega)
          refine ⟨rnS_ap _ _ _ b1 ?_, 1 - v, by omega, ?_⟩
          · rw [b3, rnS_1, if_neg (by decide), if_pos rfl]
            exact ⟨⟨v, st, rfl, b2⟩, True.intro⟩
          · rw [ruS_ap, b3, ruS_1, ruS_0, stp_no]
      · rw [cif_f w1] at h
        by_cases w2 : pWd T E [112, 114, 111, 109, 105, 115, 101, 100] f
        · rw [cif_t w2] at h
          cases h
          exact ⟨[1007], rfl, fun _ => lf 1007 (by decide) (by decide) hF.1, fun _ t => absurd rfl t⟩
        · rw [cif_f w2] at h
          by_cases w3 : pWd T E [116, 104, 114, 101, 101] f
          · rw [cif_t w3] at h
            cases h
            exact ⟨[1008], rfl, fun _ => lf 1008 (by decide) (by decide) hF.2, fun _ t => absurd rfl t⟩
          · rw [cif_f w3] at h
            obtain ⟨⟨f2, c2⟩, h1, h2⟩ := bS_inr h
            obtain ⟨w, e, hw, -⟩ := pSum_W (F := F) _ _ _ _ _ _ h1
            have hw := hw rfl
            have h2 : cif (pSg T E 60 f2) (bS (pSum T E 401 (pSk T E (f2 + 1)) c2 false) (fun b => Sum.inr (b.1, b.2 ++ [2001]))) (cif (pSg T E 62 f2) (bS (pSum T E 401 (pSk T E (f2 + 1)) c2 false) (fun b => Sum.inr (b.1, b.2 ++ [2002]))) (Sum.inl f2)) = Sum.inr (f1, c1) := h2
            have nxt : ∀ (x : Int), (x = 2001 ∨ x = 2002) → bS (pSum T E 401 (pSk T E (f2 + 1)) c2 false) (fun b => Sum.inr (b.1, b.2 ++ [x])) = Sum.inr (f1, c1) → ∃ w, c1 = c ++ w ∧ WdB F (bbS 0 d) w := fun x hx h2 => by
              obtain ⟨⟨f3, c3⟩, h3, h4⟩ := bS_inr h2
              obtain ⟨w', e', hw', -⟩ := pSum_W (F := F) _ _ _ _ _ _ h3
              have hw' := hw' rfl
              have h4 : (Sum.inr (f3, c3 ++ [x]) : Int ⊕ (Int × List Int)) = Sum.inr (f1, c1) := h4
              cases h4
              refine ⟨w ++ (w' ++ [x]), by rw [e', e, List.append_assoc, List.append_assoc], fun st hs => ?_⟩
              unfold bbS at hs
              obtain ⟨a1, v, a2⟩ := hw st (by omega)
              obtain ⟨b1, u, b2⟩ := hw' (v :: st) (by rw [List.length_cons]; omega)
              refine ⟨rnS_ap _ _ _ a1 (by rw [a2]; exact rnS_ap _ _ _ b1 (by rw [b2, rnS_1, if_neg (by omega), if_neg (by omega)]; exact ⟨⟨by omega, by rw [List.length_cons, List.length_cons]; omega⟩, True.intro⟩)), jnS x v u, ?_, ?_⟩
              · unfold jnS
                rcases hx with rfl | rfl
                · rw [if_neg (by decide), if_pos rfl]; split <;> simp
                · rw [if_neg (by decide), if_neg (by decide), if_pos rfl]; split <;> simp
              · rw [ruS_ap, a2, ruS_ap, b2, ruS_1, ruS_0, stp_jn _ (by omega) (by omega)]
            have fin : ∀ x : Int, (x = 2001 ∨ x = 2002) → bS (pSum T E 401 (pSk T E (f2 + 1)) c2 false) (fun b => Sum.inr (b.1, b.2 ++ [x])) = Sum.inr (f1, c1) → ∃ w, c1 = c ++ w ∧ (j = false ∨ 0 = 0 → WdB F (bbS 0 d) w) ∧ (j = true → 0 ≠ 0 → WjB F (bbS (0 - 1) d) w) := fun x hx h2 => by
              obtain ⟨w, e1, e2⟩ := nxt x hx h2
              exact ⟨w, e1, fun _ => e2, fun _ t => absurd rfl t⟩
            by_cases s1 : pSg T E 60 f2
            · rw [cif_t s1] at h2
              exact fin _ (Or.inl rfl) h2
            · rw [cif_f s1] at h2
              by_cases s2 : pSg T E 62 f2
              · rw [cif_t s2] at h2
                exact fin _ (Or.inr rfl) h2
              · rw [cif_f s2] at h2; cases h2
  | n + 1, 1, d, f, c, j, f1, c1, h, hk, hd0, hd6 => by
    obtain ⟨⟨f2, c2⟩, h1, h2⟩ := bS_inr h
    obtain ⟨wa, e, ha, -⟩ := pCd_W hF n 0 _ _ _ _ _ _ h1 (by decide) hd0 hd6
    have ha := ha (Or.inr rfl)
    have h2 : cif (pWd T E [97, 110, 100] f2) (pCd T E n 1 d (pSk T E (pWe T E f2)) (c2 ++ cond j [2004] []) true) (Sum.inr (f2, c2 ++ cond j [2004] [])) = Sum.inr (f1, c1) := h2
    have rest : ∃ w', c1 = c2 ++ cond j [2004] [] ++ w' ∧ WjB F (bbS 0 d) w' := by
      by_cases w : pWd T E [97, 110, 100] f2
      · rw [cif_t w] at h2
        obtain ⟨w', e', -, hw'⟩ := pCd_W hF n 1 _ _ _ _ _ _ h2 (by decide) hd0 hd6
        exact ⟨w', e', hw' rfl (by decide)⟩
      · rw [cif_f w] at h2
        cases h2
        exact ⟨[], by rw [List.append_nil], fun v0 st hv _ => ⟨True.intro, v0, hv, rfl⟩⟩
    obtain ⟨w', e', hw'⟩ := rest
    refine ⟨wa ++ (cond j [2004] [] ++ w'), by rw [e', e, List.append_assoc, List.append_assoc], fun hj => ?_, fun hj _ => ?_⟩
    · rcases hj with hj | hj
      · subst hj
        intro st hs
        have hs : st.length + (3 + 2 * (6 - d).toNat + 1) ≤ 24 := hs
        obtain ⟨a1, v, a2, a3⟩ := ha st (by unfold bbS; omega)
        obtain ⟨b1, u, b2, b3⟩ := hw' v st a2 (by unfold bbS; omega)
        refine ⟨rnS_ap _ _ _ a1 (by rw [a3]; exact b1), u, b2, ?_⟩
        rw [ruS_ap, a3]
        exact b3
      · exact absurd hj (by decide)
    · subst hj
      intro v0 st hv hs
      have hs : st.length + 1 + (3 + 2 * (6 - d).toNat + 0) ≤ 24 := hs
      obtain ⟨a1, v, a2, a3⟩ := ha (v0 :: st) (by rw [List.length_cons]; unfold bbS; omega)
      have hj : jnS 2004 v0 v = 0 ∨ jnS 2004 v0 v = 1 := by
        unfold jnS
        rw [if_neg (by decide), if_neg (by decide), if_neg (by decide), if_pos rfl, b01_and hv a2]
        split <;> simp
      obtain ⟨b1, u, b2, b3⟩ := hw' (jnS 2004 v0 v) st hj (by unfold bbS; omega)
      have ej : ruS F [2004] (v :: v0 :: st) = jnS 2004 v0 v :: st := by rw [ruS_1, ruS_0, stp_jn _ (by decide) (by decide)]
      refine ⟨rnS_ap _ _ _ a1 (by rw [a3]; refine rnS_ap [2004] w' _ ?_ (by rw [ej]; exact b1); rw [rnS_1, if_neg (by decide), if_neg (by decide)]; exact ⟨⟨by decide, by rw [List.length_cons, List.length_cons]; omega⟩, True.intro⟩), u, b2, ?_⟩
      rw [ruS_ap, a3]
      show ruS F ([2004] ++ w') _ = _
      rw [ruS_ap, ej, b3]
  | n + 1, 2, d, f, c, j, f1, c1, h, hk, hd0, hd6 => by
    obtain ⟨⟨f2, c2⟩, h1, h2⟩ := bS_inr h
    obtain ⟨wa, e, ha, -⟩ := pCd_W hF n 1 _ _ _ _ _ _ h1 (by decide) hd0 hd6
    have ha := ha (Or.inl rfl)
    have h2 : cif (pWd T E [111, 114] f2) (pCd T E n 2 d (pSk T E (pWe T E f2)) (c2 ++ cond j [2005] []) true) (Sum.inr (f2, c2 ++ cond j [2005] [])) = Sum.inr (f1, c1) := h2
    have rest : ∃ w', c1 = c2 ++ cond j [2005] [] ++ w' ∧ WjB F (bbS 1 d) w' := by
      by_cases w : pWd T E [111, 114] f2
      · rw [cif_t w] at h2
        obtain ⟨w', e', -, hw'⟩ := pCd_W hF n 2 _ _ _ _ _ _ h2 (by decide) hd0 hd6
        exact ⟨w', e', hw' rfl (by decide)⟩
      · rw [cif_f w] at h2
        cases h2
        exact ⟨[], by rw [List.append_nil], fun v0 st hv _ => ⟨True.intro, v0, hv, rfl⟩⟩
    obtain ⟨w', e', hw'⟩ := rest
    refine ⟨wa ++ (cond j [2005] [] ++ w'), by rw [e', e, List.append_assoc, List.append_assoc], fun hj => ?_, fun hj _ => ?_⟩
    · rcases hj with hj | hj
      · subst hj
        intro st hs
        have hs : st.length + (3 + 2 * (6 - d).toNat + 2) ≤ 24 := hs
        obtain ⟨a1, v, a2, a3⟩ := ha st (by unfold bbS; omega)
        obtain ⟨b1, u, b2, b3⟩ := hw' v st a2 (by unfold bbS; omega)
        refine ⟨rnS_ap _ _ _ a1 (by rw [a3]; exact b1), u, b2, ?_⟩
        rw [ruS_ap, a3]
        exact b3
      · exact absurd hj (by decide)
    · subst hj
      intro v0 st hv hs
      have hs : st.length + 1 + (3 + 2 * (6 - d).toNat + 1) ≤ 24 := hs
      obtain ⟨a1, v, a2, a3⟩ := ha (v0 :: st) (by rw [List.length_cons]; unfold bbS; omega)
      have hj : jnS 2005 v0 v = 0 ∨ jnS 2005 v0 v = 1 := by
        unfold jnS
        rw [if_neg (by decide), if_neg (by decide), if_neg (by decide), if_neg (by decide), b01_or hv a2]
        split <;> simp
      obtain ⟨b1, u, b2, b3⟩ := hw' (jnS 2005 v0 v) st hj (by unfold bbS; omega)
      have ej : ruS F [2005] (v :: v0 :: st) = jnS 2005 v0 v :: st := by rw [ruS_1, ruS_0, stp_jn _ (by decide) (by decide)]
      refine ⟨rnS_ap _ _ _ a1 (by rw [a3]; refine rnS_ap [2005] w' _ ?_ (by rw [ej]; exact b1); rw [rnS_1, if_neg (by decide), if_neg (by decide)]; exact ⟨⟨by decide, by rw [List.length_cons, List.length_cons]; omega⟩, True.intro⟩), u, b2, ?_⟩
      rw [ruS_ap, a3]
      show ruS F ([2005] ++ w') _ = _
      rw [ruS_ap, ej, b3]
  | n + 1, k + 3, _, _, _, _, _, _, _, hk, _, _ => by omega
/-- a line's own steps: there is room for them, and they say whether it holds -/
def LnOK (F : Nat → Int) (d : List Int) : Prop := d = [] ∨ (rnS F d [] ∧ ∃ v, (v = 0 ∨ v = 1) ∧ evS F d = [v])
theorem pIf_W (hF : (F 7 = 0 ∨ F 7 = 1) ∧ (F 8 = 0 ∨ F 8 = 1)) {f k a f1 k1 a1 : Int} {d : List Int} (h : pIf T E f [] k a = Sum.inr (f1, d, k1, a1)) : LnOK F d := by
  unfold pIf at h
  by_cases w : pWd T E [105, 102] f
  · rw [cif_t w] at h
    obtain ⟨⟨f2, c2⟩, h1, h2⟩ := bS_inr h
    obtain ⟨w', e, hw, -⟩ := pCd_W hF 1300 2 0 _ _ _ _ _ h1 (by decide) (by decide) (by decide)
    have h2 : (Sum.inr (f2, c2, k, a) : Int ⊕ (Int × List Int × Int × Int)) = Sum.inr (f1, d, k1, a1) := h2
    cases h2
    obtain ⟨a1, v, a2, a3⟩ := hw (Or.inl rfl) [] (by unfold bbS; decide)
    rw [List.nil_append] at e
    subst e
    exact Or.inr ⟨a1, v, a2, a3⟩
  · rw [cif_f w] at h
    cases h
    exact Or.inl rfl
theorem pLL_W (hF : (F 7 = 0 ∨ F 7 = 1) ∧ (F 8 = 0 ∨ F 8 = 1)) {f f1 kd am : Int} {d : List Int} (h : pLL T E f [] = Sum.inr (f1, d, kd, am)) : LnOK F d := by
  unfold pLL at h
  by_cases k : pKind T E f = -1
  · rw [cif_t k] at h; cases h
  · rw [cif_f k] at h
    by_cases k2 : pKind T E f = 2
    · rw [cif_t k2] at h; exact pIf_W hF h
    · rw [cif_f k2] at h
      by_cases n : pN T E 0 30 (pSk T E (pWe T E f))
      · rw [cif_t n] at h; exact pIf_W hF h
      · rw [cif_f n] at h; cases h
/-- what is told of each line -/
def SgOK (F : Nat → Int) (segs : List (List Int × Int × Int)) : Prop := ∀ s ∈ segs, LnOK F s.1 ∧ (s.2.1 = 0 ∨ s.2.1 = 1 ∨ s.2.1 = 2) ∧ 0 ≤ s.2.2 ∧ s.2.2 ≤ 30
theorem pSeg_W (hF : (F 7 = 0 ∨ F 7 = 1) ∧ (F 8 = 0 ∨ F 8 = 1)) : ∀ (n : Nat) (f : Int) (segs : List (List Int × Int × Int)), pOk T E f → pSeg T E n f = Sum.inr segs → SgOK F segs
  | 0, _, _, _, h => by cases h
  | n + 1, f, segs, hf, h => by
    obtain ⟨⟨f1, d, kd, am⟩, h1, h2⟩ := bS_inr (show bS (pLL T E f []) _ = Sum.inr segs from h)
    obtain ⟨o1, o2, o3, o4, o5, o6, o7⟩ := pLL_ok h1 hf (by have := hf.1; show (0 : Int) ≤ f; exact this)
    have hd := pLL_W hF h1
    have h2 : (if f1 = E then Sum.inr [(d, kd, am)] else if T f1 = 59 then bS (pSeg T E n (pSk T E (f1 + 1))) (fun r => Sum.inr ((d, kd, am) :: r)) else Sum.inl f1 : Int ⊕ List (List Int × Int × Int)) = Sum.inr segs := h2
    have me : LnOK F d ∧ (kd = 0 ∨ kd = 1 ∨ kd = 2) ∧ 0 ≤ am ∧ am ≤ 30 := ⟨hd, by omega, o6, o7⟩
    by_cases x : f1 = E
    · rw [if_pos x] at h2
      cases h2
      intro s hs
      rcases List.mem_cons.mp hs with rfl | hs
      · exact me
      · cases hs
    · rw [if_neg x] at h2
      by_cases x2 : T f1 = 59
      · rw [if_pos x2] at h2
        obtain ⟨r2, h3, h4⟩ := bS_inr h2
        cases h4
        have ih := pSeg_W hF n _ r2 (pOk_sk (by have := o1.1; omega) (by have := o1.2.1; omega)) h3
        intro s hs
        rcases List.mem_cons.mp hs with rfl | hs
        · exact me
        · exact ih s hs
      · rw [if_neg x2] at h2; cases h2
theorem pLawR_W (hF : (F 7 = 0 ∨ F 7 = 1) ∧ (F 8 = 0 ∨ F 8 = 1)) (hE : 0 ≤ E) {segs : List (List Int × Int × Int)} (h : pLawR T E = Sum.inr segs) : SgOK F segs := by
  unfold pLawR at h
  by_cases e : pSk T E 0 = E
  · rw [if_pos e] at h
    cases h
    intro s hs
    cases hs
  · rw [if_neg e] at h
    exact pSeg_W hF 12 _ segs (pOk_sk (Int.le_refl 0) hE) h
end IB
end
section
/-! fx: the reference reads the law: what lies behind the text stays -/
section IC0
variable {W : ax_W} {r : Nat} {g : Nat → Nat → Int} {Q : Nat → Nat → (Nat → Nat → Int) → Prop} {T : Int → Int} {E : Int}
theorem sp_mlawB_1 {n : Int} {N : Nat} (hE : g 148 10 = (N : Int)) (hN : N ≤ 400) (kq : ∀ g', (∀ c j, ¬ (c = 149 ∧ 364 ≤ j ∧ j < 364 + N) → g' c j = g c j) → (∀ j, j < N → g' 149 (364 + j) = g 153 j) → fx W r 35 294 85 [1186, fI n, fI (N : Int)] [] g' Q) : ∀ (l k : Nat) (g' : Nat → Nat → Int), k + l = N → (∀ c j, ¬ (c = 149 ∧ 364 ≤ j ∧ j < 364 + N) → g' c j = g c j) → (∀ j, j < k → g' 149 (364 + j) = g 153 j) → fx W r 35 294 55 [1186, fI n, fI (k : Int)] [] g' Q
  | l, k, g', hk, hx, hi => by
    refine fx_rg (fun hg => ?_)
    have eE : g' 148 10 = (N : Int) := by rw [hx _ _ (by omega)]; exact hE
    have rt := hgA hg 400 (c := 153) (j := k)
    refine fx_li 2 56 (by decide +kernel) rfl ?_
    refine fx_la 0 57 (v := 1186) (by decide +kernel) rfl (by decide +kernel) ?_
    refine fx_gi 1186 148 10 60 (by decide +kernel) ?_
    refine fx_ige 85 63 (by decide +kernel) (by unfold fR; omega) (by first | exact hg 148 10 (by decide) (by decide +kernel) (by decide +kernel) | (unfold fR; omega)) (fun h60 => ?_) (fun h60 => ?_)
    · have e : k = N := by omega
      subst e
      exact kq g' hx hi
    · refine fx_la 0 64 (v := 1186) (by decide +kernel) rfl (by decide +kernel) ?_
      refine fx_gp 1186 148 1 1194 67 (by decide +kernel) ?_
      refine fx_ci (364) 70 (by decide +kernel) ?_
      refine fx_li 2 71 (by decide +kernel) rfl ?_
      refine fx_add 72 (by decide +kernel) rfl ?_
      refine fx_la 0 73 (v := 1186) (by decide +kernel) rfl (by decide +kernel) ?_
      refine fx_gp 1186 148 7 1226 76 (by decide +kernel) ?_
      refine fx_li 2 77 (by decide +kernel) rfl ?_
      refine fx_al 1226 153 400 78 (by decide +kernel) rfl (by omega) (by omega) rfl ?_
      have rt2 := rt (by decide +kernel) (by omega)
      rw [show ((k : Int)).toNat = k from rfl]
      unfold fR at rt2
      refine fx_as 1194 149 764 79 (by decide +kernel) rfl (by omega) (by omega) rfl (by unfold fR; omega) ?_
      refine fx_inc 2 82 (1) (by decide +kernel) rfl (Or.inr (fI_n4 _)) rfl ?_
      dsimp only [List.set]
      refine fx_go 55 (by decide +kernel) ?_
      match l, hk with
      | 0, hk => exfalso; omega
      | l + 1, hk =>
        rw [show (364 + (k : Int)).toNat = 364 + k by omega]
        refine sp_mlawB_1 hE hN kq l (k + 1) _ (by omega) (fun c j a => by rw [fu_ne (by omega)]; exact hx c j a) (fun j hj => ?_)
        by_cases e : j = k
        · subst e
          rw [fu_eq]
          exact hx _ _ (fun t => absurd t.1 (by decide))
        · rw [fu_nj (by omega)]
          exact hi j (by omega)
theorem sp_mlawB (hT : ∀ k : Int, 0 ≤ k → k < 400 → g 153 k.toNat = T k ∧ 0 ≤ T k ∧ T k ≤ 255) (hE : g 148 8 = E) (hE0 : 0 ≤ E) (hE1 : E ≤ 400) (hP : g 148 15 = 0 ∨ g 148 15 = 1) (hT3 : g 148 16 = 0 ∨ g 148 16 = 1)
    (k1 : ∀ q, pLawR T E = Sum.inl q → ∀ g', rZ g g' → g' 148 8 = 0 → g' 148 0 = 1 → g' 148 12 = q → Q 1 (fI 0) g')
    (k2 : ∀ segs, pLawR T E = Sum.inr segs → ∀ g', rZR g g' → g' 148 8 = 0 → g' 148 0 = 0 → g' 148 12 = -1 → g' 148 6 = 0 → g' 149 1 = (segs.length : Int) → g' 149 2 = E → (∀ j : Nat, (j : Int) < E → g' 149 (364 + j) = T j) → (∀ j : Nat, E ≤ (j : Int) → g' 149 (364 + j) = g 149 (364 + j)) → segs.length ≤ 12 → Q 1 (fI (segs.length : Int)) g') : fx W r 35 294 0 [1186, 7, 7] [] g Q := by
  have bx : ∀ c j, ¬ (c = 148 ∧ (8 ≤ j ∧ j ≤ 13)) → fBeg g c j = g c j := fun c j a => by
    unfold fBeg
    rw [fu_ne (by omega), fu_ne (by omega), fu_ne (by omega), fu_ne (by omega), fu_ne (by omega), fu_ne (by omega)]
  have bt : fBeg g 148 8 = 0 := by unfold fBeg; simp only [fu_app]; rfl
  have be : fBeg g 148 10 = E := by unfold fBeg; simp only [fu_app]; exact hE
  have hS : rwS T E (fBeg g) (fBeg g) (pSk T E 0) 0 := by
    have bb : fBeg g 148 9 = -1 := by unfold fBeg; simp only [fu_app]; rfl
    have ba : fBeg g 148 11 = 0 := by unfold fBeg; simp only [fu_app]; rfl
    have bf : fBeg g 148 12 = -1 := by unfold fBeg; simp only [fu_app]; rfl
    have bd : fBeg g 148 13 = 0 := by unfold fBeg; simp only [fu_app]; rfl
    refine ⟨⟨be, hE0, hE1, Or.inl bb, fun k k0 k1 => ?_⟩, by omega, by omega, by rw [ba], bf, bd, rX.rf⟩
    have e : flt (fBeg g) k = g 153 k.toNat := by
      unfold flt
      rw [if_pos bb, bx _ _ (fun t => absurd t.1 (by decide))]
    rw [e]
    exact hT k k0 k1
  refine fx_la 0 1 (v := 1186) (by decide +kernel) rfl (by decide +kernel) ?_
  refine fx_c1 268 21 4 0 [] (by decide +kernel) (by decide) rfl (by first | decide | omega) ?_
  refine sp_begins (fK0 ?_)
  refine fx_la 0 5 (v := 1186) (by decide +kernel) rfl (by decide +kernel) ?_
  refine fx_ci (1) 6 (by decide +kernel) ?_
  refine fx_c2 269 21 9 34 [7, 7] (by decide +kernel) (by decide) (by decide) (fI_n4 _) rfl (by first | decide | omega) ?_
  refine sp_mreadL (by rw [bx _ _ (by decide)]; exact hP) (by rw [bx _ _ (by decide)]; exact hT3) hS (fun segs p g1 x1 f1 => fK1 ?_) (fun q p v g1 x1 f1 q0 => fK1 ?_)
  have y1 := (fSg_Y (F := fF (fBeg g)) segs (fBeg g)).x x1
  have sl : segs.length ≤ 12 := pLawR_n p
  · refine fx_si 1 10 (by decide +kernel) (Or.inr (f_n4p (v := 1186) rfl (by decide))) rfl ?_
    dsimp only [List.set]
    refine fx_la 0 11 (v := 1186) (by decide +kernel) rfl (by decide +kernel) ?_
    refine fx_la 0 12 (v := 1186) (by decide +kernel) rfl (by decide +kernel) ?_
    refine fx_gi 1186 148 12 15 (by decide +kernel) ?_
    try simp only [fu_app, fcy_app, Nat.reduceEqDiff, and_true, and_false, false_and, true_and, if_true, if_false, ite_true, ite_false, reduceIte, Int.reduceToNat, fx_simp0]
    refine fx_rg (fun hg => ?_)
    have rf := hg 148 12 (by decide) (by decide +kernel) (by decide +kernel)
    unfold fR at rf
    refine fx_cn (-1) 16 (by decide +kernel) (fun v15 c15 => ?_)
    refine fx_ieq 23 19 (by decide +kernel) (by unfold fR; omega) (by unfold fR; omega) (fun h16 => ?_) (fun h16 => ?_)
    · refine fx_ci (0) 24 (by decide +kernel) ?_
      refine fx_pi 1186 148 0 27 (by decide +kernel) (by unfold fR; omega) ?_
      refine fx_la 0 28 (v := 1186) (by decide +kernel) rfl (by decide +kernel) ?_
      refine fx_gi 1186 148 0 31 (by decide +kernel) ?_
      try simp only [fu_app, fcy_app, Nat.reduceEqDiff, and_true, and_false, false_and, true_and, if_true, if_false, ite_true, ite_false, reduceIte, Int.reduceToNat, fx_simp0]
      refine fx_zle 36 34 (by decide +kernel) (by unfold fR; omega) (fun h31 => ?_) (fun h31 => ?_)
      · refine fx_la 0 37 (v := 1186) (by decide +kernel) rfl (by decide +kernel) ?_
        refine fx_gp 1186 148 1 1194 40 (by decide +kernel) ?_
        refine fx_ci (1) 41 (by decide +kernel) ?_
        refine fx_li 1 42 (by decide +kernel) rfl ?_
        refine fx_as 1194 149 764 43 (by decide +kernel) rfl (by omega) (by omega) rfl (by unfold fR; omega) ?_
        refine fx_la 0 44 (v := 1186) (by decide +kernel) rfl (by decide +kernel) ?_
        refine fx_gp 1186 148 1 1194 47 (by decide +kernel) ?_
        refine fx_ci (2) 48 (by decide +kernel) ?_
        refine fx_la 0 49 (v := 1186) (by decide +kernel) rfl (by decide +kernel) ?_
        refine fx_gi 1186 148 10 52 (by decide +kernel) ?_
        try simp only [fu_app, fcy_app, Nat.reduceEqDiff, and_true, and_false, false_and, true_and, if_true, if_false, ite_true, ite_false, reduceIte, Int.reduceToNat, fx_simp0]
        have hend : g1 148 10 = E := by rw [y1 _ _ (by decide)]; exact be
        rw [hend]
        refine fx_as 1194 149 764 53 (by decide +kernel) rfl (by omega) (by omega) rfl (by unfold fR; omega) ?_
        refine fx_ci (0) 54 (by decide +kernel) ?_
        refine fx_si 2 55 (by decide +kernel) (Or.inr (fI_n4 _)) rfl ?_
        dsimp only [List.set]
        have eN : E = ((E.toNat : Nat) : Int) := by omega
        refine sp_mlawB_1 (N := E.toNat) (by rw [fu_nc (by decide), fu_nc (by decide), fu_nj (by decide), hend]; exact eN) (by omega) (fun g2 z1 z2 => ?_) E.toNat 0 _ (by omega) (fun _ _ _ => rfl) (fun j hj => absurd hj (Nat.not_lt_zero _))
        have gz : ∀ c j, ¬ (c = 149 ∧ (j = 1 ∨ j = 2 ∨ 364 ≤ j)) → ¬ (c = 148 ∧ (j = 0 ∨ (8 ≤ j ∧ j ≤ 13) ∨ j = 17 ∨ j = 18 ∨ j = 19)) → g2 c j = g c j := fun c j a b => by
          rw [z1 c j (by omega), fu_ne (by omega), fu_ne (by omega), fu_ne (by omega), y1 c j (by omega), bx c j (by omega)]
        refine fx_la 0 86 (v := 1186) (by decide +kernel) rfl (by decide +kernel) ?_
        refine fx_ci (0) 87 (by decide +kernel) ?_
        refine fx_pi 1186 148 6 90 (by decide +kernel) (by unfold fR; omega) ?_
        refine fx_li 1 91 (by decide +kernel) rfl ?_
        refine fx_ret (by decide +kernel) ?_
        refine k2 segs p _ (fun c j a b => ?_) ?_ ?_ ?_ (fu_eq _ _ _ _) ?_ ?_ (fun j hj => ?_) (fun j hj => ?_) sl
        · rw [fu_ne (fun t => a ⟨t.1, Or.inr (Or.inl t.2)⟩)]
          by_cases th : c = 148 ∧ j = 0
          · exact absurd ⟨th.1, Or.inl th.2⟩ a
          · exact gz c j b (fun t => a ⟨t.1, by omega⟩)
        · rw [fu_nj (by decide), z1 _ _ (by omega), fu_nc (by decide), fu_nc (by decide), fu_nj (by decide), y1 _ _ (by decide)]; exact bt
        · rw [fu_nj (by decide), z1 _ _ (by omega), fu_nc (by decide), fu_nc (by decide), fu_eq]
        · rw [fu_nj (by decide), z1 _ _ (by omega), fu_nc (by decide), fu_nc (by decide), fu_nj (by decide)]; exact f1
        · rw [fu_nc (by decide), z1 _ _ (by omega), fu_nj (by decide), fu_eq]
        · rw [fu_nc (by decide), z1 _ _ (by omega)]; exact fu_eq _ _ _ _
        · rw [fu_nc (by decide), z2 j (by omega), fu_nc (by decide), fu_nc (by decide), fu_nc (by decide), y1 _ _ (fun t => absurd t.1 (by decide)), bx _ _ (fun t => absurd t.1 (by decide))]
          exact (hT j (by omega) (by omega)).1
        · rw [fu_nc (by decide), z1 _ _ (by omega), fu_nj (by omega), fu_nj (by omega), fu_nc (by decide), y1 _ _ (fun t => absurd t.1 (by decide)), bx _ _ (fun t => absurd t.1 (by decide))]
      · refine fx_ci (0) 35 (by decide +kernel) ?_
        refine fx_ret (by decide +kernel) ?_
        exfalso; omega
    · exfalso; omega
  · refine fx_si 1 10 (by decide +kernel) (Or.inr (f_n4p (v := 1186) rfl (by decide))) rfl ?_
    dsimp only [List.set]
    refine fx_la 0 11 (v := 1186) (by decide +kernel) rfl (by decide +kernel) ?_
    refine fx_la 0 12 (v := 1186) (by decide +kernel) rfl (by decide +kernel) ?_
    refine fx_gi 1186 148 12 15 (by decide +kernel) ?_
    try simp only [fu_app, fcy_app, Nat.reduceEqDiff, and_true, and_false, false_and, true_and, if_true, if_false, ite_true, ite_false, reduceIte, Int.reduceToNat, fx_simp0]
    refine fx_rg (fun hg => ?_)
    have rf := hg 148 12 (by decide) (by decide +kernel) (by decide +kernel)
    unfold fR at rf
    refine fx_cn (-1) 16 (by decide +kernel) (fun v15 c15 => ?_)
    refine fx_ieq 23 19 (by decide +kernel) (by unfold fR; omega) (by unfold fR; omega) (fun h16 => ?_) (fun h16 => ?_)
    · exfalso; omega
    · refine fx_ci (1) 20 (by decide +kernel) ?_
      refine fx_go 24 (by decide +kernel) ?_
      refine fx_pi 1186 148 0 27 (by decide +kernel) (by unfold fR; omega) ?_
      refine fx_la 0 28 (v := 1186) (by decide +kernel) rfl (by decide +kernel) ?_
      refine fx_gi 1186 148 0 31 (by decide +kernel) ?_
      try simp only [fu_app, fcy_app, Nat.reduceEqDiff, and_true, and_false, false_and, true_and, if_true, if_false, ite_true, ite_false, reduceIte, Int.reduceToNat, fx_simp0]
      refine fx_zle 36 34 (by decide +kernel) (by unfold fR; omega) (fun h31 => ?_) (fun h31 => ?_)
      · exfalso; omega
      · refine fx_ci (0) 35 (by decide +kernel) ?_
        refine fx_ret (by decide +kernel) ?_
        refine k1 q p _ (fun c j a => ?_) ?_ (fu_eq _ _ _ _) ?_
        · rw [fu_ne (by omega), x1 c j (by omega), bx c j (by omega)]
        · rw [fu_nj (by decide), x1 _ _ (by decide)]; exact bt
        · rw [fu_nj (by decide)]; exact f1
end IC0
end
section
/-! fx: the law on both sides -/
/-- the lines of the law at the cell b: kinds, numbers, steps -/
def LwC (b : Nat) (g : Nat → Nat → Int) (segs : List (List Int × Int × Int)) : Prop := ∀ i : Nat, i < segs.length → g (b + 1) i = (segs.getD i ([], 0, 0)).2.1 ∧ g (b + 2) i = (segs.getD i ([], 0, 0)).2.2 ∧ ∃ f0 : Nat, g (b + 3) i = (f0 : Int) ∧ g (b + 4) i = ((f0 + (segs.getD i ([], 0, 0)).1.length : Nat) : Int) ∧ f0 + (segs.getD i ([], 0, 0)).1.length ≤ 400 ∧ ∀ k : Nat, k < (segs.getD i ([], 0, 0)).1.length → g (b + 5) (f0 + k) = (segs.getD i ([], 0, 0)).1.getD k 0
/-- the law's text in a row -/
def tTx (t : Nat → Int) : Int → Int := fun k => t (364 + k.toNat)
/-- the law at the cell b is that of the row t -/
def RLw (b : Nat) (g : Nat → Nat → Int) (t : Nat → Int) : Prop := (∀ k : Nat, k < 400 → 0 ≤ t (364 + k) ∧ t (364 + k) ≤ 255) ∧ (0 ≤ t 2 ∧ t 2 ≤ 400) ∧ ((t 1 = -1 ∧ g b 7 = -1) ∨ ∃ segs, pLawR (tTx t) (t 2) = Sum.inr segs ∧ t 1 = (segs.length : Int) ∧ g b 7 = (segs.length : Int) ∧ segs.length ≤ 12 ∧ LwC b g segs)
theorem lawR_0 (T : Int → Int) : pLawR T 0 = Sum.inr [] := by
  unfold pLawR
  rw [if_pos (show pSk T 0 0 = 0 from prun_stop (Int.le_refl 0))]
/-- texts that are the same where they are read -/
theorem lawR_n {T T' : Int → Int} {E : Int} (hE : 0 ≤ E) (h : ∀ k : Nat, (k : Int) < E → T k = T' k) (h0 : ∀ k : Int, k < 0 → T k = T 0) (h1 : ∀ k : Int, k < 0 → T' k = T' 0) : pLawR T E = pLawR T' E := by
  by_cases e : E = 0
  · subst e
    rw [lawR_0, lawR_0]
  · refine lawR_x (fun k hk => ?_) hE
    by_cases n : k < 0
    · rw [h0 k n, h1 k n]
      exact h 0 (by omega)
    · have := h k.toNat (by omega)
      rw [show ((k.toNat : Nat) : Int) = k by omega] at this
      exact this
theorem tTx_0 (t : Nat → Int) (k : Int) (h : k < 0) : tTx t k = tTx t 0 := by
  unfold tTx
  rw [show k.toNat = 0 by omega]
  rfl
theorem RLw_eq {b b' : Nat} {g g' : Nat → Nat → Int} {t t' : Nat → Int} (h : RLw b g t) (e7 : g' b' 7 = g b 7) (e : ∀ i j, 1 ≤ i → i ≤ 5 → g' (b' + i) j = g (b + i) j) (et : ∀ k, k = 1 ∨ k = 2 ∨ (364 ≤ k ∧ k < 764) → t' k = t k) : RLw b' g' t' := by
  obtain ⟨h1, h2, h3⟩ := h
  have e1 := et 1 (Or.inl rfl)
  have e2 := et 2 (Or.inr (Or.inl rfl))
  refine ⟨fun k hk => by rw [et _ (by omega)]; exact h1 k hk, by rw [e2]; exact h2, ?_⟩
  rw [e1, e2, e7]
  rcases h3 with h3 | ⟨segs, a1, a2, a3, a4, a5⟩
  · exact Or.inl h3
  · refine Or.inr ⟨segs, ?_, a2, a3, a4, fun i hi => ?_⟩
    · rw [← a1]
      refine lawR_n h2.1 (fun k hk => ?_) (tTx_0 _) (tTx_0 _)
      unfold tTx
      exact et _ (by omega)
    · obtain ⟨b1, b2, f0, b3, b4, b5, b6⟩ := a5 i hi
      refine ⟨by rw [e _ _ (by decide) (by decide)]; exact b1, by rw [e _ _ (by decide) (by decide)]; exact b2, f0, by rw [e _ _ (by decide) (by decide)]; exact b3, by rw [e _ _ (by decide) (by decide)]; exact b4, b5, fun k hk => by rw [e _ _ (by decide) (by decide)]; exact b6 k hk⟩
section IC
variable {T : Int → Int} {E : Int}
theorem getD_l {c d : List Int} {k : Nat} (h : k < d.length) : (c ++ d).getD (c.length + k) 0 = d.getD k 0 := by
  rw [List.getD_eq_getElem?_getD, List.getD_eq_getElem?_getD, List.getElem?_append_right (by omega), show c.length + k - c.length = k by omega]
theorem getD_f {c d : List Int} {k : Nat} (h : k < c.length) : (c ++ d).getD k 0 = c.getD k 0 := by
  rw [List.getD_eq_getElem?_getD, List.getD_eq_getElem?_getD, List.getElem?_append_left h]
/-- what the class writes of the lines, beside what the reference reads of them -/
theorem pLs_sg2 : ∀ (n : Nat) (f : Int) (c : List Int) (ls : List (List Int)) (segs : List (List Int × Int × Int)), pSeg T E n f = Sum.inr segs → ∃ c2 l2, pLs T E n f c ls = Sum.inr (c ++ c2, ls ++ l2) ∧ l2.length = segs.length ∧ ∀ i : Nat, i < segs.length → ∃ f0 : Nat, l2.getD i [] = [(segs.getD i ([], 0, 0)).2.1, (segs.getD i ([], 0, 0)).2.2, (f0 : Int), ((f0 + (segs.getD i ([], 0, 0)).1.length : Nat) : Int)] ∧ f0 + (segs.getD i ([], 0, 0)).1.length ≤ (c ++ c2).length ∧ ∀ k : Nat, k < (segs.getD i ([], 0, 0)).1.length → (c ++ c2).getD (f0 + k) 0 = (segs.getD i ([], 0, 0)).1.getD k 0
  | 0, f, c, ls, segs, h => by
    have h : (Sum.inl f : Int ⊕ List (List Int × Int × Int)) = Sum.inr segs := h
    cases h
  | n + 1, f, c, ls, segs, hs => by
    cases h : pLL T E f [] with
    | inl q0 =>
      have hs : bS (pLL T E f []) _ = Sum.inr segs := hs
      rw [h, bS_l] at hs
      cases hs
    | inr a =>
      obtain ⟨f1, d, kd, am⟩ := a
      have e1 : pLL T E f c = Sum.inr (f1, c ++ d, kd, am) := by rw [pLL_sh, h, bS_r]
      have eS : pSeg T E (n + 1) f = if f1 = E then Sum.inr [(d, kd, am)] else if T f1 = 59 then bS (pSeg T E n (pSk T E (f1 + 1))) (fun r => Sum.inr ((d, kd, am) :: r)) else Sum.inl f1 := by
        show bS (pLL T E f []) _ = _
        rw [h, bS_r]
      have eL : pLs T E (n + 1) f c ls = if f1 = E then Sum.inr (c ++ d, ls ++ [[kd, am, (c.length : Int), ((c ++ d).length : Int)]]) else if T f1 = 59 then pLs T E n (pSk T E (f1 + 1)) (c ++ d) (ls ++ [[kd, am, (c.length : Int), ((c ++ d).length : Int)]]) else Sum.inl f1 := by
        show bS (pLL T E f c) _ = _
        rw [e1, bS_r]
      rw [eS] at hs
      rw [eL]
      by_cases x1 : f1 = E
      · rw [if_pos x1] at hs ⊢
        cases hs
        refine ⟨d, _, rfl, rfl, fun i hi => ?_⟩
        have i0 : i = 0 := by
          have hi : i < 1 := hi
          omega
        subst i0
        refine ⟨c.length, ?_, ?_, fun k hk => getD_l hk⟩
        · show [kd, am, (c.length : Int), ((c ++ d).length : Int)] = [kd, am, (c.length : Int), ((c.length + d.length : Nat) : Int)]
          rw [List.length_append]
        · show c.length + d.length ≤ (c ++ d).length
          rw [List.length_append]
          omega
      · rw [if_neg x1] at hs ⊢
        by_cases x2 : T f1 = 59
        · rw [if_pos x2] at hs ⊢
          obtain ⟨r2, h2, h3⟩ := bS_inr hs
          cases h3
          obtain ⟨c2, l2, h4, h5, h6⟩ := pLs_sg2 n (pSk T E (f1 + 1)) (c ++ d) (ls ++ [[kd, am, (c.length : Int), ((c ++ d).length : Int)]]) r2 h2
          refine ⟨d ++ c2, [kd, am, (c.length : Int), ((c ++ d).length : Int)] :: l2, ?_, by rw [List.length_cons, List.length_cons, h5], fun i hi => ?_⟩
          · rw [h4, List.append_assoc, List.append_assoc]
            rfl
          · rw [← List.append_assoc]
            cases i with
            | zero =>
              refine ⟨c.length, ?_, ?_, fun k hk => ?_⟩
              · show [kd, am, (c.length : Int), ((c ++ d).length : Int)] = [kd, am, (c.length : Int), ((c.length + d.length : Nat) : Int)]
                rw [List.length_append]
              · show c.length + d.length ≤ (c ++ d ++ c2).length
                rw [List.length_append, List.length_append]
                omega
              · have hk : k < d.length := hk
                rw [getD_f (by rw [List.length_append]; omega)]
                exact getD_l hk
            | succ i =>
              have hi : i + 1 < r2.length + 1 := hi
              exact h6 i (by omega)
        · rw [if_neg x2] at hs
          cases hs
theorem pLaw_sg2 {segs : List (List Int × Int × Int)} {c1 : List Int} {l1 : List (List Int)} (h : pLawR T E = Sum.inr segs) (h2 : pLaw T E = Sum.inr (c1, l1)) : l1.length = segs.length ∧ ∀ i : Nat, i < segs.length → ∃ f0 : Nat, l1.getD i [] = [(segs.getD i ([], 0, 0)).2.1, (segs.getD i ([], 0, 0)).2.2, (f0 : Int), ((f0 + (segs.getD i ([], 0, 0)).1.length : Nat) : Int)] ∧ f0 + (segs.getD i ([], 0, 0)).1.length ≤ c1.length ∧ ∀ k : Nat, k < (segs.getD i ([], 0, 0)).1.length → c1.getD (f0 + k) 0 = (segs.getD i ([], 0, 0)).1.getD k 0 := by
  unfold pLawR at h
  unfold pLaw at h2
  by_cases e : pSk T E 0 = E
  · rw [if_pos e] at h h2
    cases h
    cases h2
    exact ⟨rfl, fun i hi => absurd hi (Nat.not_lt_zero _)⟩
  · rw [if_neg e] at h h2
    obtain ⟨c2, l2, h4, h5, h6⟩ := pLs_sg2 12 _ [] [] segs h
    rw [h4] at h2
    cases h2
    exact ⟨h5, h6⟩
/-- the class's law behind a right text -/
theorem LwC_law {g0 g1 g' : Nat → Nat → Int} {f1 z : Int} {c1 : List Int} {l1 : List (List Int)} {segs : List (List Int × Int × Int)} (hE1 : E ≤ 400) (h : pLawR T E = Sum.inr segs) (h2 : pLaw T E = Sum.inr (c1, l1)) (hw : lwT T E g0 g1 f1 c1 l1) (hc : (c1.length : Int) ≤ E) (e : g' = fu (cpLw (fu g1 0 18 z) 35 8) 0 16 0) : LwC 8 g' segs ∧ g' 8 7 = (segs.length : Int) := by
  obtain ⟨q1, q2⟩ := pLaw_sg2 h h2
  obtain ⟨⟨-, -, s3, -⟩, ⟨l0, l4⟩, -⟩ := hw
  have cp : ∀ i j, 1 ≤ i → i ≤ 5 → g' (8 + i) j = g1 (35 + i) j := fun i j i1 i2 => by
    rw [e, fu_nc (by omega)]
    unfold cpLw
    rw [fu_nc (by omega), fu_nc (by omega)]
    rcases (by omega : i = 1 ∨ i = 2 ∨ i = 3 ∨ i = 4 ∨ i = 5) with rfl | rfl | rfl | rfl | rfl
    · rw [fcy_app, if_neg (by decide), fcy_app, if_neg (by decide), fcy_app, if_neg (by decide), fcy_app, if_neg (by decide), fcy_app, if_pos rfl, fu_nc (by decide)]
    · rw [fcy_app, if_neg (by decide), fcy_app, if_neg (by decide), fcy_app, if_neg (by decide), fcy_app, if_pos rfl, fcy_app, if_neg (by decide), fu_nc (by decide)]
    · rw [fcy_app, if_neg (by decide), fcy_app, if_neg (by decide), fcy_app, if_pos rfl, fcy_app, if_neg (by decide), fcy_app, if_neg (by decide), fu_nc (by decide)]
    · rw [fcy_app, if_neg (by decide), fcy_app, if_pos rfl, fcy_app, if_neg (by decide), fcy_app, if_neg (by decide), fcy_app, if_neg (by decide), fu_nc (by decide)]
    · rw [fcy_app, if_pos rfl, fcy_app, if_neg (by decide), fcy_app, if_neg (by decide), fcy_app, if_neg (by decide), fcy_app, if_neg (by decide), fu_nc (by decide)]
  have e7 : g' 8 7 = g1 35 7 := by
    rw [e, fu_nc (by decide)]
    unfold cpLw
    rw [fu_nj (by decide), fu_eq, fu_nc (by decide)]
  refine ⟨fun i hi => ?_, by rw [e7, l0, q1]⟩
  obtain ⟨f0, p1, p2, p3⟩ := q2 i hi
  obtain ⟨m1, m2, m3, m4⟩ := l4 i (by omega)
  rw [p1] at m1 m2 m3 m4
  refine ⟨by rw [cp 1 i (by decide) (by decide)]; exact m1, by rw [cp 2 i (by decide) (by decide)]; exact m2, f0, by rw [cp 3 i (by decide) (by decide)]; exact m3, by rw [cp 4 i (by decide) (by decide)]; exact m4, by omega, fun k hk => ?_⟩
  rw [cp 5 _ (by decide) (by decide), ← p3 k hk]
  exact s3 _ (by omega)
end IC
/-- a right text of the law keeps both sides' laws alike -/
theorem RLw_law {T : Int → Int} {E z f1 : Int} {g g0 g1 g2 g3 : Nat → Nat → Int} {c1 : List Int} {l1 : List (List Int)} {segs : List (List Int × Int × Int)} (h : RLw 8 g (g 149)) (hT : ∀ k : Int, 0 ≤ k → k < 400 → 0 ≤ T k ∧ T k ≤ 255) (hn : ∀ k : Int, k < 0 → T k = T 0) (hE0 : 0 ≤ E) (hE1 : E ≤ 400) (hr : pLawR T E = Sum.inr segs) (h2 : pLaw T E = Sum.inr (c1, l1)) (hw : lwT T E g0 g1 f1 c1 l1) (hc : (c1.length : Int) ≤ E) (e : g2 = fu (cpLw (fu g1 0 18 z) 35 8) 0 16 0)
    (m1 : g3 149 1 = (segs.length : Int)) (m2 : g3 149 2 = E) (m3 : ∀ j : Nat, (j : Int) < E → g3 149 (364 + j) = T j) (m4 : ∀ j : Nat, E ≤ (j : Int) → g3 149 (364 + j) = g 149 (364 + j)) (s12 : segs.length ≤ 12) (x7 : g3 8 7 = g2 8 7) (xi : ∀ i j, 1 ≤ i → i ≤ 5 → g3 (8 + i) j = g2 (8 + i) j) : RLw 8 g3 (g3 149) := by
  obtain ⟨q1, q2⟩ := LwC_law hE1 hr h2 hw hc e
  refine ⟨fun k hk => ?_, by rw [m2]; exact ⟨hE0, hE1⟩, Or.inr ⟨segs, ?_, m1, by rw [x7]; exact q2, s12, fun i hi => ?_⟩⟩
  · by_cases c : (k : Int) < E
    · rw [m3 k c]; exact hT k (by omega) (by omega)
    · rw [m4 k (by omega)]; exact h.1 k hk
  · rw [m2, ← hr]
    refine lawR_n hE0 (fun k hk => ?_) (tTx_0 _) hn
    unfold tTx
    exact m3 k hk
  · obtain ⟨b1, b2, f0, b3, b4, b5, b6⟩ := q1 i hi
    refine ⟨by rw [xi _ _ (by decide) (by decide)]; exact b1, by rw [xi _ _ (by decide) (by decide)]; exact b2, f0, by rw [xi _ _ (by decide) (by decide)]; exact b3, by rw [xi _ _ (by decide) (by decide)]; exact b4, b5, fun k hk => by rw [xi _ _ (by decide) (by decide)]; exact b6 k hk⟩
end
section
/-! fx: whether a line of the law holds: the class -/
noncomputable def fsw_tg (k n : Nat) : Nat := Option.rec 0 (fun q => sx_tg1 q (2147483648 + n)) (sx_nth sx_tsw k)
section FSW
variable {W : ax_W} {r d mi pc : Nat} {L S : List Nat} {g : Nat → Nat → Int} {Q : Nat → Nat → (Nat → Nat → Int) → Prop}
theorem fx_swk (k : Nat) {n t : Nat} (q : (fq mi pc 37 && (Nat.beq (sx_wa (fw mi pc)) k && Option.rec false (fun _ => true) (sx_nth sx_tsw k))) = true) (hn : n < 2147483648) (ht : fsw_tg k n = t) (kk : fx W r d mi t L S g Q) : fx W r d mi pc L (fI (n : Int) :: S) g Q := by
  subst ht
  obtain ⟨q1, q⟩ := f_and q
  obtain ⟨q2, q3⟩ := f_and q
  obtain ⟨o1, o2⟩ := fq_ok q1
  refine fx_s o2 (fun ih D h cs ss _ => ?_) kk
  have e8 : fI (n : Int) = 8 * n := by unfold fI; omega
  have nm : ∀ K : Nat → sx_R, sx_nm W.sy (fI (n : Int)) K = K (fI (n : Int)) := fun K => by rw [fI_eq, cx_nm]
  have bs : sx_bs (sx_pl (fI (n : Int))) = 2147483648 + n := by
    rw [e8]
    show ((8 * n) / 8 + 2147483648) % 4294967296 = 2147483648 + n
    omega
  rw [cx_b37 o1]
  unfold sx_oSw
  rw [fcp1, show sx_wa (sx_ft (sx_mt mi).1 pc) = k from sx_beq q2]
  unfold fsw_tg
  cases hq : sx_nth sx_tsw k with
  | none => rw [hq] at q3; cases q3
  | some q =>
    show sx_nm W.sy (fI (n : Int)) _ = _
    rw [nm, fI_tg, sx_beq_t rfl, sx_if_t, sx_fo_eq, bs]
end FSW
def fSt (g g' : Nat → Nat → Int) : Prop := ∀ c j, c ≠ 15 → g' c j = g c j
theorem fSt.rf {g : Nat → Nat → Int} : fSt g g := fun _ _ _ => rfl
theorem fSt.fu {g g' : Nat → Nat → Int} {j : Nat} {z : Int} (h : fSt g g') : fSt g (fu g' 15 j z) := fun c j' hc => by rw [fu_nc hc]; exact h c j' hc
theorem fSt.tr {g g1 g2 : Nat → Nat → Int} (h : fSt g g1) (h2 : fSt g1 g2) : fSt g g2 := fun c j hc => by rw [h2 c j hc, h c j hc]
/-- the stack as the class has it -/
def stC (g : Nat → Nat → Int) (st : List Int) : Prop := ∀ k : Nat, k < st.length → g 15 k = st.getD (st.length - 1 - k) 0
theorem stC_tl {g : Nat → Nat → Int} {b : Int} {t : List Int} (h : stC g (b :: t)) : stC g t := fun k hk => by
  have := h k (by rw [List.length_cons]; omega)
  rw [List.length_cons, show t.length + 1 - 1 - k = (t.length - 1 - k) + 1 by omega] at this
  exact this
theorem stC_hd {g : Nat → Nat → Int} {b : Int} {t : List Int} (h : stC g (b :: t)) : g 15 t.length = b := by
  have := h t.length (by rw [List.length_cons]; omega)
  rw [List.length_cons, show t.length + 1 - 1 - t.length = 0 by omega] at this
  exact this
theorem stC_pu {g : Nat → Nat → Int} {v : Int} {t : List Int} (h : stC g t) : stC (fu g 15 t.length v) (v :: t) := fun k hk => by
  rw [List.length_cons] at hk ⊢
  by_cases e : k = t.length
  · subst e
    rw [fu_eq, show t.length + 1 - 1 - t.length = 0 by omega]
    rfl
  · rw [fu_nj e, show t.length + 1 - 1 - k = (t.length - 1 - k) + 1 by omega]
    exact h k (by omega)
/-- the facts that the class was told -/
def fC (g : Nat → Nat → Int) (k : Nat) : Int := g 14 (min k 8)
section FID
variable {W : ax_W} {r : Nat} {g : Nat → Nat → Int} {Q : Nat → Nat → (Nat → Nat → Int) → Prop}
theorem sp_ljoined {s a b : Int} (hs : 2000 ≤ s) (hs1 : s ≤ 2005) (hs3 : s ≠ 2003) (ha : fR a) (hb : fR b) (kq : Q 1 (fI (jnS s a b)) g) : fx W r 0 131 0 [fI s, fI a, fI b] [] g Q := by
  unfold jnS at kq
  rcases (by omega : s = 2000 ∨ s = 2001 ∨ s = 2002 ∨ s = 2004 ∨ s = 2005) with rfl | rfl | rfl | rfl | rfl
  · rw [if_pos rfl, fI_add] at kq
    refine fx_li 0 1 (by decide +kernel) rfl ?_
    refine fx_swk 3 (n := 2000) (t := 36) (by decide +kernel) (by decide) (by decide +kernel) ?_
    refine fx_li 1 37 (by decide +kernel) rfl ?_
    refine fx_li 2 38 (by decide +kernel) rfl ?_
    refine fx_add 39 (by decide +kernel) rfl ?_
    refine fx_ret (by decide +kernel) ?_
    exact kq
  · rw [if_neg (by decide), if_pos rfl] at kq
    refine fx_li 0 1 (by decide +kernel) rfl ?_
    refine fx_swk 3 (n := 2001) (t := 40) (by decide +kernel) (by decide) (by decide +kernel) ?_
    unfold fR at ha hb
    refine fx_li 1 41 (by decide +kernel) rfl ?_
    refine fx_li 2 42 (by decide +kernel) rfl ?_
    refine fx_ige 49 45 (by decide +kernel) (by unfold fR; omega) (by unfold fR; omega) (fun h42 => ?_) (fun h42 => ?_)
    · refine fx_ci (0) 50 (by decide +kernel) ?_
      refine fx_ret (by decide +kernel) ?_
      rw [if_neg (by omega)] at kq
      exact kq
    · refine fx_ci (1) 46 (by decide +kernel) ?_
      refine fx_go 50 (by decide +kernel) ?_
      refine fx_ret (by decide +kernel) ?_
      rw [if_pos (by omega)] at kq
      exact kq
  · rw [if_neg (by decide), if_neg (by decide), if_pos rfl] at kq
    refine fx_li 0 1 (by decide +kernel) rfl ?_
    refine fx_swk 3 (n := 2002) (t := 51) (by decide +kernel) (by decide) (by decide +kernel) ?_
    unfold fR at ha hb
    refine fx_li 1 52 (by decide +kernel) rfl ?_
    refine fx_li 2 53 (by decide +kernel) rfl ?_
    refine fx_ile 60 56 (by decide +kernel) (by unfold fR; omega) (by unfold fR; omega) (fun h53 => ?_) (fun h53 => ?_)
    · refine fx_ci (0) 61 (by decide +kernel) ?_
      refine fx_ret (by decide +kernel) ?_
      rw [if_neg (by omega)] at kq
      exact kq
    · refine fx_ci (1) 57 (by decide +kernel) ?_
      refine fx_go 61 (by decide +kernel) ?_
      refine fx_ret (by decide +kernel) ?_
      rw [if_pos (by omega)] at kq
      exact kq
  · rw [if_neg (by decide), if_neg (by decide), if_neg (by decide), if_pos rfl] at kq
    refine fx_li 0 1 (by decide +kernel) rfl ?_
    refine fx_swk 3 (n := 2004) (t := 62) (by decide +kernel) (by decide) (by decide +kernel) ?_
    refine fx_li 1 63 (by decide +kernel) rfl ?_
    refine fx_li 2 64 (by decide +kernel) rfl ?_
    refine fx_bin 3 65 (by decide +kernel) rfl (fun h => absurd h (by decide)) ?_
    refine fx_ret (by decide +kernel) ?_
    exact kq
  · rw [if_neg (by decide), if_neg (by decide), if_neg (by decide), if_neg (by decide)] at kq
    refine fx_li 0 1 (by decide +kernel) rfl ?_
    refine fx_swk 3 (n := 2005) (t := 66) (by decide +kernel) (by decide) (by decide +kernel) ?_
    refine fx_li 1 67 (by decide +kernel) rfl ?_
    refine fx_li 2 68 (by decide +kernel) rfl ?_
    refine fx_bin 4 69 (by decide +kernel) rfl (fun h => absurd h (by decide)) ?_
    refine fx_ret (by decide +kernel) ?_
    exact kq
theorem jnS_R (s a b : Int) : fR (jnS s a b) := by
  unfold jnS
  split
  · exact fop_R _ _ _
  split
  · split <;> (unfold fR; omega)
  split
  · split <;> (unfold fR; omega)
  split
  · exact fop_R _ _ _
  · exact fop_R _ _ _
theorem sp_lholds_1 {i f0 : Nat} {d : List Int} (hi : i < 12) (hb : g 12 i = ((f0 + d.length : Nat) : Int)) (h400 : f0 + d.length ≤ 400) (hOK : LnOK (fC g) d) (kq : ∀ g', fSt g g' → Q 1 (fI (if lnV (fC g) d = 0 then 0 else 1)) g') : ∀ (w : List Int) (n : Nat) (st : List Int) (g' : Nat → Nat → Int) (x4 : Nat), x4 % 8 ≠ 4 → fSt g g' → stC g' st → st.length ≤ 24 → rnS (fC g) w st → ruS (fC g) w st = evS (fC g) d → f0 + d.length = n + w.length → (∀ k : Nat, k < w.length → g 13 (n + k) = w.getD k 0) → fx W r 1 130 9 [66, fI (i : Int), fI (st.length : Int), fI (n : Int), x4] [] g' Q
  | w, n, st, g', x4, h4, hx, hst, h24, hr, he, hn, hc => by
    refine fx_rg (fun hg => ?_)
    have l4 : ∀ v, v % 8 ≠ 4 → v % 8 ≠ 4 := fun _ h => h
    refine fx_li 3 10 (by decide +kernel) rfl ?_
    refine fx_la 0 11 (v := 66) (by decide +kernel) rfl (by decide +kernel) ?_
    refine fx_gp 66 8 3 98 14 (by decide +kernel) ?_
    refine fx_li 1 15 (by decide +kernel) rfl ?_
    refine fx_al 98 12 12 16 (by decide +kernel) rfl (by omega) (by omega) rfl ?_
    rw [show ((i : Int)).toNat = i from rfl, hx _ _ (by decide), hb]
    refine fx_ige 151 19 (by decide +kernel) (by unfold fR; omega) (by unfold fR; omega) (fun h16 => ?_) (fun h16 => ?_)
    · have w0 : w.length = 0 := by omega
      have w1 : w = [] := List.length_eq_zero_iff.mp w0
      subst w1
      rw [ruS_0] at he
      refine fx_li 2 152 (by decide +kernel) rfl ?_
      refine fx_zeq 164 155 (by decide +kernel) (by unfold fR; omega) (fun h152 => ?_) (fun h152 => ?_)
      · have s0 : st.length = 0 := by omega
        have s1 : st = [] := List.length_eq_zero_iff.mp s0
        refine fx_ci (1) 165 (by decide +kernel) ?_
        refine fx_go 169 (by decide +kernel) ?_
        refine fx_retb (by decide +kernel) (by first | exact Or.inl rfl | exact Or.inr rfl | omega) ?_
        subst s1
        have kq := kq g' hx
        have e : lnV (fC g) d = 1 := by
          rcases hOK with e | ⟨-, v, v1, v2⟩
          · unfold lnV
            rw [if_pos e]
          · rw [v2] at he
            cases he
        rw [e] at kq
        exact kq
      · have s0 : ¬ st.length = 0 := fun t => by omega
        refine fx_la 0 156 (v := 66) (by decide +kernel) rfl (by decide +kernel) ?_
        refine fx_gp 66 8 6 122 159 (by decide +kernel) ?_
        refine fx_ci (0) 160 (by decide +kernel) ?_
        refine fx_al 122 15 24 161 (by decide +kernel) rfl (by omega) (by omega) rfl ?_
        try simp only [fu_app, fcy_app, Nat.reduceEqDiff, and_true, and_false, false_and, true_and, if_true, if_false, ite_true, ite_false, reduceIte, Int.reduceToNat, fx_simp0]
        have key : ∃ v, (v = 0 ∨ v = 1) ∧ g' 15 0 = v ∧ lnV (fC g) d = v := by
          rcases hOK with e | ⟨-, v, v1, v2⟩
          · subst e
            have e2 : st = [] := he
            subst e2
            exact absurd rfl s0
          · rw [v2] at he
            subst he
            refine ⟨v, v1, stC_hd hst, ?_⟩
            unfold lnV
            by_cases e : d = []
            · subst e
              have e2 : ([] : List Int) = [v] := v2
              cases e2
            · rw [if_neg e, v2]
              rfl
        obtain ⟨v, v1, v2, v3⟩ := key
        rw [v2]
        have kq := kq g' hx
        rw [v3] at kq
        refine fx_zeq 168 164 (by decide +kernel) (by unfold fR; omega) (fun h161 => ?_) (fun h161 => ?_)
        · refine fx_ci (0) 169 (by decide +kernel) ?_
          refine fx_retb (by decide +kernel) (by first | exact Or.inl rfl | exact Or.inr rfl | omega) ?_
          rw [if_pos h161] at kq
          exact kq
        · refine fx_ci (1) 165 (by decide +kernel) ?_
          refine fx_go 169 (by decide +kernel) ?_
          refine fx_retb (by decide +kernel) (by first | exact Or.inl rfl | exact Or.inr rfl | omega) ?_
          rw [if_neg h161] at kq
          exact kq
    · have w0 : ¬ w = [] := fun t => by
        subst t
        have hn : f0 + d.length = n + 0 := hn
        omega
      obtain ⟨s, w', rfl⟩ : ∃ s w', w = s :: w' := List.exists_cons_of_ne_nil w0
      have hs0 : g 13 n = s := hc 0 (by rw [List.length_cons]; omega)
      have hn : f0 + d.length = n + (w'.length + 1) := hn
      have hc' : ∀ k : Nat, k < w'.length → g 13 ((n + 1) + k) = w'.getD k 0 := fun k hk => by
        rw [show n + 1 + k = n + (k + 1) by omega]
        exact hc (k + 1) (by rw [List.length_cons]; omega)
      rw [rnS_1] at hr
      obtain ⟨hr1, hr2⟩ := hr
      rw [ruS_1] at he
      have sb : 0 ≤ s ∧ s ≤ 2005 := by
        split at hr1
        · omega
        · split at hr1
          · omega
          · omega
      refine fx_la 0 20 (v := 66) (by decide +kernel) rfl (by decide +kernel) ?_
      refine fx_gp 66 8 4 106 23 (by decide +kernel) ?_
      refine fx_li 3 24 (by decide +kernel) rfl ?_
      refine fx_al 106 13 400 25 (by decide +kernel) rfl (by omega) (by omega) rfl ?_
      rw [show ((n : Int)).toNat = n from rfl, hx _ _ (by decide), hs0]
      refine fx_si 4 27 (by decide +kernel) (Or.inr (fI_n4 _)) rfl ?_
      dsimp only [List.set]
      refine fx_li 4 29 (by decide +kernel) rfl ?_
      refine fx_ci (2000) 32 (by decide +kernel) ?_
      refine fx_ige 77 35 (by decide +kernel) (by unfold fR; omega) (by unfold fR; omega) (fun h32 => ?_) (fun h32 => ?_)
      · rw [if_neg (by omega)] at hr1
        refine fx_li 4 79 (by decide +kernel) rfl ?_
        refine fx_ci (2003) 82 (by decide +kernel) ?_
        refine fx_ine 110 85 (by decide +kernel) (by unfold fR; omega) (by unfold fR; omega) (fun h82 => ?_) (fun h82 => ?_)
        · have s3 : s ≠ 2003 := by omega
          rw [if_neg s3] at hr1
          obtain ⟨b, t', et⟩ : ∃ b t', st = b :: t' := List.exists_cons_of_ne_nil (fun t => by rw [t] at hr1; exact absurd hr1.2 (by decide))
          subst et
          obtain ⟨a, t, et⟩ : ∃ a t, t' = a :: t := List.exists_cons_of_ne_nil (fun t => by rw [t] at hr1; exact absurd hr1.2 (show ¬ 2 ≤ 1 by decide))
          subst et
          rw [stp_jn _ (by omega) s3] at hr2 he
          have lc : (b :: a :: t).length = t.length + 2 := rfl
          have hd := stC_hd hst
          have hd2 := stC_hd (stC_tl hst)
          have ra := hgA hg 24 (c := 15) (j := t.length) (by decide +kernel) (by omega)
          have rb := hgA hg 24 (c := 15) (j := (a :: t).length) (by decide +kernel) (by show t.length + 1 < 24; omega)
          rw [hd2] at ra
          rw [hd] at rb
          refine fx_li 2 111 (by decide +kernel) rfl ?_
          refine fx_ci (1) 112 (by decide +kernel) ?_
          refine fx_ile 145 115 (by decide +kernel) (by unfold fR; omega) (by unfold fR; omega) (fun h112 => ?_) (fun h112 => ?_)
          · exfalso; omega
          · refine fx_inc 2 118 (-1) (by decide +kernel) rfl (Or.inr (fI_n4 _)) rfl ?_
            dsimp only [List.set]
            refine fx_la 0 119 (v := 66) (by decide +kernel) rfl (by decide +kernel) ?_
            refine fx_gp 66 8 6 122 122 (by decide +kernel) ?_
            refine fx_li 2 123 (by decide +kernel) rfl ?_
            refine fx_ci (1) 124 (by decide +kernel) ?_
            refine fx_sub 125 (by decide +kernel) rfl ?_
            refine fx_li 4 127 (by decide +kernel) rfl ?_
            refine fx_la 0 128 (v := 66) (by decide +kernel) rfl (by decide +kernel) ?_
            refine fx_gp 66 8 6 122 131 (by decide +kernel) ?_
            refine fx_li 2 132 (by decide +kernel) rfl ?_
            refine fx_ci (1) 133 (by decide +kernel) ?_
            refine fx_sub 134 (by decide +kernel) rfl ?_
            refine fx_al 122 15 24 135 (by decide +kernel) rfl (by omega) (by omega) rfl ?_
            rw [show (((b :: a :: t).length : Int) + -1 - 1).toNat = t.length by omega, hd2]
            refine fx_la 0 136 (v := 66) (by decide +kernel) rfl (by decide +kernel) ?_
            refine fx_gp 66 8 6 122 139 (by decide +kernel) ?_
            refine fx_li 2 140 (by decide +kernel) rfl ?_
            refine fx_al 122 15 24 141 (by decide +kernel) rfl (by omega) (by omega) rfl ?_
            rw [show (((b :: a :: t).length : Int) + -1).toNat = (a :: t).length by rw [lc]; show _ = t.length + 1; omega, hd]
            refine fx_c3 131 22 144 0 [] (f_q22 (by decide +kernel)) (by decide) (fI_n4 _) (fI_n4 _) (fI_n4 _) rfl (by first | decide | omega) ?_
            refine sp_ljoined (by omega) (by omega) s3 ra rb (fK1 ?_)
            have rj := jnS_R s a b
            unfold fR at rj
            refine fx_as 122 15 24 145 (by decide +kernel) rfl (by omega) (by omega) rfl (by unfold fR; omega) ?_
            refine fx_inc 3 148 (1) (by decide +kernel) rfl (Or.inr (fI_n4 _)) rfl ?_
            dsimp only [List.set]
            refine fx_go 9 (by decide +kernel) ?_
            rw [show (((b :: a :: t).length : Int) + -1 - 1).toNat = t.length by omega]
            have e : ((b :: a :: t).length : Int) + -1 = ((jnS s a b :: t).length : Int) := by rw [lc]; show _ = ((t.length + 1 : Nat) : Int); omega
            rw [e]
            exact sp_lholds_1 hi hb h400 hOK kq w' (n + 1) (jnS s a b :: t) _ _ (fI_n4 _) hx.fu (stC_pu (stC_tl (stC_tl hst))) (by rw [List.length_cons]; rw [List.length_cons, List.length_cons] at h24; omega) hr2 he (by omega) hc'
        · have s3 : s = 2003 := by omega
          rw [if_pos s3] at hr1
          obtain ⟨b, t, rfl, b01⟩ := hr1
          subst s3
          rw [stp_no] at hr2 he
          have lc : (b :: t).length = t.length + 1 := rfl
          have hd := stC_hd hst
          refine fx_li 2 86 (by decide +kernel) rfl ?_
          refine fx_zle 145 89 (by decide +kernel) (by unfold fR; omega) (fun h86 => ?_) (fun h86 => ?_)
          · exfalso; omega
          · refine fx_la 0 90 (v := 66) (by decide +kernel) rfl (by decide +kernel) ?_
            refine fx_gp 66 8 6 122 93 (by decide +kernel) ?_
            refine fx_li 2 94 (by decide +kernel) rfl ?_
            refine fx_ci (1) 95 (by decide +kernel) ?_
            refine fx_sub 96 (by decide +kernel) rfl ?_
            refine fx_ci (1) 97 (by decide +kernel) ?_
            refine fx_la 0 98 (v := 66) (by decide +kernel) rfl (by decide +kernel) ?_
            refine fx_gp 66 8 6 122 101 (by decide +kernel) ?_
            refine fx_li 2 102 (by decide +kernel) rfl ?_
            refine fx_ci (1) 103 (by decide +kernel) ?_
            refine fx_sub 104 (by decide +kernel) rfl ?_
            refine fx_al 122 15 24 105 (by decide +kernel) rfl (by omega) (by omega) rfl ?_
            rw [show (((b :: t).length : Int) - 1).toNat = t.length by omega, hd]
            refine fx_sub 106 (by decide +kernel) rfl ?_
            refine fx_as 122 15 24 107 (by decide +kernel) rfl (by omega) (by omega) rfl (by unfold fR; omega) ?_
            refine fx_go 145 (by decide +kernel) ?_
            refine fx_inc 3 148 (1) (by decide +kernel) rfl (Or.inr (fI_n4 _)) rfl ?_
            dsimp only [List.set]
            refine fx_go 9 (by decide +kernel) ?_
            rw [show (((b :: t).length : Int) - 1).toNat = t.length by omega]
            exact sp_lholds_1 hi hb h400 hOK kq w' (n + 1) ((1 - b) :: t) _ _ (fI_n4 _) hx.fu (stC_pu (stC_tl hst)) h24 hr2 he (by omega) hc'
      · rw [if_pos (by omega)] at hr1
        rw [stp_lt _ (by omega)] at hr2 he
        refine fx_li 2 36 (by decide +kernel) rfl ?_
        refine fx_ci (24) 38 (by decide +kernel) ?_
        refine fx_ige 145 41 (by decide +kernel) (by unfold fR; omega) (by unfold fR; omega) (fun h38 => ?_) (fun h38 => ?_)
        · exfalso; omega
        · refine fx_la 0 42 (v := 66) (by decide +kernel) rfl (by decide +kernel) ?_
          refine fx_gp 66 8 6 122 45 (by decide +kernel) ?_
          refine fx_li 2 46 (by decide +kernel) rfl ?_
          refine fx_li 4 48 (by decide +kernel) rfl ?_
          refine fx_ci (1000) 51 (by decide +kernel) ?_
          refine fx_ige 59 54 (by decide +kernel) (by unfold fR; omega) (by unfold fR; omega) (fun h51 => ?_) (fun h51 => ?_)
          · refine fx_la 0 60 (v := 66) (by decide +kernel) rfl (by decide +kernel) ?_
            refine fx_gp 66 8 5 114 63 (by decide +kernel) ?_
            refine fx_li 4 65 (by decide +kernel) rfl ?_
            refine fx_ci (1000) 68 (by decide +kernel) ?_
            refine fx_sub 69 (by decide +kernel) rfl ?_
            refine fx_al 114 14 9 70 (by decide +kernel) rfl (by omega) (by omega) rfl ?_
            have v1 : vS (fC g) s = g 14 (s - 1000).toNat := by unfold vS fC; rw [if_neg (by omega), Nat.min_eq_left (by omega)]
            rw [v1] at hr2 he
            rw [hx _ _ (by decide)]
            have r7 := hgA hg 9 (c := 14) (j := (s - 1000).toNat) (by decide +kernel) (by omega)
            rw [hx _ _ (by decide)] at r7
            unfold fR at r7
            refine fx_as 122 15 24 71 (by decide +kernel) rfl (by omega) (by omega) rfl (by unfold fR; omega) ?_
            refine fx_inc 2 74 (1) (by decide +kernel) rfl (Or.inr (fI_n4 _)) rfl ?_
            dsimp only [List.set]
            refine fx_go 145 (by decide +kernel) ?_
            refine fx_inc 3 148 (1) (by decide +kernel) rfl (Or.inr (fI_n4 _)) rfl ?_
            dsimp only [List.set]
            refine fx_go 9 (by decide +kernel) ?_
            rw [show ((st.length : Int)).toNat = st.length from rfl]
            exact sp_lholds_1 hi hb h400 hOK kq w' (n + 1) (_ :: st) _ _ (fI_n4 _) hx.fu (stC_pu hst) (by rw [List.length_cons]; omega) hr2 he (by omega) hc'
          · refine fx_li 4 56 (by decide +kernel) rfl ?_
            refine fx_go 70 (by decide +kernel) ?_
            have v1 : vS (fC g) s = s := by unfold vS; rw [if_pos (by omega)]
            rw [v1] at hr2 he
            refine fx_as 122 15 24 71 (by decide +kernel) rfl (by omega) (by omega) rfl (by unfold fR; omega) ?_
            refine fx_inc 2 74 (1) (by decide +kernel) rfl (Or.inr (fI_n4 _)) rfl ?_
            dsimp only [List.set]
            refine fx_go 145 (by decide +kernel) ?_
            refine fx_inc 3 148 (1) (by decide +kernel) rfl (Or.inr (fI_n4 _)) rfl ?_
            dsimp only [List.set]
            refine fx_go 9 (by decide +kernel) ?_
            rw [show ((st.length : Int)).toNat = st.length from rfl]
            exact sp_lholds_1 hi hb h400 hOK kq w' (n + 1) (s :: st) _ _ (fI_n4 _) hx.fu (stC_pu hst) (by rw [List.length_cons]; omega) hr2 he (by omega) hc'
theorem sp_lholds {i f0 : Nat} {d : List Int} (hi : i < 12) (hf : g 11 i = (f0 : Int)) (hb : g 12 i = ((f0 + d.length : Nat) : Int)) (h400 : f0 + d.length ≤ 400) (hc : ∀ k : Nat, k < d.length → g 13 (f0 + k) = d.getD k 0) (hOK : LnOK (fC g) d) (kq : ∀ g', fSt g g' → Q 1 (fI (if lnV (fC g) d = 0 then 0 else 1)) g') : fx W r 1 130 0 [66, fI (i : Int), 7, 7, 7] [] g Q := by
  have run : rnS (fC g) d [] := by
    rcases hOK with e | ⟨e, -⟩
    · subst e; exact True.intro
    · exact e
  refine fx_ci (0) 1 (by decide +kernel) ?_
  refine fx_si 2 2 (by decide +kernel) (Or.inr (fI_n4 _)) rfl ?_
  dsimp only [List.set]
  refine fx_la 0 3 (v := 66) (by decide +kernel) rfl (by decide +kernel) ?_
  refine fx_gp 66 8 2 90 6 (by decide +kernel) ?_
  refine fx_li 1 7 (by decide +kernel) rfl ?_
  refine fx_al 90 11 12 8 (by decide +kernel) rfl (by omega) (by omega) rfl ?_
  rw [show ((i : Int)).toNat = i from rfl, hf]
  refine fx_si 3 9 (by decide +kernel) (Or.inr (fI_n4 _)) rfl ?_
  dsimp only [List.set]
  exact sp_lholds_1 hi hb h400 hOK kq d f0 [] g 7 (by decide) fSt.rf (fun k hk => absurd hk (Nat.not_lt_zero _)) (by decide) run rfl rfl hc
end FID
end
section
/-! fx: what is eaten by the law, what may be taken off: the class -/
noncomputable def vM (F : Nat → Int) (s : List Int × Int × Int) : Int := if lnV F s.1 = 0 then 0 else if s.2.1 = 0 then s.2.2 else if s.2.1 = 1 then -s.2.2 else 0
noncomputable def lwM (F : Nat → Int) : List (List Int × Int × Int) → Int → Int
  | [], a => a
  | s :: l, a => lwM F l (a + vM F s)
def lwH (segs : List (List Int × Int × Int)) : Bool := segs.any (fun s => decide (s.2.1 = 2))
noncomputable def lwO (F : Nat → Int) (segs : List (List Int × Int × Int)) : Bool := segs.any (fun s => decide (s.2.1 = 2 ∧ lnV F s.1 ≠ 0))
theorem dr_c {segs : List (List Int × Int × Int)} {i : Nat} (h : i < segs.length) : segs.drop i = segs.getD i ([], 0, 0) :: segs.drop (i + 1) := by
  rw [List.drop_eq_getElem_cons h, List.getD_eq_getElem?_getD, List.getElem?_eq_getElem h]
  rfl
theorem sg_m {F : Nat → Int} {segs : List (List Int × Int × Int)} (h : SgOK F segs) {i : Nat} (hi : i < segs.length) : LnOK F (segs.getD i ([], 0, 0)).1 ∧ ((segs.getD i ([], 0, 0)).2.1 = 0 ∨ (segs.getD i ([], 0, 0)).2.1 = 1 ∨ (segs.getD i ([], 0, 0)).2.1 = 2) ∧ 0 ≤ (segs.getD i ([], 0, 0)).2.2 ∧ (segs.getD i ([], 0, 0)).2.2 ≤ 30 := by
  refine h _ ?_
  rw [List.getD_eq_getElem?_getD, List.getElem?_eq_getElem hi]
  exact List.getElem_mem hi
theorem vM_b {F : Nat → Int} {s : List Int × Int × Int} (h : 0 ≤ s.2.2 ∧ s.2.2 ≤ 30) : -30 ≤ vM F s ∧ vM F s ≤ 30 := by
  unfold vM
  split
  · omega
  · split
    · omega
    · split <;> omega
theorem lwM_b {F : Nat → Int} : ∀ (l : List (List Int × Int × Int)) (a : Int), (∀ s ∈ l, 0 ≤ s.2.2 ∧ s.2.2 ≤ 30) → a - 30 * l.length ≤ lwM F l a ∧ lwM F l a ≤ a + 30 * l.length
  | [], a, _ => by show a - 30 * 0 ≤ a ∧ a ≤ a + 30 * 0; omega
  | s :: l, a, h => by
    have h1 := vM_b (F := F) (h s (List.mem_cons_self ..))
    have h2 := lwM_b (F := F) l (a + vM F s) (fun q hq => h q (List.mem_cons_of_mem _ hq))
    show a - 30 * ((l.length + 1 : Nat) : Int) ≤ lwM F l (a + vM F s) ∧ lwM F l (a + vM F s) ≤ a + 30 * ((l.length + 1 : Nat) : Int)
    omega
/-- the class's law: lines, at most 12 -/
def LwL (g : Nat → Nat → Int) (segs : List (List Int × Int × Int)) : Prop := (g 8 7 = (segs.length : Int) ∨ (segs = [] ∧ g 8 7 = -1)) ∧ segs.length ≤ 12 ∧ LwC 8 g segs
theorem LwL.cg {g g' : Nat → Nat → Int} {segs : List (List Int × Int × Int)} (h : LwL g segs) (e7 : g' 8 7 = g 8 7) (e : ∀ i j, 1 ≤ i → i ≤ 5 → g' (8 + i) j = g (8 + i) j) : LwL g' segs := by
  obtain ⟨h1, h2, h3⟩ := h
  refine ⟨by rw [e7]; exact h1, h2, fun i hi => ?_⟩
  obtain ⟨b1, b2, f0, b3, b4, b5, b6⟩ := h3 i hi
  exact ⟨by rw [e _ _ (by decide) (by decide)]; exact b1, by rw [e _ _ (by decide) (by decide)]; exact b2, f0, by rw [e _ _ (by decide) (by decide)]; exact b3, by rw [e _ _ (by decide) (by decide)]; exact b4, b5, fun k hk => by rw [e _ _ (by decide) (by decide)]; exact b6 k hk⟩
theorem LwL.st {g g' : Nat → Nat → Int} {segs : List (List Int × Int × Int)} (h : LwL g segs) (hs : fSt g g') : LwL g' segs := h.cg (hs _ _ (by decide)) (fun i j i1 i2 => hs _ _ (by omega))
/-- facts and stack alone are written -/
def fFS (g g' : Nat → Nat → Int) : Prop := ∀ c j, c ≠ 14 → c ≠ 15 → g' c j = g c j
theorem fFS.rf {g : Nat → Nat → Int} : fFS g g := fun _ _ _ _ => rfl
theorem fFS.tr {g g1 g2 : Nat → Nat → Int} (h : fFS g g1) (h2 : fFS g1 g2) : fFS g g2 := fun c j a b => by rw [h2 c j a b, h c j a b]
theorem fSt.fs {g g' : Nat → Nat → Int} (h : fSt g g') : fFS g g' := fun c j _ b => h c j b
theorem fC_st {g g' : Nat → Nat → Int} (h : fSt g g') : fC g' = fC g := by
  funext k
  exact h _ _ (by decide)
section FIE
variable {W : ax_W} {r : Nat} {g : Nat → Nat → Int} {Q : Nat → Nat → (Nat → Nat → Int) → Prop} {segs : List (List Int × Int × Int)} {F : Nat → Int}
theorem sp_lhold {i : Nat} {s : List Int × Int × Int} (h : LwL g segs) (hC : fC g = F) (hS : SgOK F segs) (hi : i < segs.length) (hs : segs.getD i ([], 0, 0) = s) (kq : ∀ g', fSt g g' → Q 1 (fI (if lnV F s.1 = 0 then 0 else 1)) g') : fx W r 1 130 0 [66, fI (i : Int), 7, 7, 7] [] g Q := by
  subst hC hs
  obtain ⟨-, -, f0, b3, b4, b5, b6⟩ := h.2.2 i hi
  exact sp_lholds (by have := h.2.1; omega) b3 b4 b5 b6 (sg_m hS hi).1 kq
theorem LwL.ln {g' : Nat → Nat → Int} (h : LwL g segs) (hx : fSt g g') (i : Nat) : ((i : Int) < g' 8 7 ↔ i < segs.length) ∧ -1 ≤ g' 8 7 ∧ g' 8 7 ≤ 12 := by
  rw [hx _ _ (by decide)]
  have h12 := h.2.1
  rcases h.1 with q | ⟨q1, q2⟩
  · rw [q]; omega
  · rw [q2, q1]
    exact ⟨⟨fun t => by omega, fun t => absurd t (Nat.not_lt_zero _)⟩, by decide, by decide⟩
theorem LwL.kd {g' : Nat → Nat → Int} {i : Nat} {s : List Int × Int × Int} (h : LwL g segs) (hx : fSt g g') (hi : i < segs.length) (hs : segs.getD i ([], 0, 0) = s) : g' 9 i = s.2.1 ∧ g' 10 i = s.2.2 := by
  subst hs
  obtain ⟨b1, b2, -⟩ := h.2.2 i hi
  rw [hx _ _ (by decide), hx _ _ (by decide)]
  exact ⟨b1, b2⟩
theorem sp_more_1 {R : Int} (h : LwL g segs) (hC : fC g = F) (hS : SgOK F segs) (kq : ∀ g', fSt g g' → Q 1 (fI R) g') : ∀ (l i : Nat) (a : Int) (g' : Nat → Nat → Int), i + l = segs.length → fSt g g' → -30 * i ≤ a → a ≤ 30 * i → lwM F (segs.drop i) a = R → fx W r 2 144 4 [66, fI a, fI (i : Int)] [] g' Q
  | l, i, a, g', hl, hx, a0, a1, e => by
    have h12 := h.2.1
    have hln := h.ln hx i
    refine fx_li 2 5 (by decide +kernel) rfl ?_
    refine fx_la 0 6 (v := 66) (by decide +kernel) rfl (by decide +kernel) ?_
    refine fx_gi 66 8 7 9 (by decide +kernel) ?_
    refine fx_ige 64 12 (by decide +kernel) (by unfold fR; omega) (by first | exact hg 8 7 (by decide) (by decide +kernel) (by decide +kernel) | (unfold fR; omega)) (fun h9 => ?_) (fun h9 => ?_)
    · refine fx_li 1 65 (by decide +kernel) rfl ?_
      refine fx_ret (by decide +kernel) ?_
      have e0 : ¬ i < segs.length := fun t => by have := hln.1.mpr t; omega
      rw [List.drop_eq_nil_of_le (by omega)] at e
      have e : a = R := e
      subst e
      exact kq g' hx
    · have i1 : i < segs.length := hln.1.mp (by omega)
      obtain ⟨l', rfl⟩ : ∃ l', l = l' + 1 := ⟨l - 1, by omega⟩
      obtain ⟨s, hs⟩ : ∃ s, segs.getD i ([], 0, 0) = s := ⟨_, rfl⟩
      have hk := h.kd hx i1 hs
      obtain ⟨s1, s2, s3, s4⟩ := sg_m hS i1
      rw [hs] at s1 s2 s3 s4
      rw [dr_c i1, hs] at e
      have e : lwM F (segs.drop (i + 1)) (a + vM F s) = R := e
      refine fx_la 0 13 (v := 66) (by decide +kernel) rfl (by decide +kernel) ?_
      refine fx_gp 66 8 0 74 16 (by decide +kernel) ?_
      refine fx_li 2 17 (by decide +kernel) rfl ?_
      refine fx_al 74 9 12 18 (by decide +kernel) rfl (by omega) (by omega) rfl ?_
      rw [show ((i : Int)).toNat = i from rfl, hk.1]
      refine fx_ci (2) 19 (by decide +kernel) ?_
      refine fx_ieq 58 22 (by decide +kernel) (by unfold fR; omega) (by unfold fR; omega) (fun h19 => ?_) (fun h19 => ?_)
      · refine fx_inc 2 61 (1) (by decide +kernel) rfl (Or.inr (fI_n4 _)) rfl ?_
        dsimp only [List.set]
        refine fx_go 4 (by decide +kernel) ?_
        have v0 : vM F s = 0 := by
          unfold vM
          split
          · rfl
          · rw [if_neg (by omega), if_neg (by omega)]
        rw [v0, Int.add_zero] at e
        exact sp_more_1 h hC hS kq l' (i + 1) a _ (by omega) hx (by omega) (by omega) e
      · refine fx_la 0 23 (v := 66) (by decide +kernel) rfl (by decide +kernel) ?_
        refine fx_li 2 24 (by decide +kernel) rfl ?_
        refine fx_c2 130 21 27 1 [7, 7, 7] (by decide +kernel) (by decide) (by decide) (fI_n4 _) rfl (by first | decide | omega) ?_
        refine sp_lhold (h.st hx) ((fC_st hx).trans hC) hS i1 hs (fun g2 hg2 => fK1 ?_)
        have hx2 := hx.tr hg2
        have hk2 := h.kd hx2 i1 hs
        have hz : (if lnV F s.1 = 0 then (0 : Int) else 1) = 0 ∨ (if lnV F s.1 = 0 then (0 : Int) else 1) = 1 := by split <;> simp
        generalize ez : (if lnV F s.1 = 0 then (0 : Int) else 1) = z at *
        refine fx_zeq 58 30 (by decide +kernel) (by unfold fR; omega) (fun h27 => ?_) (fun h27 => ?_)
        · have v0 : vM F s = 0 := by
            unfold vM
            split
            · rfl
            · rename_i n0
              rw [if_neg n0] at ez
              omega
          refine fx_inc 2 61 (1) (by decide +kernel) rfl (Or.inr (fI_n4 _)) rfl ?_
          dsimp only [List.set]
          refine fx_go 4 (by decide +kernel) ?_
          rw [v0, Int.add_zero] at e
          exact sp_more_1 h hC hS kq l' (i + 1) a _ (by omega) hx2 (by omega) (by omega) e
        · have v1 : ¬ lnV F s.1 = 0 := fun t => by
            rw [if_pos t] at ez
            omega
          refine fx_li 1 31 (by decide +kernel) rfl ?_
          refine fx_la 0 32 (v := 66) (by decide +kernel) rfl (by decide +kernel) ?_
          refine fx_gp 66 8 0 74 35 (by decide +kernel) ?_
          refine fx_li 2 36 (by decide +kernel) rfl ?_
          refine fx_al 74 9 12 37 (by decide +kernel) rfl (by omega) (by omega) rfl ?_
          try simp only [fu_app, fcy_app, Nat.reduceEqDiff, and_true, and_false, false_and, true_and, if_true, if_false, ite_true, ite_false, reduceIte, Int.reduceToNat, fx_simp0]
          rw [show ((i : Int)).toNat = i from rfl, hk2.1]
          refine fx_zne 49 40 (by decide +kernel) (by unfold fR; omega) (fun h37 => ?_) (fun h37 => ?_)
          · refine fx_la 0 50 (v := 66) (by decide +kernel) rfl (by decide +kernel) ?_
            refine fx_gp 66 8 1 82 53 (by decide +kernel) ?_
            refine fx_li 2 54 (by decide +kernel) rfl ?_
            refine fx_al 82 10 12 55 (by decide +kernel) rfl (by omega) (by omega) rfl ?_
            try simp only [fu_app, fcy_app, Nat.reduceEqDiff, and_true, and_false, false_and, true_and, if_true, if_false, ite_true, ite_false, reduceIte, Int.reduceToNat, fx_simp0]
            rw [show ((i : Int)).toNat = i from rfl, hk2.2]
            refine fx_ineg 56 (by decide +kernel) rfl ?_
            refine fx_add 57 (by decide +kernel) rfl ?_
            refine fx_si 1 58 (by decide +kernel) (Or.inr (f_n4p (v := 66) rfl (by decide))) rfl ?_
            dsimp only [List.set]
            refine fx_inc 2 61 (1) (by decide +kernel) rfl (Or.inr (fI_n4 _)) rfl ?_
            dsimp only [List.set]
            refine fx_go 4 (by decide +kernel) ?_
            have v0 : vM F s = -s.2.2 := by
              unfold vM
              rw [if_neg v1, if_neg (by omega), if_pos (by omega)]
            rw [v0] at e
            exact sp_more_1 h hC hS kq l' (i + 1) (a + -s.2.2) _ (by omega) hx2 (by omega) (by omega) e
          · refine fx_la 0 41 (v := 66) (by decide +kernel) rfl (by decide +kernel) ?_
            refine fx_gp 66 8 1 82 44 (by decide +kernel) ?_
            refine fx_li 2 45 (by decide +kernel) rfl ?_
            refine fx_al 82 10 12 46 (by decide +kernel) rfl (by omega) (by omega) rfl ?_
            try simp only [fu_app, fcy_app, Nat.reduceEqDiff, and_true, and_false, false_and, true_and, if_true, if_false, ite_true, ite_false, reduceIte, Int.reduceToNat, fx_simp0]
            rw [show ((i : Int)).toNat = i from rfl, hk2.2]
            refine fx_go 56 (by decide +kernel) ?_
            refine fx_add 57 (by decide +kernel) rfl ?_
            refine fx_si 1 58 (by decide +kernel) (Or.inr (f_n4p (v := 66) rfl (by decide))) rfl ?_
            dsimp only [List.set]
            refine fx_inc 2 61 (1) (by decide +kernel) rfl (Or.inr (fI_n4 _)) rfl ?_
            dsimp only [List.set]
            refine fx_go 4 (by decide +kernel) ?_
            have v0 : vM F s = s.2.2 := by
              unfold vM
              rw [if_neg v1, if_pos (by omega)]
            rw [v0] at e
            exact sp_more_1 h hC hS kq l' (i + 1) (a + s.2.2) _ (by omega) hx2 (by omega) (by omega) e
theorem sp_more (h : LwL g segs) (hC : fC g = F) (hS : SgOK F segs) (kq : ∀ g', fSt g g' → Q 1 (fI (lwM F segs 0)) g') : fx W r 2 144 0 [66, 7, 7] [] g Q := by
  refine fx_ci (0) 1 (by decide +kernel) ?_
  refine fx_si 1 2 (by decide +kernel) (Or.inr (f_n4p (v := 66) rfl (by decide))) rfl ?_
  dsimp only [List.set]
  refine fx_ci (0) 3 (by decide +kernel) ?_
  refine fx_si 2 4 (by decide +kernel) (Or.inr (fI_n4 _)) rfl ?_
  dsimp only [List.set]
  exact sp_more_1 h hC hS kq segs.length 0 0 g (by omega) fSt.rf (by decide) (by decide) rfl
theorem sp_hasOff_1 (h : LwL g segs) (kq : Q 1 (fI (if lwH segs = true then 1 else 0)) g) : ∀ (l i : Nat), i + l = segs.length → lwH (segs.drop i) = lwH segs → fx W r 0 126 2 [66, fI (i : Int)] [] g Q
  | l, i, hl, e => by
    have h12 := h.2.1
    have hln := h.ln fSt.rf i
    refine fx_rg (fun hg => ?_)
    refine fx_li 1 3 (by decide +kernel) rfl ?_
    refine fx_la 0 4 (v := 66) (by decide +kernel) rfl (by decide +kernel) ?_
    refine fx_gi 66 8 7 7 (by decide +kernel) ?_
    refine fx_ige 28 10 (by decide +kernel) (by unfold fR; omega) (by first | exact hg 8 7 (by decide) (by decide +kernel) (by decide +kernel) | (unfold fR; omega)) (fun h7 => ?_) (fun h7 => ?_)
    · refine fx_ci (0) 29 (by decide +kernel) ?_
      refine fx_retb (by decide +kernel) (by first | exact Or.inl rfl | exact Or.inr rfl | omega) ?_
      have e0 : ¬ i < segs.length := fun t => by have := hln.1.mpr t; omega
      rw [List.drop_eq_nil_of_le (by omega)] at e
      rw [← e] at kq
      exact kq
    · have i1 : i < segs.length := hln.1.mp (by omega)
      obtain ⟨l', rfl⟩ : ∃ l', l = l' + 1 := ⟨l - 1, by omega⟩
      obtain ⟨s, hs⟩ : ∃ s, segs.getD i ([], 0, 0) = s := ⟨_, rfl⟩
      have hk := h.kd fSt.rf i1 hs
      rw [dr_c i1, hs] at e
      have rk := hgA hg 12 (c := 9) (j := i) (by decide +kernel) (by omega)
      rw [hk.1] at rk
      unfold fR at rk
      refine fx_la 0 11 (v := 66) (by decide +kernel) rfl (by decide +kernel) ?_
      refine fx_gp 66 8 0 74 14 (by decide +kernel) ?_
      refine fx_li 1 15 (by decide +kernel) rfl ?_
      refine fx_al 74 9 12 16 (by decide +kernel) rfl (by omega) (by omega) rfl ?_
      rw [show ((i : Int)).toNat = i from rfl, hk.1]
      refine fx_ci (2) 17 (by decide +kernel) ?_
      refine fx_ine 22 20 (by decide +kernel) (by unfold fR; omega) (by unfold fR; omega) (fun h17 => ?_) (fun h17 => ?_)
      · refine fx_inc 1 25 (1) (by decide +kernel) rfl (Or.inr (f_n4p (v := 66) rfl (by decide))) rfl ?_
        dsimp only [List.set]
        refine fx_go 2 (by decide +kernel) ?_
        refine sp_hasOff_1 h kq l' (i + 1) (by omega) ?_
        rw [← e]
        show _ = (decide (s.2.1 = 2) || _)
        rw [decide_eq_false (by omega)]
        rfl
      · refine fx_ci (1) 21 (by decide +kernel) ?_
        refine fx_retb (by decide +kernel) (by first | exact Or.inl rfl | exact Or.inr rfl | omega) ?_
        have e : lwH (s :: segs.drop (i + 1)) = lwH segs := e
        have e2 : lwH segs = true := by
          rw [← e]
          show (decide (s.2.1 = 2) || _) = true
          rw [decide_eq_true (by omega)]
          rfl
        rw [if_pos e2] at kq
        exact kq
theorem sp_hasOff (h : LwL g segs) (kq : Q 1 (fI (if lwH segs = true then 1 else 0)) g) : fx W r 0 126 0 [66, 7] [] g Q := by
  refine fx_ci (0) 1 (by decide +kernel) ?_
  refine fx_si 1 2 (by decide +kernel) (Or.inr (f_n4p (v := 66) rfl (by decide))) rfl ?_
  dsimp only [List.set]
  exact sp_hasOff_1 h kq segs.length 0 (by omega) rfl
theorem sp_someOff_1 (h : LwL g segs) (hC : fC g = F) (hS : SgOK F segs) (kq : ∀ g', fSt g g' → Q 1 (fI (if lwO F segs = true then 1 else 0)) g') : ∀ (l i : Nat) (g' : Nat → Nat → Int), i + l = segs.length → fSt g g' → lwO F (segs.drop i) = lwO F segs → fx W r 2 129 2 [66, fI (i : Int)] [] g' Q
  | l, i, g', hl, hx, e => by
    have h12 := h.2.1
    have hln := h.ln hx i
    refine fx_li 1 3 (by decide +kernel) rfl ?_
    refine fx_la 0 4 (v := 66) (by decide +kernel) rfl (by decide +kernel) ?_
    refine fx_gi 66 8 7 7 (by decide +kernel) ?_
    refine fx_ige 36 10 (by decide +kernel) (by unfold fR; omega) (by first | exact hg 8 7 (by decide) (by decide +kernel) (by decide +kernel) | (unfold fR; omega)) (fun h7 => ?_) (fun h7 => ?_)
    · refine fx_ci (0) 37 (by decide +kernel) ?_
      refine fx_retb (by decide +kernel) (by first | exact Or.inl rfl | exact Or.inr rfl | omega) ?_
      have e0 : ¬ i < segs.length := fun t => by have := hln.1.mpr t; omega
      rw [List.drop_eq_nil_of_le (by omega)] at e
      have kq := kq g' hx
      rw [← e] at kq
      exact kq
    · have i1 : i < segs.length := hln.1.mp (by omega)
      obtain ⟨l', rfl⟩ : ∃ l', l = l' + 1 := ⟨l - 1, by omega⟩
      obtain ⟨s, hs⟩ : ∃ s, segs.getD i ([], 0, 0) = s := ⟨_, rfl⟩
      have hk := h.kd hx i1 hs
      obtain ⟨s1, s2, s3, s4⟩ := sg_m hS i1
      rw [hs] at s1 s2 s3 s4
      rw [dr_c i1, hs] at e
      refine fx_la 0 11 (v := 66) (by decide +kernel) rfl (by decide +kernel) ?_
      refine fx_gp 66 8 0 74 14 (by decide +kernel) ?_
      refine fx_li 1 15 (by decide +kernel) rfl ?_
      refine fx_al 74 9 12 16 (by decide +kernel) rfl (by omega) (by omega) rfl ?_
      rw [show ((i : Int)).toNat = i from rfl, hk.1]
      refine fx_ci (2) 17 (by decide +kernel) ?_
      refine fx_ine 30 20 (by decide +kernel) (by unfold fR; omega) (by unfold fR; omega) (fun h17 => ?_) (fun h17 => ?_)
      · refine fx_inc 1 33 (1) (by decide +kernel) rfl (Or.inr (f_n4p (v := 66) rfl (by decide))) rfl ?_
        dsimp only [List.set]
        refine fx_go 2 (by decide +kernel) ?_
        refine sp_someOff_1 h hC hS kq l' (i + 1) g' (by omega) hx ?_
        rw [← e]
        show _ = (decide (s.2.1 = 2 ∧ lnV F s.1 ≠ 0) || _)
        rw [decide_eq_false (by omega)]
        rfl
      · refine fx_la 0 21 (v := 66) (by decide +kernel) rfl (by decide +kernel) ?_
        refine fx_li 1 22 (by decide +kernel) rfl ?_
        refine fx_c2 130 21 25 1 [7, 7, 7] (by decide +kernel) (by decide) (by decide) (fI_n4 _) rfl (by first | decide | omega) ?_
        refine sp_lhold (h.st hx) ((fC_st hx).trans hC) hS i1 hs (fun g2 hg2 => fK1 ?_)
        have hx2 := hx.tr hg2
        have hz : (if lnV F s.1 = 0 then (0 : Int) else 1) = 0 ∨ (if lnV F s.1 = 0 then (0 : Int) else 1) = 1 := by split <;> simp
        generalize ez : (if lnV F s.1 = 0 then (0 : Int) else 1) = z at *
        refine fx_zeq 30 28 (by decide +kernel) (by unfold fR; omega) (fun h25 => ?_) (fun h25 => ?_)
        · refine fx_inc 1 33 (1) (by decide +kernel) rfl (Or.inr (f_n4p (v := 66) rfl (by decide))) rfl ?_
          dsimp only [List.set]
          refine fx_go 2 (by decide +kernel) ?_
          refine sp_someOff_1 h hC hS kq l' (i + 1) g2 (by omega) hx2 ?_
          rw [← e]
          show _ = (decide (s.2.1 = 2 ∧ lnV F s.1 ≠ 0) || _)
          rw [decide_eq_false (fun t => by rw [if_neg t.2] at ez; omega)]
          rfl
        · refine fx_ci (1) 29 (by decide +kernel) ?_
          refine fx_retb (by decide +kernel) (by first | exact Or.inl rfl | exact Or.inr rfl | omega) ?_
          have e2 : lwO F segs = true := by
            rw [← e]
            show (decide (s.2.1 = 2 ∧ lnV F s.1 ≠ 0) || _) = true
            rw [decide_eq_true ⟨by omega, fun t => by rw [if_pos t] at ez; omega⟩]
            rfl
          have kq := kq g2 hx2
          rw [if_pos e2] at kq
          exact kq
theorem sp_someOff (h : LwL g segs) (hC : fC g = F) (hS : SgOK F segs) (kq : ∀ g', fSt g g' → Q 1 (fI (if lwO F segs = true then 1 else 0)) g') : fx W r 2 129 0 [66, 7] [] g Q := by
  refine fx_ci (0) 1 (by decide +kernel) ?_
  refine fx_si 1 2 (by decide +kernel) (Or.inr (f_n4p (v := 66) rfl (by decide))) rfl ?_
  dsimp only [List.set]
  exact sp_someOff_1 h hC hS kq segs.length 0 g (by omega) fSt.rf rfl
theorem sp_ltell {k : Nat} {v : Int} (hk : k < 9) (hv : fR v) (kq : Q 0 0 (fu g 14 k v)) : fx W r 0 128 0 [66, fI (k : Int), fI v] [] g Q := by
  unfold fR at hv
  refine fx_li 1 1 (by decide +kernel) rfl ?_
  refine fx_zlt 17 4 (by decide +kernel) (by unfold fR; omega) (fun h1 => ?_) (fun h1 => ?_)
  · exfalso; omega
  · refine fx_li 1 5 (by decide +kernel) rfl ?_
    refine fx_ci (9) 7 (by decide +kernel) ?_
    refine fx_ige 17 10 (by decide +kernel) (by unfold fR; omega) (by unfold fR; omega) (fun h7 => ?_) (fun h7 => ?_)
    · exfalso; omega
    · refine fx_la 0 11 (v := 66) (by decide +kernel) rfl (by decide +kernel) ?_
      refine fx_gp 66 8 5 114 14 (by decide +kernel) ?_
      refine fx_li 1 15 (by decide +kernel) rfl ?_
      refine fx_li 2 16 (by decide +kernel) rfl ?_
      refine fx_as 114 14 9 17 (by decide +kernel) rfl (by omega) (by omega) rfl (by unfold fR; omega) ?_
      refine fx_vret (by decide +kernel) ?_
      exact kq
theorem sp_max0 {z : Int} (hz : fR z) (kq : Q 1 (fI (if 0 ≤ z then z else 0)) g) : fx W r 0 145 0 [fI 0, fI z] [] g Q := by
  unfold fR at hz
  refine fx_li 0 1 (by decide +kernel) rfl ?_
  refine fx_li 1 2 (by decide +kernel) rfl ?_
  refine fx_ilt 9 5 (by decide +kernel) (by unfold fR; omega) (by unfold fR; omega) (fun h2 => ?_) (fun h2 => ?_)
  · refine fx_li 1 10 (by decide +kernel) rfl ?_
    refine fx_ret (by decide +kernel) ?_
    rw [if_pos (by omega)] at kq
    exact kq
  · refine fx_li 0 6 (by decide +kernel) rfl ?_
    refine fx_go 10 (by decide +kernel) ?_
    refine fx_ret (by decide +kernel) ?_
    by_cases c : 0 ≤ z
    · rw [if_pos c] at kq
      have c0 : z = 0 := by omega
      subst c0
      exact kq
    · rw [if_neg c] at kq
      exact kq
/-- the facts of a person of the table table -/
def cFv_table (g : Nat → Nat → Int) (p : Nat) (pl d : Int) (k : Nat) : Int := [(p : Int), pl, d, g 20 p, g 18 p, g 4 p, g 16 9, if g 19 p = -1 then 0 else 1, if g 5 p = 3 then 1 else 0].getD (min k 8) 0
theorem sp_ctellLaw_table {p : Nat} {pl d : Int} (hp : p < 8) (hpl : fR pl) (hd : fR d) (kq : ∀ g', (∀ c j, c ≠ 14 → g' c j = g c j) → fC g' = cFv_table g p pl d → Q 0 0 g') : fx W r 1 127 0 [346, 130, fI (p : Int), fI pl, fI d] [] g Q := by
  refine fx_rg (fun hg => ?_)
  have r3 := hgA hg 8 (c := 20) (j := p) (by decide +kernel) hp
  have r4 := hgA hg 8 (c := 18) (j := p) (by decide +kernel) hp
  have r5 := hgA hg 8 (c := 4) (j := p) (by decide +kernel) hp
  have r7 := hgA hg 8 (c := 19) (j := p) (by decide +kernel) hp
  have r8 := hgA hg 8 (c := 5) (j := p) (by decide +kernel) hp
  have r6 := hg 16 9 (by decide) (by decide +kernel) (by decide +kernel)
  have r7' := r7
  have r8' := r8
  unfold fR at r7' r8'
  have fin : ∀ (a b : Int) (G : Nat → Nat → Int), a = (if g 19 p = -1 then 0 else 1) → b = (if g 5 p = 3 then 1 else 0) → G = fu (fu (fu (fu (fu (fu (fu (fu (fu g 14 0 (p : Int)) 14 1 pl) 14 2 d) 14 3 (g 20 p)) 14 4 (g 18 p)) 14 5 (g 4 p)) 14 6 (g 16 9)) 14 7 a) 14 8 b → Q 0 0 G := fun a b G ha hb hG => by
    subst hG
    refine kq _ (fun c j hc => ?_) ?_
    · rw [fu_nc hc, fu_nc hc, fu_nc hc, fu_nc hc, fu_nc hc, fu_nc hc, fu_nc hc, fu_nc hc, fu_nc hc]
    · funext k
      unfold fC cFv_table
      have hk : min k 8 ≤ 8 := Nat.min_le_right _ _
      generalize min k 8 = q at hk
      rcases (by omega : q = 0 ∨ q = 1 ∨ q = 2 ∨ q = 3 ∨ q = 4 ∨ q = 5 ∨ q = 6 ∨ q = 7 ∨ q = 8) with rfl | rfl | rfl | rfl | rfl | rfl | rfl | rfl | rfl
      · rw [fu_nj (by decide), fu_nj (by decide), fu_nj (by decide), fu_nj (by decide), fu_nj (by decide), fu_nj (by decide), fu_nj (by decide), fu_nj (by decide), fu_eq]; rfl
      · rw [fu_nj (by decide), fu_nj (by decide), fu_nj (by decide), fu_nj (by decide), fu_nj (by decide), fu_nj (by decide), fu_nj (by decide), fu_eq]; rfl
      · rw [fu_nj (by decide), fu_nj (by decide), fu_nj (by decide), fu_nj (by decide), fu_nj (by decide), fu_nj (by decide), fu_eq]; rfl
      · rw [fu_nj (by decide), fu_nj (by decide), fu_nj (by decide), fu_nj (by decide), fu_nj (by decide), fu_eq]; rfl
      · rw [fu_nj (by decide), fu_nj (by decide), fu_nj (by decide), fu_nj (by decide), fu_eq]; rfl
      · rw [fu_nj (by decide), fu_nj (by decide), fu_nj (by decide), fu_eq]; rfl
      · rw [fu_nj (by decide), fu_nj (by decide), fu_eq]; rfl
      · rw [fu_nj (by decide), fu_eq]; exact ha
      · rw [fu_eq]; exact hb
  refine fx_la 0 1 (v := 346) (by decide +kernel) rfl (by decide +kernel) ?_
  refine fx_gp 346 43 1 66 4 (by decide +kernel) ?_
  refine fx_ci (0) 5 (by decide +kernel) ?_
  refine fx_li 2 6 (by decide +kernel) rfl ?_
  refine fx_c3 128 21 9 0 [] (by decide +kernel) (by decide) (by decide) (fI_n4 _) (fI_n4 _) rfl (by first | decide | omega) ?_
  refine sp_ltell (k := 0) (by decide) (by unfold fR; omega) (fK0 ?_)
  refine fx_la 0 10 (v := 346) (by decide +kernel) rfl (by decide +kernel) ?_
  refine fx_gp 346 43 1 66 13 (by decide +kernel) ?_
  refine fx_ci (1) 14 (by decide +kernel) ?_
  refine fx_li 3 15 (by decide +kernel) rfl ?_
  refine fx_c3 128 21 18 0 [] (by decide +kernel) (by decide) (by decide) (fI_n4 _) (fI_n4 _) rfl (by first | decide | omega) ?_
  refine sp_ltell (k := 1) (by decide) hpl (fK0 ?_)
  refine fx_la 0 19 (v := 346) (by decide +kernel) rfl (by decide +kernel) ?_
  refine fx_gp 346 43 1 66 22 (by decide +kernel) ?_
  refine fx_ci (2) 23 (by decide +kernel) ?_
  refine fx_li 4 25 (by decide +kernel) rfl ?_
  refine fx_c3 128 21 28 0 [] (by decide +kernel) (by decide) (by decide) (fI_n4 _) (fI_n4 _) rfl (by first | decide | omega) ?_
  refine sp_ltell (k := 2) (by decide) hd (fK0 ?_)
  refine fx_la 0 29 (v := 346) (by decide +kernel) rfl (by decide +kernel) ?_
  refine fx_gp 346 43 1 66 32 (by decide +kernel) ?_
  refine fx_ci (3) 33 (by decide +kernel) ?_
  refine fx_la 1 34 (v := 130) (by decide +kernel) rfl (by decide +kernel) ?_
  refine fx_gp 130 16 3 162 37 (by decide +kernel) ?_
  refine fx_li 2 38 (by decide +kernel) rfl ?_
  refine fx_al 162 20 8 39 (by decide +kernel) rfl (by omega) (by omega) rfl ?_
  try simp only [fu_app, fcy_app, Nat.reduceEqDiff, and_true, and_false, false_and, true_and, if_true, if_false, ite_true, ite_false, reduceIte, Int.reduceToNat, fx_simp0]
  rw [show ((p : Int)).toNat = p from rfl]
  refine fx_c3 128 21 42 0 [] (by decide +kernel) (by decide) (by decide) (fI_n4 _) (fI_n4 _) rfl (by first | decide | omega) ?_
  refine sp_ltell (k := 3) (by decide) (by first | exact r3 | simpa [fu_app] using r3) (fK0 ?_)
  refine fx_la 0 43 (v := 346) (by decide +kernel) rfl (by decide +kernel) ?_
  refine fx_gp 346 43 1 66 46 (by decide +kernel) ?_
  refine fx_ci (4) 47 (by decide +kernel) ?_
  refine fx_la 1 48 (v := 130) (by decide +kernel) rfl (by decide +kernel) ?_
  refine fx_gp 130 16 1 146 51 (by decide +kernel) ?_
  refine fx_li 2 52 (by decide +kernel) rfl ?_
  refine fx_al 146 18 8 53 (by decide +kernel) rfl (by omega) (by omega) rfl ?_
  try simp only [fu_app, fcy_app, Nat.reduceEqDiff, and_true, and_false, false_and, true_and, if_true, if_false, ite_true, ite_false, reduceIte, Int.reduceToNat, fx_simp0]
  rw [show ((p : Int)).toNat = p from rfl]
  refine fx_c3 128 21 56 0 [] (by decide +kernel) (by decide) (by decide) (fI_n4 _) (fI_n4 _) rfl (by first | decide | omega) ?_
  refine sp_ltell (k := 4) (by decide) (by first | exact r4 | simpa [fu_app] using r4) (fK0 ?_)
  refine fx_la 0 57 (v := 346) (by decide +kernel) rfl (by decide +kernel) ?_
  refine fx_gp 346 43 1 66 60 (by decide +kernel) ?_
  refine fx_ci (5) 61 (by decide +kernel) ?_
  refine fx_la 0 62 (v := 346) (by decide +kernel) rfl (by decide +kernel) ?_
  refine fx_gp 346 43 0 26 65 (by decide +kernel) ?_
  refine fx_gp 26 3 0 34 68 (by decide +kernel) ?_
  refine fx_li 2 69 (by decide +kernel) rfl ?_
  refine fx_al 34 4 8 70 (by decide +kernel) rfl (by omega) (by omega) rfl ?_
  try simp only [fu_app, fcy_app, Nat.reduceEqDiff, and_true, and_false, false_and, true_and, if_true, if_false, ite_true, ite_false, reduceIte, Int.reduceToNat, fx_simp0]
  rw [show ((p : Int)).toNat = p from rfl]
  refine fx_c3 128 21 73 0 [] (by decide +kernel) (by decide) (by decide) (fI_n4 _) (fI_n4 _) rfl (by first | decide | omega) ?_
  refine sp_ltell (k := 5) (by decide) (by first | exact r5 | simpa [fu_app] using r5) (fK0 ?_)
  refine fx_la 0 74 (v := 346) (by decide +kernel) rfl (by decide +kernel) ?_
  refine fx_gp 346 43 1 66 77 (by decide +kernel) ?_
  refine fx_ci (6) 79 (by decide +kernel) ?_
  refine fx_la 1 80 (v := 130) (by decide +kernel) rfl (by decide +kernel) ?_
  refine fx_gi 130 16 9 83 (by decide +kernel) ?_
  try simp only [fu_app, fcy_app, Nat.reduceEqDiff, and_true, and_false, false_and, true_and, if_true, if_false, ite_true, ite_false, reduceIte, Int.reduceToNat, fx_simp0]
  refine fx_c3 128 21 86 0 [] (by decide +kernel) (by decide) (by decide) (fI_n4 _) (fI_n4 _) rfl (by first | decide | omega) ?_
  refine sp_ltell (k := 6) (by decide) (by first | exact r6 | simpa [fu_app] using r6) (fK0 ?_)
  refine fx_la 0 87 (v := 346) (by decide +kernel) rfl (by decide +kernel) ?_
  refine fx_gp 346 43 1 66 90 (by decide +kernel) ?_
  refine fx_ci (7) 92 (by decide +kernel) ?_
  refine fx_la 1 93 (v := 130) (by decide +kernel) rfl (by decide +kernel) ?_
  refine fx_gp 130 16 2 154 96 (by decide +kernel) ?_
  refine fx_li 2 97 (by decide +kernel) rfl ?_
  refine fx_al 154 19 8 98 (by decide +kernel) rfl (by omega) (by omega) rfl ?_
  try simp only [fu_app, fcy_app, Nat.reduceEqDiff, and_true, and_false, false_and, true_and, if_true, if_false, ite_true, ite_false, reduceIte, Int.reduceToNat, fx_simp0]
  rw [show ((p : Int)).toNat = p from rfl]
  refine fx_ci (-1) 99 (by decide +kernel) ?_
  refine fx_ine 106 102 (by decide +kernel) (by unfold fR; omega) (by unfold fR; omega) (fun h99 => ?_) (fun h99 => ?_)
  · refine fx_ci (1) 107 (by decide +kernel) ?_
    refine fx_c3 128 21 110 0 [] (by decide +kernel) (by decide) (by decide) (fI_n4 _) (fI_n4 _) rfl (by first | decide | omega) ?_
    refine sp_ltell (k := 7) (by decide) (by unfold fR; omega) (fK0 ?_)
    refine fx_la 0 111 (v := 346) (by decide +kernel) rfl (by decide +kernel) ?_
    refine fx_gp 346 43 1 66 114 (by decide +kernel) ?_
    refine fx_ci (8) 116 (by decide +kernel) ?_
    refine fx_la 0 117 (v := 346) (by decide +kernel) rfl (by decide +kernel) ?_
    refine fx_gp 346 43 0 26 120 (by decide +kernel) ?_
    refine fx_gp 26 3 1 42 123 (by decide +kernel) ?_
    refine fx_li 2 124 (by decide +kernel) rfl ?_
    refine fx_al 42 5 8 125 (by decide +kernel) rfl (by omega) (by omega) rfl ?_
    try simp only [fu_app, fcy_app, Nat.reduceEqDiff, and_true, and_false, false_and, true_and, if_true, if_false, ite_true, ite_false, reduceIte, Int.reduceToNat, fx_simp0]
    rw [show ((p : Int)).toNat = p from rfl]
    refine fx_ci (3) 126 (by decide +kernel) ?_
    refine fx_ine 133 129 (by decide +kernel) (by unfold fR; omega) (by unfold fR; omega) (fun h126 => ?_) (fun h126 => ?_)
    · refine fx_ci (0) 134 (by decide +kernel) ?_
      refine fx_c3 128 21 137 0 [] (by decide +kernel) (by decide) (by decide) (fI_n4 _) (fI_n4 _) rfl (by first | decide | omega) ?_
      refine sp_ltell (k := 8) (by decide) (by unfold fR; omega) (fK0 ?_)
      refine fx_vret (by decide +kernel) ?_
      exact fin _ _ _ (by rw [if_neg (by omega)]) (by rw [if_neg (by omega)]) rfl
    · refine fx_ci (1) 130 (by decide +kernel) ?_
      refine fx_go 134 (by decide +kernel) ?_
      refine fx_c3 128 21 137 0 [] (by decide +kernel) (by decide) (by decide) (fI_n4 _) (fI_n4 _) rfl (by first | decide | omega) ?_
      refine sp_ltell (k := 8) (by decide) (by unfold fR; omega) (fK0 ?_)
      refine fx_vret (by decide +kernel) ?_
      exact fin _ _ _ (by rw [if_neg (by omega)]) (by rw [if_pos (by omega)]) rfl
  · refine fx_ci (0) 103 (by decide +kernel) ?_
    refine fx_go 107 (by decide +kernel) ?_
    refine fx_c3 128 21 110 0 [] (by decide +kernel) (by decide) (by decide) (fI_n4 _) (fI_n4 _) rfl (by first | decide | omega) ?_
    refine sp_ltell (k := 7) (by decide) (by unfold fR; omega) (fK0 ?_)
    refine fx_la 0 111 (v := 346) (by decide +kernel) rfl (by decide +kernel) ?_
    refine fx_gp 346 43 1 66 114 (by decide +kernel) ?_
    refine fx_ci (8) 116 (by decide +kernel) ?_
    refine fx_la 0 117 (v := 346) (by decide +kernel) rfl (by decide +kernel) ?_
    refine fx_gp 346 43 0 26 120 (by decide +kernel) ?_
    refine fx_gp 26 3 1 42 123 (by decide +kernel) ?_
    refine fx_li 2 124 (by decide +kernel) rfl ?_
    refine fx_al 42 5 8 125 (by decide +kernel) rfl (by omega) (by omega) rfl ?_
    try simp only [fu_app, fcy_app, Nat.reduceEqDiff, and_true, and_false, false_and, true_and, if_true, if_false, ite_true, ite_false, reduceIte, Int.reduceToNat, fx_simp0]
    rw [show ((p : Int)).toNat = p from rfl]
    refine fx_ci (3) 126 (by decide +kernel) ?_
    refine fx_ine 133 129 (by decide +kernel) (by unfold fR; omega) (by unfold fR; omega) (fun h126 => ?_) (fun h126 => ?_)
    · refine fx_ci (0) 134 (by decide +kernel) ?_
      refine fx_c3 128 21 137 0 [] (by decide +kernel) (by decide) (by decide) (fI_n4 _) (fI_n4 _) rfl (by first | decide | omega) ?_
      refine sp_ltell (k := 8) (by decide) (by unfold fR; omega) (fK0 ?_)
      refine fx_vret (by decide +kernel) ?_
      exact fin _ _ _ (by rw [if_pos (by omega)]) (by rw [if_neg (by omega)]) rfl
    · refine fx_ci (1) 130 (by decide +kernel) ?_
      refine fx_go 134 (by decide +kernel) ?_
      refine fx_c3 128 21 137 0 [] (by decide +kernel) (by decide) (by decide) (fI_n4 _) (fI_n4 _) rfl (by first | decide | omega) ?_
      refine sp_ltell (k := 8) (by decide) (by unfold fR; omega) (fK0 ?_)
      refine fx_vret (by decide +kernel) ?_
      exact fin _ _ _ (by rw [if_pos (by omega)]) (by rw [if_pos (by omega)]) rfl
theorem cFv_table_78 (g : Nat → Nat → Int) (p : Nat) (pl d : Int) : (cFv_table g p pl d 7 = 0 ∨ cFv_table g p pl d 7 = 1) ∧ (cFv_table g p pl d 8 = 0 ∨ cFv_table g p pl d 8 = 1) := by
  refine ⟨?_, ?_⟩
  · show (if g 19 p = -1 then (0 : Int) else 1) = 0 ∨ (if g 19 p = -1 then (0 : Int) else 1) = 1
    split <;> simp
  · show (if g 5 p = 3 then (1 : Int) else 0) = 0 ∨ (if g 5 p = 3 then (1 : Int) else 0) = 1
    split <;> simp
/-- what a ring of the table table eats -/
theorem sp_ceatenBy_table {p : Nat} {pl d : Int} (h : LwL g segs) (hS : SgOK (cFv_table g p pl d) segs) (hp : p < 8) (hpl : 0 ≤ pl ∧ pl ≤ 7) (hd : 0 ≤ d ∧ d < 6) (he : 0 ≤ g 6 (d * 8 + pl).toNat ∧ g 6 (d * 8 + pl).toNat ≤ 9)
    (kq : ∀ g', fFS g g' → Q 1 (fI (if 0 ≤ g 6 (d * 8 + pl).toNat + lwM (cFv_table g p pl d) segs 0 then g 6 (d * 8 + pl).toNat + lwM (cFv_table g p pl d) segs 0 else 0)) g') : fx W r 3 143 0 [346, 130, fI (p : Int), fI pl, fI d, 7] [] g Q := by
  have h12 := h.2.1
  have hln := h.ln fSt.rf 0
  have hmb := lwM_b (F := cFv_table g p pl d) segs 0 (fun s hs => (hS s hs).2.2)
  refine fx_la 0 1 (v := 346) (by decide +kernel) rfl (by decide +kernel) ?_
  refine fx_gp 346 43 0 26 4 (by decide +kernel) ?_
  refine fx_li 4 6 (by decide +kernel) rfl ?_
  refine fx_li 3 7 (by decide +kernel) rfl ?_
  refine fx_c3 24 21 10 0 [] (by decide +kernel) (by decide) (by decide) (fI_n4 _) (fI_n4 _) rfl (by first | decide | omega) ?_
  refine sp_ceatenAt hd hpl (fK1 ?_)
  generalize g 6 (d * 8 + pl).toNat = e at *
  refine fx_si 5 12 (by decide +kernel) (Or.inr (fI_n4 _)) rfl ?_
  dsimp only [List.set]
  refine fx_la 0 13 (v := 346) (by decide +kernel) rfl (by decide +kernel) ?_
  refine fx_gp 346 43 1 66 16 (by decide +kernel) ?_
  refine fx_gi 66 8 7 19 (by decide +kernel) ?_
  try simp only [fu_app, fcy_app, Nat.reduceEqDiff, and_true, and_false, false_and, true_and, if_true, if_false, ite_true, ite_false, reduceIte, Int.reduceToNat, fx_simp0]
  refine fx_zgt 25 22 (by decide +kernel) (by unfold fR; omega) (fun h19 => ?_) (fun h19 => ?_)
  · refine fx_la 0 26 (v := 346) (by decide +kernel) rfl (by decide +kernel) ?_
    refine fx_la 1 27 (v := 130) (by decide +kernel) rfl (by decide +kernel) ?_
    refine fx_li 2 28 (by decide +kernel) rfl ?_
    refine fx_li 3 29 (by decide +kernel) rfl ?_
    refine fx_li 4 31 (by decide +kernel) rfl ?_
    refine fx_c5 127 21 34 1 [] (by decide +kernel) (by decide) (by decide) (by decide) (fI_n4 _) (fI_n4 _) (fI_n4 _) rfl (by first | decide | omega) ?_
    refine sp_ctellLaw_table hp (by unfold fR; omega) (by unfold fR; omega) (fun g1 x1 c1 => fK0 ?_)
    refine fx_ci (0) 35 (by decide +kernel) ?_
    refine fx_li 5 37 (by decide +kernel) rfl ?_
    refine fx_la 0 38 (v := 346) (by decide +kernel) rfl (by decide +kernel) ?_
    refine fx_gp 346 43 1 66 41 (by decide +kernel) ?_
    refine fx_c1 144 21 44 2 [7, 7] (by decide +kernel) (by decide) rfl (by first | decide | omega) ?_
    refine sp_more (h.cg (x1 _ _ (by decide)) (fun i j i1 i2 => x1 _ _ (by omega))) c1 hS (fun g2 x2 => fK1 ?_)
    refine fx_add 45 (by decide +kernel) rfl ?_
    refine fx_c2 145 22 48 0 [] (f_q22 (by decide +kernel)) (by decide) (fI_n4 _) (fI_n4 _) rfl (by first | decide | omega) ?_
    refine sp_max0 (by unfold fR; omega) (fK1 ?_)
    refine fx_ret (by decide +kernel) ?_
    exact kq g2 (fun c j a b => by rw [x2 c j b, x1 c j a])
  · refine fx_li 5 24 (by decide +kernel) rfl ?_
    refine fx_ret (by decide +kernel) ?_
    have s0 : segs = [] := by
      have : ¬ 0 < segs.length := fun t => by have := hln.1.mpr t; omega
      exact List.length_eq_zero_iff.mp (by omega)
    subst s0
    have kq := kq g fFS.rf
    have m0 : lwM (cFv_table g p pl d) [] 0 = 0 := rfl
    rw [m0, Int.add_zero, if_pos he.1] at kq
    exact kq
/-- whether a ring of the table table may be taken off -/
noncomputable def cMay_table (g : Nat → Nat → Int) (segs : List (List Int × Int × Int)) (p : Nat) : Prop := if lwH segs = true then lwO (cFv_table g p (g 17 p) 0) segs = true else g 3 9 ≤ g 20 p
theorem sp_cmayBeOff_table {p : Nat} (h : LwL g segs) (hS : SgOK (cFv_table g p (g 17 p) 0) segs) (hp : p < 8)
    (k1 : cMay_table g segs p → ∀ g', fFS g g' → Q 1 (fI 1) g') (k2 : ¬ cMay_table g segs p → ∀ g', fFS g g' → Q 1 (fI 0) g') : fx W r 3 125 0 [346, 130, fI (p : Int)] [] g Q := by
  refine fx_rg (fun hg => ?_)
  have rp := hgA hg 8 (c := 17) (j := p) (by decide +kernel) hp
  have rc := hgA hg 8 (c := 20) (j := p) (by decide +kernel) hp
  have rl := hg 3 9 (by decide) (by decide +kernel) (by decide +kernel)
  unfold fR at rc rl
  unfold cMay_table at k1 k2
  refine fx_la 0 1 (v := 346) (by decide +kernel) rfl (by decide +kernel) ?_
  refine fx_gp 346 43 1 66 4 (by decide +kernel) ?_
  refine fx_c1 126 21 7 0 [7] (by decide +kernel) (by decide) rfl (by first | decide | omega) ?_
  refine sp_hasOff h (fK1 ?_)
  have hz : (if lwH segs = true then (1 : Int) else 0) = 0 ∨ (if lwH segs = true then (1 : Int) else 0) = 1 := by split <;> simp
  generalize ez : (if lwH segs = true then (1 : Int) else 0) = z at *
  refine fx_zne 32 10 (by decide +kernel) (by unfold fR; omega) (fun h7 => ?_) (fun h7 => ?_)
  · have e0 : lwH segs = true := Classical.byContradiction (fun t => by rw [if_neg t] at ez; omega)
    rw [if_pos e0] at k1 k2
    refine fx_la 0 33 (v := 346) (by decide +kernel) rfl (by decide +kernel) ?_
    refine fx_la 1 34 (v := 130) (by decide +kernel) rfl (by decide +kernel) ?_
    refine fx_li 2 35 (by decide +kernel) rfl ?_
    refine fx_la 1 36 (v := 130) (by decide +kernel) rfl (by decide +kernel) ?_
    refine fx_gp 130 16 0 138 39 (by decide +kernel) ?_
    refine fx_li 2 40 (by decide +kernel) rfl ?_
    refine fx_al 138 17 8 41 (by decide +kernel) rfl (by omega) (by omega) rfl ?_
    try simp only [fu_app, fcy_app, Nat.reduceEqDiff, and_true, and_false, false_and, true_and, if_true, if_false, ite_true, ite_false, reduceIte, Int.reduceToNat, fx_simp0]
    rw [show ((p : Int)).toNat = p from rfl]
    refine fx_ci (0) 42 (by decide +kernel) ?_
    refine fx_c5 127 21 45 1 [] (by decide +kernel) (by decide) (by decide) (by decide) (fI_n4 _) (fI_n4 _) (fI_n4 _) rfl (by first | decide | omega) ?_
    refine sp_ctellLaw_table hp rp (by unfold fR; omega) (fun g1 x1 c1 => fK0 ?_)
    refine fx_la 0 46 (v := 346) (by decide +kernel) rfl (by decide +kernel) ?_
    refine fx_gp 346 43 1 66 49 (by decide +kernel) ?_
    refine fx_c1 129 21 52 2 [7] (by decide +kernel) (by decide) rfl (by first | decide | omega) ?_
    refine sp_someOff (h.cg (x1 _ _ (by decide)) (fun i j i1 i2 => x1 _ _ (by omega))) c1 hS (fun g2 x2 => fK1 ?_)
    have xs : fFS g g2 := fun c j a b => by rw [x2 c j b, x1 c j a]
    refine fx_retb (by decide +kernel) (by first | exact Or.inl rfl | exact Or.inr rfl | omega) ?_
    by_cases c : lwO (cFv_table g p (g 17 p) 0) segs = true
    · rw [if_pos c]; exact k1 c _ xs
    · rw [if_neg c]; exact k2 c _ xs
  · have e0 : ¬ lwH segs = true := fun t => by rw [if_pos t] at ez; omega
    rw [if_neg e0] at k1 k2
    refine fx_la 1 11 (v := 130) (by decide +kernel) rfl (by decide +kernel) ?_
    refine fx_gp 130 16 3 162 14 (by decide +kernel) ?_
    refine fx_li 2 15 (by decide +kernel) rfl ?_
    refine fx_al 162 20 8 16 (by decide +kernel) rfl (by omega) (by omega) rfl ?_
    try simp only [fu_app, fcy_app, Nat.reduceEqDiff, and_true, and_false, false_and, true_and, if_true, if_false, ite_true, ite_false, reduceIte, Int.reduceToNat, fx_simp0]
    rw [show ((p : Int)).toNat = p from rfl]
    refine fx_la 0 17 (v := 346) (by decide +kernel) rfl (by decide +kernel) ?_
    refine fx_gp 346 43 0 26 20 (by decide +kernel) ?_
    refine fx_gi 26 3 9 23 (by decide +kernel) ?_
    try simp only [fu_app, fcy_app, Nat.reduceEqDiff, and_true, and_false, false_and, true_and, if_true, if_false, ite_true, ite_false, reduceIte, Int.reduceToNat, fx_simp0]
    refine fx_ilt 30 26 (by decide +kernel) (by unfold fR; omega) (by unfold fR; omega) (fun h23 => ?_) (fun h23 => ?_)
    · refine fx_ci (0) 31 (by decide +kernel) ?_
      refine fx_retb (by decide +kernel) (by first | exact Or.inl rfl | exact Or.inr rfl | omega) ?_
      exact k2 (by omega) _ fFS.rf
    · refine fx_ci (1) 27 (by decide +kernel) ?_
      refine fx_go 31 (by decide +kernel) ?_
      refine fx_retb (by decide +kernel) (by first | exact Or.inl rfl | exact Or.inr rfl | omega) ?_
      exact k1 (by omega) _ fFS.rf
/-- the facts of a person of the table scratch -/
def cFv_scratch (g : Nat → Nat → Int) (p : Nat) (pl d : Int) (k : Nat) : Int := [(p : Int), pl, d, g 26 p, g 24 p, g 4 p, g 22 9, if g 25 p = -1 then 0 else 1, if g 5 p = 3 then 1 else 0].getD (min k 8) 0
theorem sp_ctellLaw_scratch {p : Nat} {pl d : Int} (hp : p < 8) (hpl : fR pl) (hd : fR d) (kq : ∀ g', (∀ c j, c ≠ 14 → g' c j = g c j) → fC g' = cFv_scratch g p pl d → Q 0 0 g') : fx W r 1 127 0 [346, 178, fI (p : Int), fI pl, fI d] [] g Q := by
  refine fx_rg (fun hg => ?_)
  have r3 := hgA hg 8 (c := 26) (j := p) (by decide +kernel) hp
  have r4 := hgA hg 8 (c := 24) (j := p) (by decide +kernel) hp
  have r5 := hgA hg 8 (c := 4) (j := p) (by decide +kernel) hp
  have r7 := hgA hg 8 (c := 25) (j := p) (by decide +kernel) hp
  have r8 := hgA hg 8 (c := 5) (j := p) (by decide +kernel) hp
  have r6 := hg 22 9 (by decide) (by decide +kernel) (by decide +kernel)
  have r7' := r7
  have r8' := r8
  unfold fR at r7' r8'
  have fin : ∀ (a b : Int) (G : Nat → Nat → Int), a = (if g 25 p = -1 then 0 else 1) → b = (if g 5 p = 3 then 1 else 0) → G = fu (fu (fu (fu (fu (fu (fu (fu (fu g 14 0 (p : Int)) 14 1 pl) 14 2 d) 14 3 (g 26 p)) 14 4 (g 24 p)) 14 5 (g 4 p)) 14 6 (g 22 9)) 14 7 a) 14 8 b → Q 0 0 G := fun a b G ha hb hG => by
    subst hG
    refine kq _ (fun c j hc => ?_) ?_
    · rw [fu_nc hc, fu_nc hc, fu_nc hc, fu_nc hc, fu_nc hc, fu_nc hc, fu_nc hc, fu_nc hc, fu_nc hc]
    · funext k
      unfold fC cFv_scratch
      have hk : min k 8 ≤ 8 := Nat.min_le_right _ _
      generalize min k 8 = q at hk
      rcases (by omega : q = 0 ∨ q = 1 ∨ q = 2 ∨ q = 3 ∨ q = 4 ∨ q = 5 ∨ q = 6 ∨ q = 7 ∨ q = 8) with rfl | rfl | rfl | rfl | rfl | rfl | rfl | rfl | rfl
      · rw [fu_nj (by decide), fu_nj (by decide), fu_nj (by decide), fu_nj (by decide), fu_nj (by decide), fu_nj (by decide), fu_nj (by decide), fu_nj (by decide), fu_eq]; rfl
      · rw [fu_nj (by decide), fu_nj (by decide), fu_nj (by decide), fu_nj (by decide), fu_nj (by decide), fu_nj (by decide), fu_nj (by decide), fu_eq]; rfl
      · rw [fu_nj (by decide), fu_nj (by decide), fu_nj (by decide), fu_nj (by decide), fu_nj (by decide), fu_nj (by decide), fu_eq]; rfl
      · rw [fu_nj (by decide), fu_nj (by decide), fu_nj (by decide), fu_nj (by decide), fu_nj (by decide), fu_eq]; rfl
      · rw [fu_nj (by decide), fu_nj (by decide), fu_nj (by decide), fu_nj (by decide), fu_eq]; rfl
      · rw [fu_nj (by decide), fu_nj (by decide), fu_nj (by decide), fu_eq]; rfl
      · rw [fu_nj (by decide), fu_nj (by decide), fu_eq]; rfl
      · rw [fu_nj (by decide), fu_eq]; exact ha
      · rw [fu_eq]; exact hb
  refine fx_la 0 1 (v := 346) (by decide +kernel) rfl (by decide +kernel) ?_
  refine fx_gp 346 43 1 66 4 (by decide +kernel) ?_
  refine fx_ci (0) 5 (by decide +kernel) ?_
  refine fx_li 2 6 (by decide +kernel) rfl ?_
  refine fx_c3 128 21 9 0 [] (by decide +kernel) (by decide) (by decide) (fI_n4 _) (fI_n4 _) rfl (by first | decide | omega) ?_
  refine sp_ltell (k := 0) (by decide) (by unfold fR; omega) (fK0 ?_)
  refine fx_la 0 10 (v := 346) (by decide +kernel) rfl (by decide +kernel) ?_
  refine fx_gp 346 43 1 66 13 (by decide +kernel) ?_
  refine fx_ci (1) 14 (by decide +kernel) ?_
  refine fx_li 3 15 (by decide +kernel) rfl ?_
  refine fx_c3 128 21 18 0 [] (by decide +kernel) (by decide) (by decide) (fI_n4 _) (fI_n4 _) rfl (by first | decide | omega) ?_
  refine sp_ltell (k := 1) (by decide) hpl (fK0 ?_)
  refine fx_la 0 19 (v := 346) (by decide +kernel) rfl (by decide +kernel) ?_
  refine fx_gp 346 43 1 66 22 (by decide +kernel) ?_
  refine fx_ci (2) 23 (by decide +kernel) ?_
  refine fx_li 4 25 (by decide +kernel) rfl ?_
  refine fx_c3 128 21 28 0 [] (by decide +kernel) (by decide) (by decide) (fI_n4 _) (fI_n4 _) rfl (by first | decide | omega) ?_
  refine sp_ltell (k := 2) (by decide) hd (fK0 ?_)
  refine fx_la 0 29 (v := 346) (by decide +kernel) rfl (by decide +kernel) ?_
  refine fx_gp 346 43 1 66 32 (by decide +kernel) ?_
  refine fx_ci (3) 33 (by decide +kernel) ?_
  refine fx_la 1 34 (v := 178) (by decide +kernel) rfl (by decide +kernel) ?_
  refine fx_gp 178 22 3 210 37 (by decide +kernel) ?_
  refine fx_li 2 38 (by decide +kernel) rfl ?_
  refine fx_al 210 26 8 39 (by decide +kernel) rfl (by omega) (by omega) rfl ?_
  try simp only [fu_app, fcy_app, Nat.reduceEqDiff, and_true, and_false, false_and, true_and, if_true, if_false, ite_true, ite_false, reduceIte, Int.reduceToNat, fx_simp0]
  rw [show ((p : Int)).toNat = p from rfl]
  refine fx_c3 128 21 42 0 [] (by decide +kernel) (by decide) (by decide) (fI_n4 _) (fI_n4 _) rfl (by first | decide | omega) ?_
  refine sp_ltell (k := 3) (by decide) (by first | exact r3 | simpa [fu_app] using r3) (fK0 ?_)
  refine fx_la 0 43 (v := 346) (by decide +kernel) rfl (by decide +kernel) ?_
  refine fx_gp 346 43 1 66 46 (by decide +kernel) ?_
  refine fx_ci (4) 47 (by decide +kernel) ?_
  refine fx_la 1 48 (v := 178) (by decide +kernel) rfl (by decide +kernel) ?_
  refine fx_gp 178 22 1 194 51 (by decide +kernel) ?_
  refine fx_li 2 52 (by decide +kernel) rfl ?_
  refine fx_al 194 24 8 53 (by decide +kernel) rfl (by omega) (by omega) rfl ?_
  try simp only [fu_app, fcy_app, Nat.reduceEqDiff, and_true, and_false, false_and, true_and, if_true, if_false, ite_true, ite_false, reduceIte, Int.reduceToNat, fx_simp0]
  rw [show ((p : Int)).toNat = p from rfl]
  refine fx_c3 128 21 56 0 [] (by decide +kernel) (by decide) (by decide) (fI_n4 _) (fI_n4 _) rfl (by first | decide | omega) ?_
  refine sp_ltell (k := 4) (by decide) (by first | exact r4 | simpa [fu_app] using r4) (fK0 ?_)
  refine fx_la 0 57 (v := 346) (by decide +kernel) rfl (by decide +kernel) ?_
  refine fx_gp 346 43 1 66 60 (by decide +kernel) ?_
  refine fx_ci (5) 61 (by decide +kernel) ?_
  refine fx_la 0 62 (v := 346) (by decide +kernel) rfl (by decide +kernel) ?_
  refine fx_gp 346 43 0 26 65 (by decide +kernel) ?_
  refine fx_gp 26 3 0 34 68 (by decide +kernel) ?_
  refine fx_li 2 69 (by decide +kernel) rfl ?_
  refine fx_al 34 4 8 70 (by decide +kernel) rfl (by omega) (by omega) rfl ?_
  try simp only [fu_app, fcy_app, Nat.reduceEqDiff, and_true, and_false, false_and, true_and, if_true, if_false, ite_true, ite_false, reduceIte, Int.reduceToNat, fx_simp0]
  rw [show ((p : Int)).toNat = p from rfl]
  refine fx_c3 128 21 73 0 [] (by decide +kernel) (by decide) (by decide) (fI_n4 _) (fI_n4 _) rfl (by first | decide | omega) ?_
  refine sp_ltell (k := 5) (by decide) (by first | exact r5 | simpa [fu_app] using r5) (fK0 ?_)
  refine fx_la 0 74 (v := 346) (by decide +kernel) rfl (by decide +kernel) ?_
  refine fx_gp 346 43 1 66 77 (by decide +kernel) ?_
  refine fx_ci (6) 79 (by decide +kernel) ?_
  refine fx_la 1 80 (v := 178) (by decide +kernel) rfl (by decide +kernel) ?_
  refine fx_gi 178 22 9 83 (by decide +kernel) ?_
  try simp only [fu_app, fcy_app, Nat.reduceEqDiff, and_true, and_false, false_and, true_and, if_true, if_false, ite_true, ite_false, reduceIte, Int.reduceToNat, fx_simp0]
  refine fx_c3 128 21 86 0 [] (by decide +kernel) (by decide) (by decide) (fI_n4 _) (fI_n4 _) rfl (by first | decide | omega) ?_
  refine sp_ltell (k := 6) (by decide) (by first | exact r6 | simpa [fu_app] using r6) (fK0 ?_)
  refine fx_la 0 87 (v := 346) (by decide +kernel) rfl (by decide +kernel) ?_
  refine fx_gp 346 43 1 66 90 (by decide +kernel) ?_
  refine fx_ci (7) 92 (by decide +kernel) ?_
  refine fx_la 1 93 (v := 178) (by decide +kernel) rfl (by decide +kernel) ?_
  refine fx_gp 178 22 2 202 96 (by decide +kernel) ?_
  refine fx_li 2 97 (by decide +kernel) rfl ?_
  refine fx_al 202 25 8 98 (by decide +kernel) rfl (by omega) (by omega) rfl ?_
  try simp only [fu_app, fcy_app, Nat.reduceEqDiff, and_true, and_false, false_and, true_and, if_true, if_false, ite_true, ite_false, reduceIte, Int.reduceToNat, fx_simp0]
  rw [show ((p : Int)).toNat = p from rfl]
  refine fx_ci (-1) 99 (by decide +kernel) ?_
  refine fx_ine 106 102 (by decide +kernel) (by unfold fR; omega) (by unfold fR; omega) (fun h99 => ?_) (fun h99 => ?_)
  · refine fx_ci (1) 107 (by decide +kernel) ?_
    refine fx_c3 128 21 110 0 [] (by decide +kernel) (by decide) (by decide) (fI_n4 _) (fI_n4 _) rfl (by first | decide | omega) ?_
    refine sp_ltell (k := 7) (by decide) (by unfold fR; omega) (fK0 ?_)
    refine fx_la 0 111 (v := 346) (by decide +kernel) rfl (by decide +kernel) ?_
    refine fx_gp 346 43 1 66 114 (by decide +kernel) ?_
    refine fx_ci (8) 116 (by decide +kernel) ?_
    refine fx_la 0 117 (v := 346) (by decide +kernel) rfl (by decide +kernel) ?_
    refine fx_gp 346 43 0 26 120 (by decide +kernel) ?_
    refine fx_gp 26 3 1 42 123 (by decide +kernel) ?_
    refine fx_li 2 124 (by decide +kernel) rfl ?_
    refine fx_al 42 5 8 125 (by decide +kernel) rfl (by omega) (by omega) rfl ?_
    try simp only [fu_app, fcy_app, Nat.reduceEqDiff, and_true, and_false, false_and, true_and, if_true, if_false, ite_true, ite_false, reduceIte, Int.reduceToNat, fx_simp0]
    rw [show ((p : Int)).toNat = p from rfl]
    refine fx_ci (3) 126 (by decide +kernel) ?_
    refine fx_ine 133 129 (by decide +kernel) (by unfold fR; omega) (by unfold fR; omega) (fun h126 => ?_) (fun h126 => ?_)
    · refine fx_ci (0) 134 (by decide +kernel) ?_
      refine fx_c3 128 21 137 0 [] (by decide +kernel) (by decide) (by decide) (fI_n4 _) (fI_n4 _) rfl (by first | decide | omega) ?_
      refine sp_ltell (k := 8) (by decide) (by unfold fR; omega) (fK0 ?_)
      refine fx_vret (by decide +kernel) ?_
      exact fin _ _ _ (by rw [if_neg (by omega)]) (by rw [if_neg (by omega)]) rfl
    · refine fx_ci (1) 130 (by decide +kernel) ?_
      refine fx_go 134 (by decide +kernel) ?_
      refine fx_c3 128 21 137 0 [] (by decide +kernel) (by decide) (by decide) (fI_n4 _) (fI_n4 _) rfl (by first | decide | omega) ?_
      refine sp_ltell (k := 8) (by decide) (by unfold fR; omega) (fK0 ?_)
      refine fx_vret (by decide +kernel) ?_
      exact fin _ _ _ (by rw [if_neg (by omega)]) (by rw [if_pos (by omega)]) rfl
  · refine fx_ci (0) 103 (by decide +kernel) ?_
    refine fx_go 107 (by decide +kernel) ?_
    refine fx_c3 128 21 110 0 [] (by decide +kernel) (by decide) (by decide) (fI_n4 _) (fI_n4 _) rfl (by first | decide | omega) ?_
    refine sp_ltell (k := 7) (by decide) (by unfold fR; omega) (fK0 ?_)
    refine fx_la 0 111 (v := 346) (by decide +kernel) rfl (by decide +kernel) ?_
    refine fx_gp 346 43 1 66 114 (by decide +kernel) ?_
    refine fx_ci (8) 116 (by decide +kernel) ?_
    refine fx_la 0 117 (v := 346) (by decide +kernel) rfl (by decide +kernel) ?_
    refine fx_gp 346 43 0 26 120 (by decide +kernel) ?_
    refine fx_gp 26 3 1 42 123 (by decide +kernel) ?_
    refine fx_li 2 124 (by decide +kernel) rfl ?_
    refine fx_al 42 5 8 125 (by decide +kernel) rfl (by omega) (by omega) rfl ?_
    try simp only [fu_app, fcy_app, Nat.reduceEqDiff, and_true, and_false, false_and, true_and, if_true, if_false, ite_true, ite_false, reduceIte, Int.reduceToNat, fx_simp0]
    rw [show ((p : Int)).toNat = p from rfl]
    refine fx_ci (3) 126 (by decide +kernel) ?_
    refine fx_ine 133 129 (by decide +kernel) (by unfold fR; omega) (by unfold fR; omega) (fun h126 => ?_) (fun h126 => ?_)
    · refine fx_ci (0) 134 (by decide +kernel) ?_
      refine fx_c3 128 21 137 0 [] (by decide +kernel) (by decide) (by decide) (fI_n4 _) (fI_n4 _) rfl (by first | decide | omega) ?_
      refine sp_ltell (k := 8) (by decide) (by unfold fR; omega) (fK0 ?_)
      refine fx_vret (by decide +kernel) ?_
      exact fin _ _ _ (by rw [if_pos (by omega)]) (by rw [if_neg (by omega)]) rfl
    · refine fx_ci (1) 130 (by decide +kernel) ?_
      refine fx_go 134 (by decide +kernel) ?_
      refine fx_c3 128 21 137 0 [] (by decide +kernel) (by decide) (by decide) (fI_n4 _) (fI_n4 _) rfl (by first | decide | omega) ?_
      refine sp_ltell (k := 8) (by decide) (by unfold fR; omega) (fK0 ?_)
      refine fx_vret (by decide +kernel) ?_
      exact fin _ _ _ (by rw [if_pos (by omega)]) (by rw [if_pos (by omega)]) rfl
theorem cFv_scratch_78 (g : Nat → Nat → Int) (p : Nat) (pl d : Int) : (cFv_scratch g p pl d 7 = 0 ∨ cFv_scratch g p pl d 7 = 1) ∧ (cFv_scratch g p pl d 8 = 0 ∨ cFv_scratch g p pl d 8 = 1) := by
  refine ⟨?_, ?_⟩
  · show (if g 25 p = -1 then (0 : Int) else 1) = 0 ∨ (if g 25 p = -1 then (0 : Int) else 1) = 1
    split <;> simp
  · show (if g 5 p = 3 then (1 : Int) else 0) = 0 ∨ (if g 5 p = 3 then (1 : Int) else 0) = 1
    split <;> simp
/-- what a ring of the table scratch eats -/
theorem sp_ceatenBy_scratch {p : Nat} {pl d : Int} (h : LwL g segs) (hS : SgOK (cFv_scratch g p pl d) segs) (hp : p < 8) (hpl : 0 ≤ pl ∧ pl ≤ 7) (hd : 0 ≤ d ∧ d < 6) (he : 0 ≤ g 6 (d * 8 + pl).toNat ∧ g 6 (d * 8 + pl).toNat ≤ 9)
    (kq : ∀ g', fFS g g' → Q 1 (fI (if 0 ≤ g 6 (d * 8 + pl).toNat + lwM (cFv_scratch g p pl d) segs 0 then g 6 (d * 8 + pl).toNat + lwM (cFv_scratch g p pl d) segs 0 else 0)) g') : fx W r 3 143 0 [346, 178, fI (p : Int), fI pl, fI d, 7] [] g Q := by
  have h12 := h.2.1
  have hln := h.ln fSt.rf 0
  have hmb := lwM_b (F := cFv_scratch g p pl d) segs 0 (fun s hs => (hS s hs).2.2)
  refine fx_la 0 1 (v := 346) (by decide +kernel) rfl (by decide +kernel) ?_
  refine fx_gp 346 43 0 26 4 (by decide +kernel) ?_
  refine fx_li 4 6 (by decide +kernel) rfl ?_
  refine fx_li 3 7 (by decide +kernel) rfl ?_
  refine fx_c3 24 21 10 0 [] (by decide +kernel) (by decide) (by decide) (fI_n4 _) (fI_n4 _) rfl (by first | decide | omega) ?_
  refine sp_ceatenAt hd hpl (fK1 ?_)
  generalize g 6 (d * 8 + pl).toNat = e at *
  refine fx_si 5 12 (by decide +kernel) (Or.inr (fI_n4 _)) rfl ?_
  dsimp only [List.set]
  refine fx_la 0 13 (v := 346) (by decide +kernel) rfl (by decide +kernel) ?_
  refine fx_gp 346 43 1 66 16 (by decide +kernel) ?_
  refine fx_gi 66 8 7 19 (by decide +kernel) ?_
  try simp only [fu_app, fcy_app, Nat.reduceEqDiff, and_true, and_false, false_and, true_and, if_true, if_false, ite_true, ite_false, reduceIte, Int.reduceToNat, fx_simp0]
  refine fx_zgt 25 22 (by decide +kernel) (by unfold fR; omega) (fun h19 => ?_) (fun h19 => ?_)
  · refine fx_la 0 26 (v := 346) (by decide +kernel) rfl (by decide +kernel) ?_
    refine fx_la 1 27 (v := 178) (by decide +kernel) rfl (by decide +kernel) ?_
    refine fx_li 2 28 (by decide +kernel) rfl ?_
    refine fx_li 3 29 (by decide +kernel) rfl ?_
    refine fx_li 4 31 (by decide +kernel) rfl ?_
    refine fx_c5 127 21 34 1 [] (by decide +kernel) (by decide) (by decide) (by decide) (fI_n4 _) (fI_n4 _) (fI_n4 _) rfl (by first | decide | omega) ?_
    refine sp_ctellLaw_scratch hp (by unfold fR; omega) (by unfold fR; omega) (fun g1 x1 c1 => fK0 ?_)
    refine fx_ci (0) 35 (by decide +kernel) ?_
    refine fx_li 5 37 (by decide +kernel) rfl ?_
    refine fx_la 0 38 (v := 346) (by decide +kernel) rfl (by decide +kernel) ?_
    refine fx_gp 346 43 1 66 41 (by decide +kernel) ?_
    refine fx_c1 144 21 44 2 [7, 7] (by decide +kernel) (by decide) rfl (by first | decide | omega) ?_
    refine sp_more (h.cg (x1 _ _ (by decide)) (fun i j i1 i2 => x1 _ _ (by omega))) c1 hS (fun g2 x2 => fK1 ?_)
    refine fx_add 45 (by decide +kernel) rfl ?_
    refine fx_c2 145 22 48 0 [] (f_q22 (by decide +kernel)) (by decide) (fI_n4 _) (fI_n4 _) rfl (by first | decide | omega) ?_
    refine sp_max0 (by unfold fR; omega) (fK1 ?_)
    refine fx_ret (by decide +kernel) ?_
    exact kq g2 (fun c j a b => by rw [x2 c j b, x1 c j a])
  · refine fx_li 5 24 (by decide +kernel) rfl ?_
    refine fx_ret (by decide +kernel) ?_
    have s0 : segs = [] := by
      have : ¬ 0 < segs.length := fun t => by have := hln.1.mpr t; omega
      exact List.length_eq_zero_iff.mp (by omega)
    subst s0
    have kq := kq g fFS.rf
    have m0 : lwM (cFv_scratch g p pl d) [] 0 = 0 := rfl
    rw [m0, Int.add_zero, if_pos he.1] at kq
    exact kq
/-- whether a ring of the table scratch may be taken off -/
noncomputable def cMay_scratch (g : Nat → Nat → Int) (segs : List (List Int × Int × Int)) (p : Nat) : Prop := if lwH segs = true then lwO (cFv_scratch g p (g 23 p) 0) segs = true else g 3 9 ≤ g 26 p
theorem sp_cmayBeOff_scratch {p : Nat} (h : LwL g segs) (hS : SgOK (cFv_scratch g p (g 23 p) 0) segs) (hp : p < 8)
    (k1 : cMay_scratch g segs p → ∀ g', fFS g g' → Q 1 (fI 1) g') (k2 : ¬ cMay_scratch g segs p → ∀ g', fFS g g' → Q 1 (fI 0) g') : fx W r 3 125 0 [346, 178, fI (p : Int)] [] g Q := by
  refine fx_rg (fun hg => ?_)
  have rp := hgA hg 8 (c := 23) (j := p) (by decide +kernel) hp
  have rc := hgA hg 8 (c := 26) (j := p) (by decide +kernel) hp
  have rl := hg 3 9 (by decide) (by decide +kernel) (by decide +kernel)
  unfold fR at rc rl
  unfold cMay_scratch at k1 k2
  refine fx_la 0 1 (v := 346) (by decide +kernel) rfl (by decide +kernel) ?_
  refine fx_gp 346 43 1 66 4 (by decide +kernel) ?_
  refine fx_c1 126 21 7 0 [7] (by decide +kernel) (by decide) rfl (by first | decide | omega) ?_
  refine sp_hasOff h (fK1 ?_)
  have hz : (if lwH segs = true then (1 : Int) else 0) = 0 ∨ (if lwH segs = true then (1 : Int) else 0) = 1 := by split <;> simp
  generalize ez : (if lwH segs = true then (1 : Int) else 0) = z at *
  refine fx_zne 32 10 (by decide +kernel) (by unfold fR; omega) (fun h7 => ?_) (fun h7 => ?_)
  · have e0 : lwH segs = true := Classical.byContradiction (fun t => by rw [if_neg t] at ez; omega)
    rw [if_pos e0] at k1 k2
    refine fx_la 0 33 (v := 346) (by decide +kernel) rfl (by decide +kernel) ?_
    refine fx_la 1 34 (v := 178) (by decide +kernel) rfl (by decide +kernel) ?_
    refine fx_li 2 35 (by decide +kernel) rfl ?_
    refine fx_la 1 36 (v := 178) (by decide +kernel) rfl (by decide +kernel) ?_
    refine fx_gp 178 22 0 186 39 (by decide +kernel) ?_
    refine fx_li 2 40 (by decide +kernel) rfl ?_
    refine fx_al 186 23 8 41 (by decide +kernel) rfl (by omega) (by omega) rfl ?_
    try simp only [fu_app, fcy_app, Nat.reduceEqDiff, and_true, and_false, false_and, true_and, if_true, if_false, ite_true, ite_false, reduceIte, Int.reduceToNat, fx_simp0]
    rw [show ((p : Int)).toNat = p from rfl]
    refine fx_ci (0) 42 (by decide +kernel) ?_
    refine fx_c5 127 21 45 1 [] (by decide +kernel) (by decide) (by decide) (by decide) (fI_n4 _) (fI_n4 _) (fI_n4 _) rfl (by first | decide | omega) ?_
    refine sp_ctellLaw_scratch hp rp (by unfold fR; omega) (fun g1 x1 c1 => fK0 ?_)
    refine fx_la 0 46 (v := 346) (by decide +kernel) rfl (by decide +kernel) ?_
    refine fx_gp 346 43 1 66 49 (by decide +kernel) ?_
    refine fx_c1 129 21 52 2 [7] (by decide +kernel) (by decide) rfl (by first | decide | omega) ?_
    refine sp_someOff (h.cg (x1 _ _ (by decide)) (fun i j i1 i2 => x1 _ _ (by omega))) c1 hS (fun g2 x2 => fK1 ?_)
    have xs : fFS g g2 := fun c j a b => by rw [x2 c j b, x1 c j a]
    refine fx_retb (by decide +kernel) (by first | exact Or.inl rfl | exact Or.inr rfl | omega) ?_
    by_cases c : lwO (cFv_scratch g p (g 23 p) 0) segs = true
    · rw [if_pos c]; exact k1 c _ xs
    · rw [if_neg c]; exact k2 c _ xs
  · have e0 : ¬ lwH segs = true := fun t => by rw [if_pos t] at ez; omega
    rw [if_neg e0] at k1 k2
    refine fx_la 1 11 (v := 178) (by decide +kernel) rfl (by decide +kernel) ?_
    refine fx_gp 178 22 3 210 14 (by decide +kernel) ?_
    refine fx_li 2 15 (by decide +kernel) rfl ?_
    refine fx_al 210 26 8 16 (by decide +kernel) rfl (by omega) (by omega) rfl ?_
    try simp only [fu_app, fcy_app, Nat.reduceEqDiff, and_true, and_false, false_and, true_and, if_true, if_false, ite_true, ite_false, reduceIte, Int.reduceToNat, fx_simp0]
    rw [show ((p : Int)).toNat = p from rfl]
    refine fx_la 0 17 (v := 346) (by decide +kernel) rfl (by decide +kernel) ?_
    refine fx_gp 346 43 0 26 20 (by decide +kernel) ?_
    refine fx_gi 26 3 9 23 (by decide +kernel) ?_
    try simp only [fu_app, fcy_app, Nat.reduceEqDiff, and_true, and_false, false_and, true_and, if_true, if_false, ite_true, ite_false, reduceIte, Int.reduceToNat, fx_simp0]
    refine fx_ilt 30 26 (by decide +kernel) (by unfold fR; omega) (by unfold fR; omega) (fun h23 => ?_) (fun h23 => ?_)
    · refine fx_ci (0) 31 (by decide +kernel) ?_
      refine fx_retb (by decide +kernel) (by first | exact Or.inl rfl | exact Or.inr rfl | omega) ?_
      exact k2 (by omega) _ fFS.rf
    · refine fx_ci (1) 27 (by decide +kernel) ?_
      refine fx_go 31 (by decide +kernel) ?_
      refine fx_retb (by decide +kernel) (by first | exact Or.inl rfl | exact Or.inr rfl | omega) ?_
      exact k1 (by omega) _ fFS.rf
end FIE
end
section
/-! fx: what is eaten by the law, what may be taken off: the reference -/
theorem fop_0 {x y : Int} (h : fR (x + y)) : fop 0 x y = x + y := fI_inj (fop_R _ _ _) h (fI_add x y)
/-- the law of the reference's row: its lines -/
def LwR (t : Nat → Int) (segs : List (List Int × Int × Int)) : Prop := (∀ k : Nat, k < 400 → 0 ≤ t (364 + k) ∧ t (364 + k) ≤ 255) ∧ (0 ≤ t 2 ∧ t 2 ≤ 400) ∧ ((t 1 = -1 ∧ segs = []) ∨ (pLawR (tTx t) (t 2) = Sum.inr segs ∧ t 1 = (segs.length : Int))) ∧ segs.length ≤ 12
theorem RLw_2 {g : Nat → Nat → Int} {t : Nat → Int} (h : RLw 8 g t) : ∃ segs, LwR t segs ∧ LwL g segs := by
  obtain ⟨h1, h2, h3⟩ := h
  rcases h3 with ⟨a1, a2⟩ | ⟨segs, a1, a2, a3, a4, a5⟩
  · exact ⟨[], ⟨h1, h2, Or.inl ⟨a1, rfl⟩, by decide⟩, Or.inr ⟨rfl, a2⟩, by decide, fun i hi => absurd hi (Nat.not_lt_zero _)⟩
  · exact ⟨segs, ⟨h1, h2, Or.inr ⟨a1, a2⟩, a4⟩, Or.inl a3, a4, a5⟩
theorem LwR.ok {t : Nat → Int} {segs : List (List Int × Int × Int)} (h : LwR t segs) {F : Nat → Int} (hF : (F 7 = 0 ∨ F 7 = 1) ∧ (F 8 = 0 ∨ F 8 = 1)) : SgOK F segs := by
  rcases h.2.2.1 with ⟨-, e⟩ | ⟨e, -⟩
  · subst e
    intro s hs
    cases hs
  · exact pLawR_W hF h.2.1.1 e
/-- the facts of a person of the row t -/
def mFv (t : Nat → Int) (p : Nat) (pl d : Int) (k : Nat) : Int := [(p : Int), pl, d, t (18 + 7 * p), t (13 + 7 * p), t (14 + 7 * p), t 9, if t (16 + 7 * p) = -1 then 0 else 1, if t (15 + 7 * p) = 3 then 1 else 0].getD (min k 8) 0
theorem if_01 {P : Prop} [d : Decidable P] : (if P then (1 : Int) else 0) = 0 ∨ (if P then (1 : Int) else 0) = 1 := by
  split
  · exact Or.inr rfl
  · exact Or.inl rfl
theorem if_10 {P : Prop} [d : Decidable P] : (if P then (0 : Int) else 1) = 0 ∨ (if P then (0 : Int) else 1) = 1 := by
  split
  · exact Or.inl rfl
  · exact Or.inr rfl
theorem mFv_7 (t : Nat → Int) (p : Nat) (pl d : Int) : mFv t p pl d 7 = if t (16 + 7 * p) = -1 then 0 else 1 := rfl
theorem mFv_8 (t : Nat → Int) (p : Nat) (pl d : Int) : mFv t p pl d 8 = if t (15 + 7 * p) = 3 then 1 else 0 := rfl
theorem mFv_78 (t : Nat → Int) (p : Nat) (pl d : Int) : (mFv t p pl d 7 = 0 ∨ mFv t p pl d 7 = 1) ∧ (mFv t p pl d 8 = 0 ∨ mFv t p pl d 8 = 1) := by
  rw [mFv_7, mFv_8]
  exact ⟨if_10, if_01⟩
/-- what all lines say -/
theorem fSg_all {F : Nat → Int} (l : List (List Int × Int × Int)) : ∀ (g : Nat → Nat → Int), (∀ s ∈ l, (s.2.1 = 0 ∨ s.2.1 = 1 ∨ s.2.1 = 2) ∧ 0 ≤ s.2.2 ∧ s.2.2 ≤ 30) → l.length ≤ 12 → (g 148 18 = 0 ∨ g 148 18 = 1) → (g 148 19 = 0 ∨ g 148 19 = 1) → -1000 + 30 * l.length ≤ g 148 17 → g 148 17 ≤ 1000 - 30 * l.length → fSg F l g 148 17 = lwM F l (g 148 17) ∧ fSg F l g 148 18 = (if g 148 18 = 1 ∨ lwH l = true then 1 else 0) ∧ fSg F l g 148 19 = (if g 148 19 = 1 ∨ lwO F l = true then 1 else 0) := by
  induction l with
  | nil =>
    intro g _ _ h1 h2 _ _
    have f0 : ∀ z : Int, (z = 0 ∨ z = 1) → z = if z = 1 ∨ false = true then 1 else 0 := fun z hz => by
      rcases hz with rfl | rfl
      · rw [if_neg (by decide)]
      · rw [if_pos (Or.inl rfl)]
    exact ⟨rfl, f0 _ h1, f0 _ h2⟩
  | cons s l ih =>
    intro g hS hl h1 h2 m0 m1
    obtain ⟨k1, k2, k3⟩ := hS s (List.mem_cons_self ..)
    have ll : (s :: l).length = l.length + 1 := rfl
    rw [ll] at hl m0 m1
    have vb := vM_b (F := F) (s := s) ⟨k2, k3⟩
    have e17 : fLn s.2.1 s.2.2 (lnV F s.1) g 148 17 = g 148 17 + vM F s := by
      unfold fLn vM
      by_cases b : lnV F s.1 = 0
      · rw [if_pos b, if_pos b, fu_nj (by decide), Int.add_zero]
      · rw [if_neg b, if_neg b, fu_eq]
        have e : (if s.2.1 = 0 then s.2.2 else if s.2.1 = 1 then -s.2.2 else 0) = vM F s := by
          unfold vM
          rw [if_neg b]
        rw [e]
        exact fop_0 (by unfold fR; omega)
    have e18 : fLn s.2.1 s.2.2 (lnV F s.1) g 148 18 = if g 148 18 = 1 ∨ s.2.1 = 2 then 1 else 0 := by
      have c : (g 148 18 ≠ 0 ∨ s.2.1 = 2) ↔ (g 148 18 = 1 ∨ s.2.1 = 2) := by omega
      unfold fLn
      by_cases b : lnV F s.1 = 0
      · rw [if_pos b, fu_eq]
        simp only [c]
      · rw [if_neg b, fu_nj (by decide), fu_nj (by decide), fu_eq]
        simp only [c]
    have e19 : fLn s.2.1 s.2.2 (lnV F s.1) g 148 19 = if g 148 19 = 1 ∨ (s.2.1 = 2 ∧ lnV F s.1 ≠ 0) then 1 else 0 := by
      unfold fLn
      by_cases b : lnV F s.1 = 0
      · rw [if_pos b, fu_nj (by decide)]
        have c : (g 148 19 = 1 ∨ (s.2.1 = 2 ∧ lnV F s.1 ≠ 0)) ↔ g 148 19 = 1 := ⟨fun t => t.elim id (fun u => absurd b u.2), Or.inl⟩
        simp only [c]
        rcases h2 with e | e <;> rw [e] <;> rfl
      · rw [if_neg b, fu_nj (by decide), fu_eq]
        have c : (g 148 19 ≠ 0 ∨ s.2.1 = 2) ↔ (g 148 19 = 1 ∨ (s.2.1 = 2 ∧ lnV F s.1 ≠ 0)) := by
          refine ⟨fun t => ?_, fun t => ?_⟩
          · rcases t with t | t
            · exact Or.inl (by omega)
            · exact Or.inr ⟨t, b⟩
          · rcases t with t | t
            · exact Or.inl (by omega)
            · exact Or.inr t.1
        simp only [c]
    obtain ⟨i1, i2, i3⟩ := ih (fLn s.2.1 s.2.2 (lnV F s.1) g) (fun q hq => hS q (List.mem_cons_of_mem _ hq)) (by omega) (by rw [e18]; split <;> simp) (by rw [e19]; split <;> simp) (by rw [e17]; omega) (by rw [e17]; omega)
    have ef : fSg F (s :: l) g = fSg F l (fLn s.2.1 s.2.2 (lnV F s.1) g) := rfl
    rw [ef]
    refine ⟨?_, ?_, ?_⟩
    · rw [i1, e17]; rfl
    · rw [i2, e18]
      have c : ((if g 148 18 = 1 ∨ s.2.1 = 2 then (1 : Int) else 0) = 1 ∨ lwH l = true) ↔ (g 148 18 = 1 ∨ lwH (s :: l) = true) := by
        have e : lwH (s :: l) = (decide (s.2.1 = 2) || lwH l) := rfl
        rw [e, Bool.or_eq_true, decide_eq_true_eq]
        by_cases a : g 148 18 = 1 ∨ s.2.1 = 2
        · rw [if_pos a]
          exact ⟨fun _ => by rcases a with a | a; exact Or.inl a; exact Or.inr (Or.inl a), fun _ => Or.inl rfl⟩
        · rw [if_neg a]
          exact ⟨fun t => t.elim (fun t => absurd t (by decide)) (fun t => Or.inr (Or.inr t)), fun t => by rcases t with t | t | t; exact absurd (Or.inl t) a; exact absurd (Or.inr t) a; exact Or.inr t⟩
      simp only [c]
    · rw [i3, e19]
      have c : ((if g 148 19 = 1 ∨ (s.2.1 = 2 ∧ lnV F s.1 ≠ 0) then (1 : Int) else 0) = 1 ∨ lwO F l = true) ↔ (g 148 19 = 1 ∨ lwO F (s :: l) = true) := by
        have e : lwO F (s :: l) = (decide (s.2.1 = 2 ∧ lnV F s.1 ≠ 0) || lwO F l) := rfl
        rw [e, Bool.or_eq_true, decide_eq_true_eq]
        by_cases a : g 148 19 = 1 ∨ (s.2.1 = 2 ∧ lnV F s.1 ≠ 0)
        · rw [if_pos a]
          exact ⟨fun _ => by rcases a with a | a; exact Or.inl a; exact Or.inr (Or.inl a), fun _ => Or.inl rfl⟩
        · rw [if_neg a]
          exact ⟨fun t => t.elim (fun t => absurd t (by decide)) (fun t => Or.inr (Or.inr t)), fun t => by rcases t with t | t | t; exact absurd (Or.inl t) a; exact absurd (Or.inr t) a; exact Or.inr t⟩
      simp only [c]
/-- what asking writes -/
def rA (g g' : Nat → Nat → Int) : Prop := ∀ c j, c ≠ 154 → ¬ (c = 148 ∧ (j = 9 ∨ j = 10 ∨ j = 11 ∨ j = 13 ∨ (15 ≤ j ∧ j ≤ 19))) → g' c j = g c j
theorem rA.rf {g : Nat → Nat → Int} : rA g g := fun _ _ _ _ => rfl
theorem rA.tr {g g1 g2 : Nat → Nat → Int} (h : rA g g1) (h2 : rA g1 g2) : rA g g2 := fun c j a b => by rw [h2 c j a b, h c j a b]
section FIF
variable {W : ax_W} {r : Nat} {g : Nat → Nat → Int} {Q : Nat → Nat → (Nat → Nat → Int) → Prop} {segs : List (List Int × Int × Int)}
theorem sp_masks {p : Nat} {pl d : Int} (h : LwR (g 149) segs) (hp : p < 8) (hpl : fR pl) (hd : fR d) (kq : ∀ g', rA g g' → g' 148 17 = lwM (mFv (g 149) p pl d) segs 0 → g' 148 18 = (if lwH segs = true then 1 else 0) → g' 148 19 = (if lwO (mFv (g 149) p pl d) segs = true then 1 else 0) → Q 0 0 g') : fx W r 35 302 0 [1186, fI (p : Int), fI pl, fI d, 7, 7] [] g Q := by
  refine fx_rg (fun hg => ?_)
  have rm : ∀ j : Nat, j < 764 → fR (g 149 j) := fun j hj => hgA hg 764 (c := 149) (j := j) (by decide +kernel) hj
  have rf := hg 148 12 (by decide) (by decide +kernel) (by decide +kernel)
  have r1 := rm 1 (by decide)
  have r2 := rm 2 (by decide)
  have r9 := rm 9 (by decide)
  have rc := rm (18 + 7 * p) (by omega)
  have rv := rm (13 + 7 * p) (by omega)
  have rw' := rm (14 + 7 * p) (by omega)
  have rp := rm (16 + 7 * p) (by omega)
  have rl := rm (15 + 7 * p) (by omega)
  unfold fR at rf r1 r2 r9 rc rv rw' rp rl hpl hd
  have hok := h.ok (mFv_78 (g 149) p pl d)
  obtain ⟨hb, h2, h3, h12⟩ := h
  have fin : ∀ (a b : Int) (G : Nat → Nat → Int), a = (if g 149 (16 + 7 * p) = -1 then 0 else 1) → b = (if g 149 (15 + 7 * p) = 3 then 1 else 0) → pLawR (tTx (g 149)) (g 149 2) = Sum.inr segs → G = fu (fu (fu (fu (fu (fu (fu (fu (fu (fu (fu (fu g 148 17 0) 148 18 0) 148 19 0) 154 0 (p : Int)) 154 1 pl) 154 2 d) 154 3 (g 149 (18 + 7 * p))) 154 4 (g 149 (13 + 7 * p))) 154 5 (g 149 (14 + 7 * p))) 154 6 (g 149 9)) 148 15 a) 148 16 b → fx W r 35 302 136 [1186, fI (p : Int), fI pl, fI d, 7, 7] [] G Q := fun a b G ha hb' hlr hG => by
    have gm : ∀ j, G 149 j = g 149 j := fun j => by
      rw [hG, fu_nc (by decide), fu_nc (by decide), fu_nc (by decide), fu_nc (by decide), fu_nc (by decide), fu_nc (by decide), fu_nc (by decide), fu_nc (by decide), fu_nc (by decide), fu_nc (by decide), fu_nc (by decide), fu_nc (by decide)]
    have gf : G 148 12 = g 148 12 := by
      rw [hG]; simp only [fu_app]; rfl
    have g17 : G 148 17 = 0 := by rw [hG]; simp only [fu_app]; rfl
    have g18 : G 148 18 = 0 := by rw [hG]; simp only [fu_app]; rfl
    have g19 : G 148 19 = 0 := by rw [hG]; simp only [fu_app]; rfl
    have gF : fF G = mFv (g 149) p pl d := by
      funext k
      unfold fF mFv
      by_cases k6 : k ≤ 6
      · rw [if_pos k6, Nat.min_eq_left (by omega), hG]
        rcases (by omega : k = 0 ∨ k = 1 ∨ k = 2 ∨ k = 3 ∨ k = 4 ∨ k = 5 ∨ k = 6) with rfl | rfl | rfl | rfl | rfl | rfl | rfl
        all_goals (simp only [fu_app]; rfl)
      · rw [if_neg k6]
        by_cases k7 : k = 7
        · subst k7
          rw [if_pos rfl, hG, fu_nj (by decide), fu_eq, ha]
          rfl
        · rw [if_neg k7, Nat.min_eq_right (by omega), hG, fu_eq, hb']
          rfl
    have g15 : G 148 15 = 0 ∨ G 148 15 = 1 := by
      have e : G 148 15 = a := by rw [hG, fu_nj (by decide), fu_eq]
      rw [e, ha]; split <;> simp
    have g16 : G 148 16 = 0 ∨ G 148 16 = 1 := by
      have e : G 148 16 = b := by rw [hG, fu_eq]
      rw [e, hb']; split <;> simp
    have gx : ∀ c j, c ≠ 154 → ¬ (c = 148 ∧ (15 ≤ j ∧ j ≤ 19)) → G c j = g c j := fun c j h1 h2 => by
      rw [hG, fu_ne (by omega), fu_ne (by omega), fu_nc h1, fu_nc h1, fu_nc h1, fu_nc h1, fu_nc h1, fu_nc h1, fu_nc h1, fu_ne (by omega), fu_ne (by omega), fu_ne (by omega)]
    clear hG
    refine fx_la 0 137 (v := 1186) (by decide +kernel) rfl (by decide +kernel) ?_
    refine fx_gi 1186 148 12 140 (by decide +kernel) ?_
    rw [gf]
    refine fx_si 4 142 (by decide +kernel) (Or.inr (fI_n4 _)) rfl ?_
    dsimp only [List.set]
    refine fx_la 0 143 (v := 1186) (by decide +kernel) rfl (by decide +kernel) ?_
    refine fx_cn (-1) 144 (by decide +kernel) (fun v143 c143 => ?_)
    refine fx_pi 1186 148 12 147 (by decide +kernel) (by unfold fR; omega) ?_
    refine fx_la 0 148 (v := 1186) (by decide +kernel) rfl (by decide +kernel) ?_
    refine fx_ci (364) 151 (by decide +kernel) ?_
    refine fx_pi 1186 148 9 154 (by decide +kernel) (by unfold fR; omega) ?_
    refine fx_la 0 155 (v := 1186) (by decide +kernel) rfl (by decide +kernel) ?_
    refine fx_la 0 156 (v := 1186) (by decide +kernel) rfl (by decide +kernel) ?_
    refine fx_gp 1186 148 1 1194 159 (by decide +kernel) ?_
    refine fx_ci (2) 160 (by decide +kernel) ?_
    refine fx_al 1194 149 764 161 (by decide +kernel) rfl (by omega) (by omega) rfl ?_
    try simp only [fu_app, fcy_app, Nat.reduceEqDiff, and_true, and_false, false_and, true_and, if_true, if_false, ite_true, ite_false, reduceIte, Int.reduceToNat, fx_simp0]
    rw [gm]
    refine fx_pi 1186 148 10 164 (by decide +kernel) (by unfold fR; omega) ?_
    refine fx_la 0 165 (v := 1186) (by decide +kernel) rfl (by decide +kernel) ?_
    refine fx_ci (0) 166 (by decide +kernel) ?_
    refine fx_pi 1186 148 11 169 (by decide +kernel) (by unfold fR; omega) ?_
    refine fx_la 0 170 (v := 1186) (by decide +kernel) rfl (by decide +kernel) ?_
    refine fx_ci (0) 171 (by decide +kernel) ?_
    refine fx_pi 1186 148 13 174 (by decide +kernel) (by unfold fR; omega) ?_
    refine fx_la 0 175 (v := 1186) (by decide +kernel) rfl (by decide +kernel) ?_
    refine fx_ci (1) 176 (by decide +kernel) ?_
    refine fx_c2 269 21 179 34 [7, 7] (by decide +kernel) (by decide) (by decide) (fI_n4 _) rfl (by first | decide | omega) ?_
    refine fx_rg (fun hg2 => ?_)
    have gs : rwS (tTx (g 149)) (g 149 2) (fu (fu (fu (fu (fu G 148 12 v143) 148 9 364) 148 10 (g 149 2)) 148 11 0) 148 13 0) (fu (fu (fu (fu (fu G 148 12 v143) 148 9 364) 148 10 (g 149 2)) 148 11 0) 148 13 0) (pSk (tTx (g 149)) (g 149 2) 0) 0 := by
      refine ⟨⟨by rw [fu_nj (by decide), fu_nj (by decide), fu_eq], h2.1, h2.2, Or.inr (by rw [fu_nj (by decide), fu_nj (by decide), fu_nj (by decide), fu_eq]), fun k k0 k1 => ?_⟩, by rw [fu_nj (by decide), fu_eq]; decide, by rw [fu_nj (by decide), fu_eq]; exact h2.1, by rw [fu_nj (by decide), fu_eq], by rw [fu_nj (by decide), fu_nj (by decide), fu_nj (by decide), fu_nj (by decide), fu_eq, c143], fu_eq _ _ _ _, rX.rf⟩
      have e : flt (fu (fu (fu (fu (fu G 148 12 v143) 148 9 364) 148 10 (g 149 2)) 148 11 0) 148 13 0) k = tTx (g 149) k := by
        unfold flt tTx
        have eb : fu (fu (fu (fu (fu G 148 12 v143) 148 9 364) 148 10 (g 149 2)) 148 11 0) 148 13 0 148 9 = 364 := by rw [fu_nj (by decide), fu_nj (by decide), fu_nj (by decide), fu_eq]
        rw [eb, if_neg (by decide), fu_nc (by decide), fu_nc (by decide), fu_nc (by decide), fu_nc (by decide), fu_nc (by decide), gm, show (364 + k).toNat = 364 + k.toNat by omega]
      rw [e]
      have := hb k.toNat (by omega)
      exact ⟨rfl, this⟩
    generalize eH : fu (fu (fu (fu (fu G 148 12 v143) 148 9 364) 148 10 (g 149 2)) 148 11 0) 148 13 0 = H at gs ⊢
    have hx : ∀ c j, ¬ (c = 148 ∧ (j = 9 ∨ j = 10 ∨ j = 11 ∨ j = 12 ∨ j = 13)) → H c j = G c j := fun c j h => by
      rw [← eH, fu_ne (by omega), fu_ne (by omega), fu_ne (by omega), fu_ne (by omega), fu_ne (by omega)]
    have hF : fF H = mFv (g 149) p pl d := by
      rw [← gF]
      funext k
      unfold fF
      by_cases k6 : k ≤ 6
      · rw [if_pos k6, if_pos k6]
        exact hx 154 k (fun t => absurd t.1 (by decide))
      · rw [if_neg k6, if_neg k6, hx _ _ (by decide), hx _ _ (by decide)]
    refine sp_mreadL (by rw [hx _ _ (by decide)]; exact g15) (by rw [hx _ _ (by decide)]; exact g16) gs (fun sg e g' x1 x2 => fK1 ?_) (fun q e => absurd (hlr.symm.trans e) (fun t => nomatch t))
    have e2 : sg = segs := by
      have := hlr.symm.trans e
      cases this
      rfl
    subst e2
    rw [hF] at x1
    obtain ⟨q1, q2, q3⟩ := fSg_all (F := mFv (g 149) p pl d) sg H (fun s hs => (hok s hs).2) h12 (by rw [hx _ _ (by decide), g18]; exact Or.inl rfl) (by rw [hx _ _ (by decide), g19]; exact Or.inl rfl) (by rw [hx _ _ (by decide), g17]; omega) (by rw [hx _ _ (by decide), g17]; omega)
    have e17 : H 148 17 = 0 := by rw [hx _ _ (by decide), g17]
    have e18 : H 148 18 = 0 := by rw [hx _ _ (by decide), g18]
    have e19 : H 148 19 = 0 := by rw [hx _ _ (by decide), g19]
    rw [e17] at q1
    rw [e18] at q2
    rw [e19] at q3
    simp only [show ((0 : Int) = 1) = False from eq_false (by decide), false_or] at q2 q3
    have xr : ∀ c j, ¬ (c = 148 ∧ (j = 9 ∨ j = 10 ∨ j = 11 ∨ j = 12 ∨ j = 13 ∨ j = 17 ∨ j = 18 ∨ j = 19)) → g' c j = G c j := fun c j h => by
      rw [x1 c j (by omega), fSg_Y sg H c j (by omega), hx c j (by omega)]
    have y17 : g' 148 17 = lwM (mFv (g 149) p pl d) sg 0 := by rw [x1 _ _ (by decide), q1]
    have y18 : g' 148 18 = (if lwH sg = true then 1 else 0) := by rw [x1 _ _ (by decide), q2]
    have y19 : g' 148 19 = (if lwO (mFv (g 149) p pl d) sg = true then 1 else 0) := by rw [x1 _ _ (by decide), q3]
    refine fx_si 5 181 (by decide +kernel) (Or.inr (fI_n4 _)) rfl ?_
    dsimp only [List.set]
    refine fx_la 0 182 (v := 1186) (by decide +kernel) rfl (by decide +kernel) ?_
    refine fx_li 4 184 (by decide +kernel) rfl ?_
    refine fx_pi 1186 148 12 187 (by decide +kernel) (by first | exact hg 148 12 (by decide) (by decide +kernel) (by decide +kernel) | (unfold fR; omega)) ?_
    refine fx_vret (by decide +kernel) ?_
    refine kq _ (fun c j a b => ?_) ?_ ?_ ?_
    · by_cases f12 : c = 148 ∧ j = 12
      · obtain ⟨rfl, rfl⟩ := f12
        rw [fu_eq]
      · rw [fu_ne f12, xr c j (by omega), gx c j a (by omega)]
    · rw [fu_nj (by decide)]; exact y17
    · rw [fu_nj (by decide)]; exact y18
    · rw [fu_nj (by decide)]; exact y19
  refine fx_la 0 1 (v := 1186) (by decide +kernel) rfl (by decide +kernel) ?_
  refine fx_ci (0) 2 (by decide +kernel) ?_
  refine fx_pi 1186 148 17 5 (by decide +kernel) (by unfold fR; omega) ?_
  refine fx_la 0 6 (v := 1186) (by decide +kernel) rfl (by decide +kernel) ?_
  refine fx_ci (0) 7 (by decide +kernel) ?_
  refine fx_pb 1186 148 18 10 (by decide +kernel) (by first | exact Or.inl rfl | exact Or.inr rfl | omega) ?_
  refine fx_la 0 11 (v := 1186) (by decide +kernel) rfl (by decide +kernel) ?_
  refine fx_ci (0) 12 (by decide +kernel) ?_
  refine fx_pb 1186 148 19 15 (by decide +kernel) (by first | exact Or.inl rfl | exact Or.inr rfl | omega) ?_
  refine fx_la 0 16 (v := 1186) (by decide +kernel) rfl (by decide +kernel) ?_
  refine fx_gp 1186 148 1 1194 19 (by decide +kernel) ?_
  refine fx_ci (1) 20 (by decide +kernel) ?_
  refine fx_al 1194 149 764 21 (by decide +kernel) rfl (by omega) (by omega) rfl ?_
  try simp only [fu_app, fcy_app, Nat.reduceEqDiff, and_true, and_false, false_and, true_and, if_true, if_false, ite_true, ite_false, reduceIte, Int.reduceToNat, fx_simp0]
  refine fx_ci (1) 22 (by decide +kernel) ?_
  refine fx_ige 26 25 (by decide +kernel) (by unfold fR; omega) (by unfold fR; omega) (fun h22 => ?_) (fun h22 => ?_)
  · have hlr : pLawR (tTx (g 149)) (g 149 2) = Sum.inr segs := by
      rcases h3 with ⟨e, -⟩ | ⟨e, -⟩
      · exfalso; omega
      · exact e
    refine fx_la 0 27 (v := 1186) (by decide +kernel) rfl (by decide +kernel) ?_
    refine fx_gp 1186 148 14 1234 30 (by decide +kernel) ?_
    refine fx_ci (0) 31 (by decide +kernel) ?_
    refine fx_li 1 32 (by decide +kernel) rfl ?_
    refine fx_as 1234 154 7 33 (by decide +kernel) rfl (by omega) (by omega) rfl (by unfold fR; omega) ?_
    refine fx_la 0 34 (v := 1186) (by decide +kernel) rfl (by decide +kernel) ?_
    refine fx_gp 1186 148 14 1234 37 (by decide +kernel) ?_
    refine fx_ci (1) 38 (by decide +kernel) ?_
    refine fx_li 2 39 (by decide +kernel) rfl ?_
    refine fx_as 1234 154 7 40 (by decide +kernel) rfl (by omega) (by omega) rfl (by unfold fR; omega) ?_
    refine fx_la 0 41 (v := 1186) (by decide +kernel) rfl (by decide +kernel) ?_
    refine fx_gp 1186 148 14 1234 44 (by decide +kernel) ?_
    refine fx_ci (2) 45 (by decide +kernel) ?_
    refine fx_li 3 46 (by decide +kernel) rfl ?_
    refine fx_as 1234 154 7 47 (by decide +kernel) rfl (by omega) (by omega) rfl (by unfold fR; omega) ?_
    refine fx_la 0 48 (v := 1186) (by decide +kernel) rfl (by decide +kernel) ?_
    refine fx_gp 1186 148 14 1234 51 (by decide +kernel) ?_
    refine fx_ci (3) 52 (by decide +kernel) ?_
    refine fx_la 0 53 (v := 1186) (by decide +kernel) rfl (by decide +kernel) ?_
    refine fx_li 1 54 (by decide +kernel) rfl ?_
    refine fx_ci (6) 56 (by decide +kernel) ?_
    refine fx_c3 298 21 59 0 [] (by decide +kernel) (by decide) (by decide) (fI_n4 _) (fI_n4 _) rfl (by first | decide | omega) ?_
    refine sp_mof (w := 6) hp (by decide) (fK1 ?_)
    rw [show 12 + 7 * p + 6 = 18 + 7 * p by omega]
    simp only [fu_app, Nat.reduceEqDiff, and_true, and_false, false_and, true_and, if_true, if_false, ite_true, ite_false, reduceIte]
    refine fx_as 1234 154 7 60 (by decide +kernel) rfl (by omega) (by omega) rfl (by unfold fR; omega) ?_
    refine fx_la 0 61 (v := 1186) (by decide +kernel) rfl (by decide +kernel) ?_
    refine fx_gp 1186 148 14 1234 64 (by decide +kernel) ?_
    refine fx_ci (4) 65 (by decide +kernel) ?_
    refine fx_la 0 66 (v := 1186) (by decide +kernel) rfl (by decide +kernel) ?_
    refine fx_li 1 67 (by decide +kernel) rfl ?_
    refine fx_ci (1) 68 (by decide +kernel) ?_
    refine fx_c3 298 21 71 0 [] (by decide +kernel) (by decide) (by decide) (fI_n4 _) (fI_n4 _) rfl (by first | decide | omega) ?_
    refine sp_mof (w := 1) hp (by decide) (fK1 ?_)
    rw [show 12 + 7 * p + 1 = 13 + 7 * p by omega]
    simp only [fu_app, Nat.reduceEqDiff, and_true, and_false, false_and, true_and, if_true, if_false, ite_true, ite_false, reduceIte]
    refine fx_as 1234 154 7 72 (by decide +kernel) rfl (by omega) (by omega) rfl (by unfold fR; omega) ?_
    refine fx_la 0 73 (v := 1186) (by decide +kernel) rfl (by decide +kernel) ?_
    refine fx_gp 1186 148 14 1234 76 (by decide +kernel) ?_
    refine fx_ci (5) 77 (by decide +kernel) ?_
    refine fx_la 0 78 (v := 1186) (by decide +kernel) rfl (by decide +kernel) ?_
    refine fx_li 1 79 (by decide +kernel) rfl ?_
    refine fx_ci (2) 80 (by decide +kernel) ?_
    refine fx_c3 298 21 83 0 [] (by decide +kernel) (by decide) (by decide) (fI_n4 _) (fI_n4 _) rfl (by first | decide | omega) ?_
    refine sp_mof (w := 2) hp (by decide) (fK1 ?_)
    rw [show 12 + 7 * p + 2 = 14 + 7 * p by omega]
    simp only [fu_app, Nat.reduceEqDiff, and_true, and_false, false_and, true_and, if_true, if_false, ite_true, ite_false, reduceIte]
    refine fx_as 1234 154 7 84 (by decide +kernel) rfl (by omega) (by omega) rfl (by unfold fR; omega) ?_
    refine fx_la 0 85 (v := 1186) (by decide +kernel) rfl (by decide +kernel) ?_
    refine fx_gp 1186 148 14 1234 88 (by decide +kernel) ?_
    refine fx_ci (6) 90 (by decide +kernel) ?_
    refine fx_la 0 91 (v := 1186) (by decide +kernel) rfl (by decide +kernel) ?_
    refine fx_gp 1186 148 1 1194 94 (by decide +kernel) ?_
    refine fx_ci (9) 96 (by decide +kernel) ?_
    refine fx_al 1194 149 764 97 (by decide +kernel) rfl (by omega) (by omega) rfl ?_
    try simp only [fu_app, fcy_app, Nat.reduceEqDiff, and_true, and_false, false_and, true_and, if_true, if_false, ite_true, ite_false, reduceIte, Int.reduceToNat, fx_simp0]
    refine fx_as 1234 154 7 98 (by decide +kernel) rfl (by omega) (by omega) rfl (by unfold fR; omega) ?_
    refine fx_la 0 99 (v := 1186) (by decide +kernel) rfl (by decide +kernel) ?_
    refine fx_la 0 100 (v := 1186) (by decide +kernel) rfl (by decide +kernel) ?_
    refine fx_li 1 101 (by decide +kernel) rfl ?_
    refine fx_ci (4) 102 (by decide +kernel) ?_
    refine fx_c3 298 21 105 0 [] (by decide +kernel) (by decide) (by decide) (fI_n4 _) (fI_n4 _) rfl (by first | decide | omega) ?_
    refine sp_mof (w := 4) hp (by decide) (fK1 ?_)
    rw [show 12 + 7 * p + 4 = 16 + 7 * p by omega]
    simp only [fu_app, Nat.reduceEqDiff, and_true, and_false, false_and, true_and, if_true, if_false, ite_true, ite_false, reduceIte]
    refine fx_cn (-1) 106 (by decide +kernel) (fun v105 c105 => ?_)
    refine fx_ieq 113 109 (by decide +kernel) (by unfold fR; omega) (by unfold fR; omega) (fun h106 => ?_) (fun h106 => ?_)
    · refine fx_ci (0) 114 (by decide +kernel) ?_
      refine fx_pb 1186 148 15 117 (by decide +kernel) (by first | exact Or.inl rfl | exact Or.inr rfl | omega) ?_
      refine fx_la 0 118 (v := 1186) (by decide +kernel) rfl (by decide +kernel) ?_
      refine fx_la 0 119 (v := 1186) (by decide +kernel) rfl (by decide +kernel) ?_
      refine fx_li 1 120 (by decide +kernel) rfl ?_
      refine fx_ci (3) 121 (by decide +kernel) ?_
      refine fx_c3 298 21 124 0 [] (by decide +kernel) (by decide) (by decide) (fI_n4 _) (fI_n4 _) rfl (by first | decide | omega) ?_
      refine sp_mof (w := 3) hp (by decide) (fK1 ?_)
      rw [show 12 + 7 * p + 3 = 15 + 7 * p by omega]
      simp only [fu_app, Nat.reduceEqDiff, and_true, and_false, false_and, true_and, if_true, if_false, ite_true, ite_false, reduceIte]
      refine fx_ci (3) 125 (by decide +kernel) ?_
      refine fx_ine 132 128 (by decide +kernel) (by unfold fR; omega) (by unfold fR; omega) (fun h125 => ?_) (fun h125 => ?_)
      · refine fx_ci (0) 133 (by decide +kernel) ?_
        refine fx_pb 1186 148 16 136 (by decide +kernel) (by first | exact Or.inl rfl | exact Or.inr rfl | omega) ?_
        exact fin _ _ _ (by rw [if_pos (by omega)]) (by rw [if_neg (by omega)]) hlr rfl
      · refine fx_ci (1) 129 (by decide +kernel) ?_
        refine fx_go 133 (by decide +kernel) ?_
        refine fx_pb 1186 148 16 136 (by decide +kernel) (by first | exact Or.inl rfl | exact Or.inr rfl | omega) ?_
        exact fin _ _ _ (by rw [if_pos (by omega)]) (by rw [if_pos (by omega)]) hlr rfl
    · refine fx_ci (1) 110 (by decide +kernel) ?_
      refine fx_go 114 (by decide +kernel) ?_
      refine fx_pb 1186 148 15 117 (by decide +kernel) (by first | exact Or.inl rfl | exact Or.inr rfl | omega) ?_
      refine fx_la 0 118 (v := 1186) (by decide +kernel) rfl (by decide +kernel) ?_
      refine fx_la 0 119 (v := 1186) (by decide +kernel) rfl (by decide +kernel) ?_
      refine fx_li 1 120 (by decide +kernel) rfl ?_
      refine fx_ci (3) 121 (by decide +kernel) ?_
      refine fx_c3 298 21 124 0 [] (by decide +kernel) (by decide) (by decide) (fI_n4 _) (fI_n4 _) rfl (by first | decide | omega) ?_
      refine sp_mof (w := 3) hp (by decide) (fK1 ?_)
      rw [show 12 + 7 * p + 3 = 15 + 7 * p by omega]
      simp only [fu_app, Nat.reduceEqDiff, and_true, and_false, false_and, true_and, if_true, if_false, ite_true, ite_false, reduceIte]
      refine fx_ci (3) 125 (by decide +kernel) ?_
      refine fx_ine 132 128 (by decide +kernel) (by unfold fR; omega) (by unfold fR; omega) (fun h125 => ?_) (fun h125 => ?_)
      · refine fx_ci (0) 133 (by decide +kernel) ?_
        refine fx_pb 1186 148 16 136 (by decide +kernel) (by first | exact Or.inl rfl | exact Or.inr rfl | omega) ?_
        exact fin _ _ _ (by rw [if_neg (by omega)]) (by rw [if_neg (by omega)]) hlr rfl
      · refine fx_ci (1) 129 (by decide +kernel) ?_
        refine fx_go 133 (by decide +kernel) ?_
        refine fx_pb 1186 148 16 136 (by decide +kernel) (by first | exact Or.inl rfl | exact Or.inr rfl | omega) ?_
        exact fin _ _ _ (by rw [if_neg (by omega)]) (by rw [if_pos (by omega)]) hlr rfl
  · refine fx_vret (by decide +kernel) ?_
    have s0 : segs = [] := by
      rcases h3 with ⟨-, e⟩ | ⟨-, e⟩
      · exact e
      · exact List.length_eq_zero_iff.mp (by omega)
    subst s0
    refine kq _ (fun c j a b => ?_) ?_ ?_ ?_
    · rw [fu_ne (by omega), fu_ne (by omega), fu_ne (by omega)]
    · rw [fu_nj (by decide), fu_nj (by decide), fu_eq]; rfl
    · rw [fu_nj (by decide), fu_eq]; rfl
    · rw [fu_eq]; rfl
end FIF
end
