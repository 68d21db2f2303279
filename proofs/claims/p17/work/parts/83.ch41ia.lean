/-! fx: the law's text: bytes behind its end don't count -/
section IA
variable {T T' : Int → Int} {E : Int}
theorem spn_x {p p' : Int → Bool} : ∀ (n : Nat) (i : Int), (∀ k, i ≤ k → k < i + n → p k = p' k) → spn p n i = spn p' n i
  | 0, _, _ => rfl
  | n + 1, i, h => by
    show (if p i = true then spn p n (i + 1) else i) = (if p' i = true then spn p' n (i + 1) else i)
    rw [h i (by omega) (by omega), spn_x n (i + 1) (fun k h1 h2 => h k (by omega) (by omega))]
theorem prun_x {p p' : Int → Bool} (h : ∀ k, k < E → p k = p' k) (i : Int) : prun p E i = prun p' E i := by
  unfold prun
  exact spn_x _ i (fun k h1 h2 => h k (by omega))
theorem sk_x (h : ∀ k, k < E → T k = T' k) (i : Int) : prun (isSp T) E i = prun (isSp T') E i := prun_x (fun k hk => by unfold isSp; rw [h k hk]) i
theorem we_x (h : ∀ k, k < E → T k = T' k) (i : Int) : prun (isLe T) E i = prun (isLe T') E i := prun_x (fun k hk => by unfold isLe; rw [h k hk]) i
theorem dg_x (h : ∀ k, k < E → T k = T' k) (i : Int) : prun (isDi T) E i = prun (isDi T') E i := prun_x (fun k hk => by unfold isDi; rw [h k hk]) i
theorem prun_hi {p : Int → Bool} {i : Int} (h : i < prun p E i) : prun p E i ≤ E := by
  by_cases e : i ≤ E
  · exact prun_le e
  · rw [prun_stop (by omega)] at h; omega
theorem wd_x (h : ∀ k, k < E → T k = T' k) (ws : List Nat) (f : Int) : pWd T E ws f = pWd T' E ws f := by
  unfold pWd pWe
  rw [we_x h f]
  refine propext ⟨fun ⟨a, b⟩ => ⟨a, fun k hk => ?_⟩, fun ⟨a, b⟩ => ⟨a, fun k hk => ?_⟩⟩
  · have := prun_hi (p := isLe T') (E := E) (i := f) (by omega)
    rw [← h (f + k) (by omega)]; exact b k hk
  · have := prun_hi (p := isLe T') (E := E) (i := f) (by omega)
    rw [h (f + k) (by omega)]; exact b k hk
theorem nv_x (h : ∀ k, k < E → T k = T' k) (f : Int) : ∀ n : Nat, f + n ≤ E → nv T f n = nv T' f n
  | 0, _ => rfl
  | n + 1, hn => by
    show 10 * nv T f n + T (f + n) - 48 = 10 * nv T' f n + T' (f + n) - 48
    rw [nv_x h f n (by omega), h (f + n) (by omega)]
theorem nu_x (h : ∀ k, k < E → T k = T' k) (f : Int) : nv T f (prun (isDi T) E f - f).toNat = nv T' f (prun (isDi T') E f - f).toNat := by
  rw [dg_x h f]
  have g1 : f ≤ prun (isDi T') E f := prun_ge
  by_cases e : f < prun (isDi T') E f
  · have := prun_hi (p := isDi T') (E := E) (i := f) e
    exact nv_x h f _ (by omega)
  · rw [show (prun (isDi T') E f - f).toNat = 0 by omega]; rfl
theorem pN_x (h : ∀ k, k < E → T k = T' k) (lo hi f : Int) : pN T E lo hi f = pN T' E lo hi f := by
  unfold pN pDg
  rw [nu_x h f, dg_x h f]
theorem sg_x (h : ∀ k, k < E → T k = T' k) (z f : Int) : pSg T E z f = pSg T' E z f := by
  unfold pSg
  refine propext ⟨fun ⟨a, b⟩ => ⟨a, ?_⟩, fun ⟨a, b⟩ => ⟨a, ?_⟩⟩
  · rw [← h f a]; exact b
  · rw [h f a]; exact b
theorem fact_x (h : ∀ k, k < E → T k = T' k) (f : Int) : pFact T E f = pFact T' E f := by
  unfold pFact
  simp only [wd_x h]
theorem part_x (h : ∀ k, k < E → T k = T' k) (f : Int) : pPart T E f = pPart T' E f := by
  unfold pPart pNu pSk pWe pDg
  rw [nu_x h f]
  simp only [fact_x h, pN_x h, sk_x h, we_x h, dg_x h]
theorem sum_x (h : ∀ k, k < E → T k = T' k) : ∀ (n : Nat) (f : Int) (c : List Int) (j : Bool), pSum T E n f c j = pSum T' E n f c j
  | 0, _, _, _ => rfl
  | n + 1, f, c, j => by
    show bS (pPart T E f) (fun a => cif (pSg T E 43 a.1) (pSum T E n (pSk T E (a.1 + 1)) (c ++ (a.2 :: cond j [2000] [])) true) (Sum.inr (a.1, c ++ (a.2 :: cond j [2000] [])))) = bS (pPart T' E f) (fun a => cif (pSg T' E 43 a.1) (pSum T' E n (pSk T' E (a.1 + 1)) (c ++ (a.2 :: cond j [2000] [])) true) (Sum.inr (a.1, c ++ (a.2 :: cond j [2000] []))))
    simp only [part_x h, sg_x h, sk_x h, sum_x h n]
theorem cd_x (h : ∀ k, k < E → T k = T' k) : ∀ (n k : Nat) (d f : Int) (c : List Int) (j : Bool), pCd T E n k d f c j = pCd T' E n k d f c j
  | 0, _, _, _, _, _ => rfl
  | n + 1, 0, d, f, c, j => by
    have ih := cd_x h n
    simp only [pCd, sg_x h, wd_x h, sk_x h, we_x h, sum_x h, ih]
  | n + 1, 1, d, f, c, j => by
    have ih := cd_x h n
    simp only [pCd, sg_x h, wd_x h, sk_x h, we_x h, sum_x h, ih]
  | n + 1, k + 2, d, f, c, j => by
    have ih := cd_x h n
    simp only [pCd, sg_x h, wd_x h, sk_x h, we_x h, sum_x h, ih]
theorem kind_x (h : ∀ k, k < E → T k = T' k) (f : Int) : pKind T E f = pKind T' E f := by
  unfold pKind
  simp only [wd_x h]
theorem if_x (h : ∀ k, k < E → T k = T' k) (f : Int) (c : List Int) (k a : Int) : pIf T E f c k a = pIf T' E f c k a := by
  unfold pIf pSk pWe
  simp only [wd_x h, sk_x h, we_x h, cd_x h]
theorem ll_x (h : ∀ k, k < E → T k = T' k) (f : Int) (c : List Int) : pLL T E f c = pLL T' E f c := by
  unfold pLL pNu pSk pWe pDg
  simp only [nu_x h]
  simp only [kind_x h, pN_x h, if_x h, sk_x h, we_x h, dg_x h]
theorem ok_x (h : ∀ k, k < E → T k = T' k) (f : Int) : pOk T E f = pOk T' E f := by
  unfold pOk pSk
  simp only [sk_x h]
theorem seg_x (h : ∀ k, k < E → T k = T' k) : ∀ (n : Nat) (f : Int), pOk T E f → pSeg T E n f = pSeg T' E n f
  | 0, _, _ => rfl
  | n + 1, f, hf => by
    show bS (pLL T E f []) (fun a => if a.1 = E then Sum.inr [a.2] else if T a.1 = 59 then bS (pSeg T E n (pSk T E (a.1 + 1))) (fun r => Sum.inr (a.2 :: r)) else Sum.inl a.1) = bS (pLL T' E f []) (fun a => if a.1 = E then Sum.inr [a.2] else if T' a.1 = 59 then bS (pSeg T' E n (pSk T' E (a.1 + 1))) (fun r => Sum.inr (a.2 :: r)) else Sum.inl a.1)
    rw [← ll_x h f []]
    cases q : pLL T E f [] with
    | inl q => rw [bS_l, bS_l]
    | inr a =>
      obtain ⟨f1, d, kd, am⟩ := a
      rw [bS_r, bS_r]
      obtain ⟨o1, o2, -⟩ := pLL_ok q hf (by have := hf.1; show (0 : Int) ≤ f; exact this)
      show (if f1 = E then Sum.inr [(d, kd, am)] else if T f1 = 59 then bS (pSeg T E n (pSk T E (f1 + 1))) (fun r => Sum.inr ((d, kd, am) :: r)) else Sum.inl f1 : Int ⊕ List (List Int × Int × Int)) = if f1 = E then Sum.inr [(d, kd, am)] else if T' f1 = 59 then bS (pSeg T' E n (pSk T' E (f1 + 1))) (fun r => Sum.inr ((d, kd, am) :: r)) else Sum.inl f1
      by_cases x : f1 = E
      · rw [if_pos x, if_pos x]
      · rw [if_neg x, if_neg x, ← h f1 (by have := o1.2.1; omega)]
        by_cases x2 : T f1 = 59
        · rw [if_pos x2, if_pos x2]
          have o3 : pOk T E (pSk T E (f1 + 1)) := pOk_sk (by have := o1.1; omega) (by have := o1.2.1; omega)
          rw [seg_x h n _ o3]
          unfold pSk
          rw [sk_x h]
        · rw [if_neg x2, if_neg x2]
theorem lawR_x (h : ∀ k, k < E → T k = T' k) (hE : 0 ≤ E) : pLawR T E = pLawR T' E := by
  unfold pLawR
  have o : pOk T E (pSk T E 0) := pOk_sk (Int.le_refl 0) hE
  rw [seg_x h 12 _ o]
  unfold pSk
  rw [sk_x h]
end IA
