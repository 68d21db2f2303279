/-! fx: the lines of the house, as the reference reads them -/
theorem fop_R (o : Nat) (x y : Int) : fR (fop o x y) := by
  unfold fop fR
  have h1 := Int32.le_toInt (sx_bf o (Int32.ofInt x) (Int32.ofInt y))
  have h2 := Int32.toInt_lt (sx_bf o (Int32.ofInt x) (Int32.ofInt y))
  omega
section FXM
variable {W : ax_W} {r : Nat} {g : Nat → Nat → Int} {Q : Nat → Nat → (Nat → Nat → Int) → Prop} {T : Int → Int} {E : Int}
theorem sp_personLine {b f : Int} (h : RT T E g) (hf : g 148 12 = -1) (h0 : 0 ≤ g 148 11) (h4 : g 148 11 ≤ E) (hsk : pSk T E (g 148 11) = f) (hp0 : 0 ≤ g 149 3) (hp1 : g 149 3 ≤ 8) (hb0 : 0 ≤ b) (hb1 : b ≤ 400)
    (k8 : g 149 3 = 8 → ∀ a, 0 ≤ a → a ≤ E → Q 0 0 (fu (fu g 148 11 a) 148 12 b))
    (kq : g 149 3 ≠ 8 → ∀ f' w pl v l, pPerson T E f = Sum.inr (f', [0, w, pl, v, l]) → ∀ a, 0 ≤ a → a ≤ E → pSk T E a = f' → Q 0 0 (apP (fu g 148 11 a) w pl v l))
    (kf : g 149 3 ≠ 8 → ∀ q, pPerson T E f = Sum.inl q → ∀ a, 0 ≤ a → a ≤ E → Q 0 0 (fu (fu g 148 11 a) 148 12 q)) : fx W r 6 286 0 [1186, fI b, 7, 7, 7, 7, 7] [] g Q := by
  have aE := h.2.1
  have a3 := h.2.2.1
  refine fx_rg (fun hg => ?_)
  have f0 := pSk_ge T E (g 148 11)
  have f1 := pSk_le (T := T) h4
  have f2 : 0 ≤ f ∧ f ≤ E ∧ pSk T E f = f := by subst hsk; exact ⟨by omega, f1, pSk_id h4⟩
  obtain ⟨f2, f3, f4⟩ := f2
  have w0 := pWe_ge T E f
  have w1 := pWe_le (T := T) f3
  have s0 := pSk_ge T E (pWe T E f)
  have s1 := pSk_le (T := T) w1
  have n0 := pDg_ge T E (pSk T E (pWe T E f))
  have n1 := pDg_le (T := T) s1
  refine fx_la 0 1 (v := 1186) (by decide +kernel) rfl (by decide +kernel) ?_
  refine fx_gp 1186 148 1 1194 4 (by decide +kernel) ?_
  refine fx_ci (3) 5 (by decide +kernel) ?_
  refine fx_al 1194 149 764 6 (by decide +kernel) rfl (by omega) (by omega) rfl ?_
  try simp only [fu_app, fcy_app, Nat.reduceEqDiff, and_true, and_false, false_and, true_and, if_true, if_false, ite_true, ite_false, reduceIte, Int.reduceToNat, fx_simp0]
  refine fx_ci (8) 8 (by decide +kernel) ?_
  refine fx_ine 16 11 (by decide +kernel) (by unfold fR; omega) (by unfold fR; omega) (fun h8 => ?_) (fun h8 => ?_)
  · refine fx_la 0 17 (v := 1186) (by decide +kernel) rfl (by decide +kernel) ?_
    refine fx_lds 493 19 (by decide +kernel) ?_
    refine fx_ci (1) 20 (by decide +kernel) ?_
    refine fx_ci (99) 22 (by decide +kernel) ?_
    refine fx_c4 287 21 25 5 [] (by decide +kernel) (by decide) (by decide) (by decide) (fI_n4 _) (fI_n4 _) rfl (by first | decide | omega) ?_
    refine sp_after h (f_sw (ws := [119, 101, 105, 103, 104, 116]) (by decide +kernel)).1 hf h0 h4 (by unfold fR; omega) (by unfold fR; omega) (fun p a v q1 q2 q3 => fK1 ?_) (fun c hc p1 p2 => fK1 ?_) (fun c hc p1 p2 a v q1 q2 q3 => fK1 ?_)
    · rw [(f_sw (ws := [119, 101, 105, 103, 104, 116]) (by decide +kernel)).2, hsk] at p
      rw [hsk]
      refine fx_si 2 26 (by decide +kernel) (Or.inr (fI_n4 _)) rfl ?_
      dsimp only [List.set]
      refine sp_pl_fA (by rw [fu_eq]; omega) ?_
      exact kf h8 _ (by unfold pPerson; rw [cif_f p]) a q1 q2
    · rw [(f_sw (ws := [119, 101, 105, 103, 104, 116]) (by decide +kernel)).2, hsk] at p1
      rw [hsk] at hc
      refine fx_si 2 26 (by decide +kernel) (Or.inr (fI_n4 _)) rfl ?_
      dsimp only [List.set]
      subst hc
      have e0 : pPerson T E f = bS (pOpt T E [97, 116] 0 7 (-1) (pSk T E (pDg T E (pSk T E (pWe T E f))))) (fun a => bS (pOpt T E [118, 111, 116, 101] 0 20 1 a.1) (fun b => bS (pOpt T E [108, 101, 103, 115] 3 4 4 b.1) (fun c => Sum.inr (c.1, [0, pNu T E (pSk T E (pWe T E f)), a.2, b.2, c.2])))) := by
        unfold pPerson
        rw [cif_t p1, cif_t p2]
      have hR : ∀ a, RT T E (fu g 148 11 a) := fun a => RT_fu h (by decide) (by decide)
      have hF : ∀ a, fu g 148 11 a 148 12 = -1 := fun a => by rw [fu_nj (by decide)]; exact hf
      have hA : ∀ a, fu g 148 11 a 148 11 = a := fun a => fu_eq _ _ _ _
      have nw := p2.2.2
      refine sp_pl_A (hR _) (hF _) (by rw [hA]; omega) (by rw [hA]; omega) (by rw [hA]) (fun f3' pl o1 r1 a b1 b2 b3 => ?_) (fun q o1 a b1 b2 => ?_)
      · rw [fu_fu]
        refine sp_pl_B (f := f3') (hR _) (hF _) (by rw [hA]; omega) (by rw [hA]; omega) (by rw [hA]; exact b3) (fun f4' v o2 r2 a b1 b2 b3 => ?_) (fun q o2 a b1 b2 => ?_)
        · rw [fu_fu]
          refine sp_pl_C (f := f4') (hR _) (hF _) (by rw [hA]; omega) (by rw [hA]; omega) (by rw [hA]; exact b3) (fun f5' l o3 r3 a b1 b2 b3 => ?_) (fun q o3 a b1 b2 => ?_)
          · rw [fu_fu]
            refine sp_pl_D (hF _) (by rw [fu_nc (by decide)]; omega) (by rw [fu_nc (by decide)]; omega) (by unfold fR; omega) r1 r2 r3 ?_
            exact kq h8 f5' _ pl v l (by rw [e0, o1]; show bS (pOpt T E _ 0 20 1 f3') _ = _; rw [o2]; show bS (pOpt T E _ 3 4 4 f4') _ = _; rw [o3]; rfl) a b1 b2 b3
          · rw [fu_fu]
            exact kf h8 q (by rw [e0, o1]; show bS (pOpt T E _ 0 20 1 f3') _ = _; rw [o2]; show bS (pOpt T E _ 3 4 4 f4') _ = _; rw [o3]; rfl) a b1 b2
        · rw [fu_fu]
          exact kf h8 q (by rw [e0, o1]; show bS (pOpt T E _ 0 20 1 f3') _ = _; rw [o2]; rfl) a b1 b2
      · rw [fu_fu]
        exact kf h8 q (by rw [e0, o1]; rfl) a b1 b2
    · rw [(f_sw (ws := [119, 101, 105, 103, 104, 116]) (by decide +kernel)).2, hsk] at p1
      rw [hsk] at hc
      refine fx_si 2 26 (by decide +kernel) (Or.inr (fI_n4 _)) rfl ?_
      dsimp only [List.set]
      refine sp_pl_fA (by rw [fu_eq]; omega) ?_
      subst hc
      exact kf h8 _ (by unfold pPerson; rw [cif_t p1, cif_f p2]) a q1 q2
  · refine fx_la 0 12 (v := 1186) (by decide +kernel) rfl (by decide +kernel) ?_
    refine fx_li 1 13 (by decide +kernel) rfl ?_
    refine fx_c2 273 21 16 0 [] (by decide +kernel) (by decide) (by decide) (fI_n4 _) rfl (by first | decide | omega) ?_
    refine sp_wrong hf (by unfold fR; omega) (fK0 ?_)
    refine fx_la 0 17 (v := 1186) (by decide +kernel) rfl (by decide +kernel) ?_
    refine fx_lds 493 19 (by decide +kernel) ?_
    refine fx_ci (1) 20 (by decide +kernel) ?_
    refine fx_ci (99) 22 (by decide +kernel) ?_
    refine fx_c4 287 21 25 5 [] (by decide +kernel) (by decide) (by decide) (by decide) (fI_n4 _) (fI_n4 _) rfl (by first | decide | omega) ?_
    refine sp_after_f (f_sw (ws := [119, 101, 105, 103, 104, 116]) (by decide +kernel)).1 (by rw [fu_eq]; omega) (fK1 ?_)
    refine fx_si 2 26 (by decide +kernel) (Or.inr (fI_n4 _)) rfl ?_
    dsimp only [List.set]
    refine sp_pl_fA (by rw [fu_eq]; omega) ?_
    have k8 := k8 h8 (g 148 11) h0 h4
    rw [fu_self] at k8
    exact k8
end FXM
