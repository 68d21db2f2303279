/-! fx: the class reads the law: facts, parts, sums -/
/-- nothing but where the text stands, and the steps -/
def fLX (g0 g : Nat → Nat → Int) : Prop := ∀ c j, ¬ (c = 34 ∧ (j = 1 ∨ j = 2 ∨ j = 3)) → ¬ (c = 35 ∧ j = 8) → c ≠ 40 → g c j = g0 c j
theorem fLX.rf {g : Nat → Nat → Int} : fLX g g := fun _ _ _ _ _ => rfl
theorem fLX.tr {g g1 g2 : Nat → Nat → Int} (h : fLX g g1) (h2 : fLX g1 g2) : fLX g g2 := fun c j a b d => by rw [h2 c j a b d, h c j a b d]
theorem fLX.w {g0 g : Nat → Nat → Int} {z : Int} (h : fLX g0 g) : fLX g0 (fu g 34 1 z) := fun c j a b d => by rw [fu_ne (fun t => a ⟨t.1, Or.inl t.2⟩)]; exact h c j a b d
theorem fLX.a {T : Int → Int} {E f : Int} {g0 g : Nat → Nat → Int} (h : fLX g0 g) : fLX g0 (cAtL T E g f) := fun c j a b d => by
  unfold cAtL
  rw [fu_ne (fun t => a ⟨t.1, Or.inr (Or.inr t.2)⟩), fu_ne (fun t => a ⟨t.1, Or.inr (Or.inl t.2)⟩)]
  exact h c j a b d
/-- the class stands at f, the steps c are written -/
def lwS (T : Int → Int) (E : Int) (g0 g : Nat → Nat → Int) (f : Int) (c : List Int) : Prop := cStL T E g f ∧ g 35 8 = c.length ∧ (∀ j : Nat, j < c.length → g 40 j = c.getD j 0) ∧ fLX g0 g
theorem lwS.to {T : Int → Int} {E f f' : Int} {g0 g : Nat → Nat → Int} {c : List Int} (h : lwS T E g0 g f c) (hf : pOk T E f') : lwS T E g0 (cAtL T E g f') f' c := by
  obtain ⟨h1, h2, h3, h4⟩ := h
  have n : ∀ c j, c ≠ 34 → cAtL T E g f' c j = g c j := fun c j hc => by
    unfold cAtL
    rw [fu_nc hc, fu_nc hc]
  exact ⟨cSt_atL h1.1 hf, by rw [n _ _ (by decide)]; exact h2, fun j hj => by rw [n _ _ (by decide)]; exact h3 j hj, h4.a⟩
section G5B
variable {W : ax_W} {r : Nat} {g g0 : Nat → Nat → Int} {Q : Nat → Nat → (Nat → Nat → Int) → Prop} {T : Int → Int} {E f : Int} {c : List Int}
theorem sp_lemit {s : Int} (h : lwS T E g0 g f c) (hl : c.length < 400) (hs : fR s) (kq : ∀ g', lwS T E g0 g' f (c ++ [s]) → Q 1 (fI 1) g') : fx W r 0 107 0 [282, fI s] [] g Q := by
  obtain ⟨h1, h2, h3, h4⟩ := h
  unfold fR at hs
  refine fx_la 0 1 (v := 282) (by decide +kernel) rfl (by decide +kernel) ?_
  refine fx_gi 282 35 8 4 (by decide +kernel) ?_
  refine fx_ci (400) 7 (by decide +kernel) ?_
  refine fx_ilt 12 10 (by decide +kernel) (by first | exact hg 35 8 (by decide) (by decide +kernel) (by decide +kernel) | (unfold fR; omega)) (by unfold fR; omega) (fun h7 => ?_) (fun h7 => ?_)
  · refine fx_la 0 13 (v := 282) (by decide +kernel) rfl (by decide +kernel) ?_
    refine fx_gp 282 35 4 322 16 (by decide +kernel) ?_
    refine fx_la 0 17 (v := 282) (by decide +kernel) rfl (by decide +kernel) ?_
    refine fx_gi 282 35 8 20 (by decide +kernel) ?_
    refine fx_li 1 21 (by decide +kernel) rfl ?_
    refine fx_as 322 40 400 22 (by decide +kernel) rfl (by omega) (by omega) rfl (by unfold fR; omega) ?_
    refine fx_la 0 23 (v := 282) (by decide +kernel) rfl (by decide +kernel) ?_
    refine fx_dup 24 (by decide +kernel) rfl (by decide) ?_
    refine fx_gi 282 35 8 27 (by decide +kernel) ?_
    try simp only [fu_app, fcy_app, Nat.reduceEqDiff, and_true, and_false, false_and, true_and, if_true, if_false, ite_true, ite_false, reduceIte, Int.reduceToNat, fx_simp0]
    refine fx_ci (1) 28 (by decide +kernel) ?_
    refine fx_add 29 (by decide +kernel) rfl ?_
    refine fx_pi 282 35 8 32 (by decide +kernel) (by unfold fR; omega) ?_
    refine fx_ci (1) 33 (by decide +kernel) ?_
    refine fx_retb (by decide +kernel) (by first | exact Or.inl rfl | exact Or.inr rfl | omega) ?_
    refine kq _ ⟨?_, ?_, fun j hj => ?_, fun c' j a b d => ?_⟩
    · obtain ⟨a1, a2, a3, a4⟩ := h1
      refine ⟨CT_eqL a1 (by rw [fu_nc (by decide), fu_nc (by decide)]) (fun j => by rw [fu_nc (by decide), fu_nc (by decide)]), ?_, ?_, a4⟩
      · rw [fu_nc (by decide), fu_nc (by decide)]; exact a2
      · rw [fu_nc (by decide), fu_nc (by decide)]; exact a3
    · rw [fu_eq, h2, List.length_append]
      simp
    · rw [fu_nc (by decide), h2, show ((c.length : Int)).toNat = c.length from rfl]
      by_cases e : j = c.length
      · subst e
        rw [fu_eq, List.getD_eq_getElem?_getD, List.getElem?_append_right (Nat.le_refl _)]
        simp
      · have hj2 : j < c.length := by rw [List.length_append] at hj; simp at hj; omega
        rw [fu_nj e, h3 j hj2, List.getD_eq_getElem?_getD, List.getD_eq_getElem?_getD, List.getElem?_append_left hj2]
    · rw [fu_ne b, fu_nc d]
      exact h4 c' j a b d
  · refine fx_ci (0) 11 (by decide +kernel) ?_
    refine fx_retb (by decide +kernel) (by first | exact Or.inl rfl | exact Or.inr rfl | omega) ?_
    exfalso; omega
theorem sp_lIsW {s : Nat} (ws : List Nat) (hw : f_swb s ws = true) (hw2 : f_lw ws = true) (h : cStL T E g f) (k1 : pWd T E ws f → Q 1 (fI 1) g) (k2 : ¬ pWd T E ws f → Q 1 (fI 0) g) : fx W r 4 79 0 [274, s, 7] [] g Q := by
  obtain ⟨hs, he⟩ := f_sw hw
  obtain ⟨l1, l2⟩ := f_and hw2
  have hne : ws ≠ [] := fun t => by rw [t] at l1; cases l1
  have hl : ∀ b ∈ ws, 97 ≤ b ∧ b ≤ 122 := fun b hb => by
    obtain ⟨q1, q2⟩ := f_and (List.all_eq_true.mp l2 b hb)
    exact ⟨sx_ble q1, sx_ble q2⟩
  have hi := pWd_iff (T := T) (E := E) (f := f) h.2.2.2.2.1 hne hl
  refine sp_isWordL h hs (fun b => ?_) (fun b => ?_)
  · rw [he] at b
    exact k1 (hi.mp b)
  · rw [he] at b
    exact k2 (fun t => b (hi.mpr t))
theorem sp_lfact (h : cStL T E g f) (kq : Q 1 (fI (pFact T E f)) g) : fx W r 5 109 0 [274] [] g Q := by
  have hf := h.2.2.2.2.1
  unfold pFact at kq
  refine fx_la 0 1 (v := 274) (by decide +kernel) rfl (by decide +kernel) ?_
  refine fx_lds 189 3 (by decide +kernel) ?_
  refine fx_c2 79 21 6 4 [7] (by decide +kernel) (by decide) (by decide) (by decide) rfl (by first | decide | omega) ?_
  refine sp_lIsW [112, 101, 114, 115, 111, 110] (by decide +kernel) (by decide +kernel) h (fun t1 => fK1 ?_) (fun t1 => fK1 ?_)
  · refine fx_zeq 13 9 (by decide +kernel) (by unfold fR; omega) (fun hc => absurd hc (by decide)) (fun _ => ?_)
    refine fx_ci (1000) 12 (by decide +kernel) ?_
    refine fx_ret (by decide +kernel) ?_
    rw [cif_t t1] at kq; exact kq
  · refine fx_zeq 13 9 (by decide +kernel) (by unfold fR; omega) (fun _ => ?_) (fun hc => absurd hc (by decide))
    refine fx_la 0 14 (v := 274) (by decide +kernel) rfl (by decide +kernel) ?_
    refine fx_lds 197 16 (by decide +kernel) ?_
    refine fx_c2 79 21 19 4 [7] (by decide +kernel) (by decide) (by decide) (by decide) rfl (by first | decide | omega) ?_
    refine sp_lIsW [112, 108, 97, 99, 101] (by decide +kernel) (by decide +kernel) h (fun t2 => fK1 ?_) (fun t2 => fK1 ?_)
    · refine fx_zeq 26 22 (by decide +kernel) (by unfold fR; omega) (fun hc => absurd hc (by decide)) (fun _ => ?_)
      refine fx_ci (1001) 25 (by decide +kernel) ?_
      refine fx_ret (by decide +kernel) ?_
      rw [cif_f t1, cif_t t2] at kq; exact kq
    · refine fx_zeq 26 22 (by decide +kernel) (by unfold fR; omega) (fun _ => ?_) (fun hc => absurd hc (by decide))
      refine fx_la 0 27 (v := 274) (by decide +kernel) rfl (by decide +kernel) ?_
      refine fx_lds 205 29 (by decide +kernel) ?_
      refine fx_c2 79 21 32 4 [7] (by decide +kernel) (by decide) (by decide) (by decide) rfl (by first | decide | omega) ?_
      refine sp_lIsW [100, 105, 115, 104] (by decide +kernel) (by decide +kernel) h (fun t3 => fK1 ?_) (fun t3 => fK1 ?_)
      · refine fx_zeq 39 35 (by decide +kernel) (by unfold fR; omega) (fun hc => absurd hc (by decide)) (fun _ => ?_)
        refine fx_ci (1002) 38 (by decide +kernel) ?_
        refine fx_ret (by decide +kernel) ?_
        rw [cif_f t1, cif_f t2, cif_t t3] at kq; exact kq
      · refine fx_zeq 39 35 (by decide +kernel) (by unfold fR; omega) (fun _ => ?_) (fun hc => absurd hc (by decide))
        refine fx_la 0 40 (v := 274) (by decide +kernel) rfl (by decide +kernel) ?_
        refine fx_lds 213 42 (by decide +kernel) ?_
        refine fx_c2 79 21 45 4 [7] (by decide +kernel) (by decide) (by decide) (by decide) rfl (by first | decide | omega) ?_
        refine sp_lIsW [99, 111, 108, 100] (by decide +kernel) (by decide +kernel) h (fun t4 => fK1 ?_) (fun t4 => fK1 ?_)
        · refine fx_zeq 52 48 (by decide +kernel) (by unfold fR; omega) (fun hc => absurd hc (by decide)) (fun _ => ?_)
          refine fx_ci (1003) 51 (by decide +kernel) ?_
          refine fx_ret (by decide +kernel) ?_
          rw [cif_f t1, cif_f t2, cif_f t3, cif_t t4] at kq; exact kq
        · refine fx_zeq 52 48 (by decide +kernel) (by unfold fR; omega) (fun _ => ?_) (fun hc => absurd hc (by decide))
          refine fx_la 0 53 (v := 274) (by decide +kernel) rfl (by decide +kernel) ?_
          refine fx_lds 221 55 (by decide +kernel) ?_
          refine fx_c2 79 21 58 4 [7] (by decide +kernel) (by decide) (by decide) (by decide) rfl (by first | decide | omega) ?_
          refine sp_lIsW [118, 111, 116, 101] (by decide +kernel) (by decide +kernel) h (fun t5 => fK1 ?_) (fun t5 => fK1 ?_)
          · refine fx_zeq 65 61 (by decide +kernel) (by unfold fR; omega) (fun hc => absurd hc (by decide)) (fun _ => ?_)
            refine fx_ci (1004) 64 (by decide +kernel) ?_
            refine fx_ret (by decide +kernel) ?_
            rw [cif_f t1, cif_f t2, cif_f t3, cif_f t4, cif_t t5] at kq; exact kq
          · refine fx_zeq 65 61 (by decide +kernel) (by unfold fR; omega) (fun _ => ?_) (fun hc => absurd hc (by decide))
            refine fx_la 0 66 (v := 274) (by decide +kernel) rfl (by decide +kernel) ?_
            refine fx_lds 229 68 (by decide +kernel) ?_
            refine fx_c2 79 21 71 4 [7] (by decide +kernel) (by decide) (by decide) (by decide) rfl (by first | decide | omega) ?_
            refine sp_lIsW [119, 101, 105, 103, 104, 116] (by decide +kernel) (by decide +kernel) h (fun t6 => fK1 ?_) (fun t6 => fK1 ?_)
            · refine fx_zeq 78 74 (by decide +kernel) (by unfold fR; omega) (fun hc => absurd hc (by decide)) (fun _ => ?_)
              refine fx_ci (1005) 77 (by decide +kernel) ?_
              refine fx_ret (by decide +kernel) ?_
              rw [cif_f t1, cif_f t2, cif_f t3, cif_f t4, cif_f t5, cif_t t6] at kq; exact kq
            · refine fx_zeq 78 74 (by decide +kernel) (by unfold fR; omega) (fun _ => ?_) (fun hc => absurd hc (by decide))
              refine fx_la 0 79 (v := 274) (by decide +kernel) rfl (by decide +kernel) ?_
              refine fx_lds 237 81 (by decide +kernel) ?_
              refine fx_c2 79 21 84 4 [7] (by decide +kernel) (by decide) (by decide) (by decide) rfl (by first | decide | omega) ?_
              refine sp_lIsW [110, 105, 103, 104, 116] (by decide +kernel) (by decide +kernel) h (fun t7 => fK1 ?_) (fun t7 => fK1 ?_)
              · refine fx_zeq 93 87 (by decide +kernel) (by unfold fR; omega) (fun hc => absurd hc (by decide)) (fun _ => ?_)
                refine fx_ci (1006) 90 (by decide +kernel) ?_
                refine fx_go 94 (by decide +kernel) ?_
                refine fx_ret (by decide +kernel) ?_
                rw [cif_f t1, cif_f t2, cif_f t3, cif_f t4, cif_f t5, cif_f t6, cif_t t7] at kq; exact kq
              · refine fx_zeq 93 87 (by decide +kernel) (by unfold fR; omega) (fun _ => ?_) (fun hc => absurd hc (by decide))
                refine fx_ci (-1) 94 (by decide +kernel) ?_
                refine fx_ret (by decide +kernel) ?_
                rw [cif_f t1, cif_f t2, cif_f t3, cif_f t4, cif_f t5, cif_f t6, cif_f t7] at kq; exact kq
/-- what is left of a sum: ahead of a part, or behind one -/
noncomputable def rS (T : Int → Int) (E : Int) (n : Nat) (f : Int) (c : List Int) (j : Bool) : Int ⊕ (Int × List Int) := cond j (cif (pSg T E 43 f) (pSum T E n (pSk T E (f + 1)) c true) (Sum.inr (f, c))) (pSum T E n f c false)
theorem sp_lpart {jv : Int} {j : Bool} {i : Int} {x3 : Nat} (hj : (jv = 0 ∧ j = false) ∨ (jv = 1 ∧ j = true)) (h : lwS T E g0 g f c) (hl : (c.length : Int) + jv ≤ f)
    (k1 : ∀ f1 v g' (y3 : Nat), pPart T E f = Sum.inr (f1, v) → lwS T E g0 g' f1 (c ++ (v :: cond j [2000] [])) → fx W r 6 108 85 [274, fI jv, fI i, y3] [] g' Q)
    (k2 : ∀ q g', pPart T E f = Sum.inl q → g' 34 1 = q → fLX g0 g' → Q 1 (fI 0) g') : fx W r 6 108 24 [274, fI jv, fI i, x3] [] g Q := by
  have hs := h.1
  have ok := hs.2.2.2
  have hE := hs.1.2.2.1
  have fb := pFact_b T E f
  refine fx_la 0 25 (v := 274) (by decide +kernel) rfl (by decide +kernel) ?_
  refine fx_c1 109 21 28 5 [] (by decide +kernel) (by decide) rfl (by first | decide | omega) ?_
  refine sp_lfact hs (fK1 ?_)
  refine fx_si 3 29 (by decide +kernel) (Or.inr (fI_n4 _)) rfl ?_
  dsimp only [List.set]
  refine fx_li 3 30 (by decide +kernel) rfl ?_
  refine fx_cn (-1) 31 (by decide +kernel) (fun v30 c30 => ?_)
  refine fx_ine 46 34 (by decide +kernel) (by unfold fR; omega) (by unfold fR; omega) (fun h31 => ?_) (fun h31 => ?_)
  · refine fx_la 0 47 (v := 274) (by decide +kernel) rfl (by decide +kernel) ?_
    refine fx_c1 74 21 50 0 [7] (by decide +kernel) (by decide) rfl (by first | decide | omega) ?_
    refine sp_advSL hs (fK0 ?_)
    have pe : pPart T E f = Sum.inr (pSk T E (pWe T E f), pFact T E f) := by unfold pPart; rw [cif_f (by omega)]
    have ln := (pPart_ok pe ok).2.1
    have ln2 := (pPart_ok pe ok).1.2.1
    have h2 : lwS T E g0 (cAtL T E g (pSk T E (pBh T E f))) (pSk T E (pWe T E f)) c := by
      have w := pFact_w (T := T) (E := E) (f := f) (by omega)
      rw [pBh_we (by omega)]
      exact h.to (pOk_we ok)
    refine fx_li 3 51 (by decide +kernel) rfl ?_
    refine fx_cn (-1) 52 (by decide +kernel) (fun v51 c51 => ?_)
    refine fx_ieq 83 55 (by decide +kernel) (by unfold fR; omega) (by unfold fR; omega) (fun h52 => ?_) (fun h52 => ?_)
    · refine fx_ci (0) 84 (by decide +kernel) ?_
      refine fx_retb (by decide +kernel) (by first | exact Or.inl rfl | exact Or.inr rfl | omega) ?_
      exfalso; omega
    · refine fx_la 0 56 (v := 274) (by decide +kernel) rfl (by decide +kernel) ?_
      refine fx_gp 274 34 5 282 59 (by decide +kernel) ?_
      refine fx_li 3 60 (by decide +kernel) rfl ?_
      refine fx_c2 107 21 63 0 [] (by decide +kernel) (by decide) (by decide) (fI_n4 _) rfl (by first | decide | omega) ?_
      refine sp_lemit h2 (by omega) (by unfold fR; omega) (fun g3 h3 => fK1 ?_)
      · refine fx_zeq 83 66 (by decide +kernel) (by unfold fR; omega) (fun hc => absurd hc (by decide)) (fun _ => ?_)
        refine fx_li 1 67 (by decide +kernel) rfl ?_
        refine fx_zeq 85 70 (by decide +kernel) (by unfold fR; omega) (fun h67 => ?_) (fun h67 => ?_)
        · rcases hj with ⟨-, rfl⟩ | ⟨e, -⟩
          · exact k1 _ _ _ _ pe h3
          · exfalso; omega
        · refine fx_la 0 71 (v := 274) (by decide +kernel) rfl (by decide +kernel) ?_
          refine fx_gp 274 34 5 282 74 (by decide +kernel) ?_
          refine fx_ci (2000) 77 (by decide +kernel) ?_
          refine fx_c2 107 21 80 0 [] (by decide +kernel) (by decide) (by decide) (fI_n4 _) rfl (by first | decide | omega) ?_
          refine sp_lemit h3 (by rw [List.length_append]; simp; omega) (by unfold fR; omega) (fun g4 h4 => fK1 ?_)
          · refine fx_zne 85 83 (by decide +kernel) (by unfold fR; omega) (fun _ => ?_) (fun hc => absurd hc (by decide))
            rcases hj with ⟨e, -⟩ | ⟨-, rfl⟩
            · exfalso; omega
            · refine k1 _ _ _ _ pe ?_
              rw [List.append_assoc] at h4
              exact h4
  · refine fx_la 0 35 (v := 274) (by decide +kernel) rfl (by decide +kernel) ?_
    refine fx_ci (0) 36 (by decide +kernel) ?_
    refine fx_ci (999) 39 (by decide +kernel) ?_
    refine fx_c3 93 21 42 1 [7, 7, 7] (by decide +kernel) (by decide) (by decide) (fI_n4 _) (fI_n4 _) rfl (by first | decide | omega) ?_
    refine sp_takeNumberL hs (by unfold fR; omega) (by unfold fR; omega) (fun t => fK1 ?_) (fun t vn hvn => fK1 ?_)
    have nb : 0 ≤ pNu T E f ∧ pNu T E f ≤ 999 := ⟨t.2.2.1, t.2.2.2⟩
    have pe : pPart T E f = Sum.inr (pSk T E (pDg T E f), pNu T E f) := by unfold pPart; rw [cif_t (by omega), cif_t t]
    have h2 := h.to (pOk_dg ok)
    have ln := (pPart_ok pe ok).2.1
    have ln2 := (pPart_ok pe ok).1.2.1
    · refine fx_si 3 43 (by decide +kernel) (Or.inr (fI_n4 _)) rfl ?_
      dsimp only [List.set]
      refine fx_go 50 (by decide +kernel) ?_
      refine fx_li 3 51 (by decide +kernel) rfl ?_
      refine fx_cn (-1) 52 (by decide +kernel) (fun v51 c51 => ?_)
      refine fx_ieq 83 55 (by decide +kernel) (by unfold fR; omega) (by unfold fR; omega) (fun h52 => ?_) (fun h52 => ?_)
      · refine fx_ci (0) 84 (by decide +kernel) ?_
        refine fx_retb (by decide +kernel) (by first | exact Or.inl rfl | exact Or.inr rfl | omega) ?_
        exfalso; omega
      · refine fx_la 0 56 (v := 274) (by decide +kernel) rfl (by decide +kernel) ?_
        refine fx_gp 274 34 5 282 59 (by decide +kernel) ?_
        refine fx_li 3 60 (by decide +kernel) rfl ?_
        refine fx_c2 107 21 63 0 [] (by decide +kernel) (by decide) (by decide) (fI_n4 _) rfl (by first | decide | omega) ?_
        refine sp_lemit h2 (by omega) (by unfold fR; omega) (fun g3 h3 => fK1 ?_)
        · refine fx_zeq 83 66 (by decide +kernel) (by unfold fR; omega) (fun hc => absurd hc (by decide)) (fun _ => ?_)
          refine fx_li 1 67 (by decide +kernel) rfl ?_
          refine fx_zeq 85 70 (by decide +kernel) (by unfold fR; omega) (fun h67 => ?_) (fun h67 => ?_)
          · rcases hj with ⟨-, rfl⟩ | ⟨e, -⟩
            · exact k1 _ _ _ _ pe h3
            · exfalso; omega
          · refine fx_la 0 71 (v := 274) (by decide +kernel) rfl (by decide +kernel) ?_
            refine fx_gp 274 34 5 282 74 (by decide +kernel) ?_
            refine fx_ci (2000) 77 (by decide +kernel) ?_
            refine fx_c2 107 21 80 0 [] (by decide +kernel) (by decide) (by decide) (fI_n4 _) rfl (by first | decide | omega) ?_
            refine sp_lemit h3 (by rw [List.length_append]; simp; omega) (by unfold fR; omega) (fun g4 h4 => fK1 ?_)
            · refine fx_zne 85 83 (by decide +kernel) (by unfold fR; omega) (fun _ => ?_) (fun hc => absurd hc (by decide))
              rcases hj with ⟨e, -⟩ | ⟨-, rfl⟩
              · exfalso; omega
              · refine k1 _ _ _ _ pe ?_
                rw [List.append_assoc] at h4
                exact h4
    · refine fx_si 3 43 (by decide +kernel) (Or.inr (fI_n4 _)) rfl ?_
      dsimp only [List.set]
      refine fx_go 50 (by decide +kernel) ?_
      refine fx_li 3 51 (by decide +kernel) rfl ?_
      refine fx_cn (-1) 52 (by decide +kernel) (fun v51 c51 => ?_)
      refine fx_ieq 83 55 (by decide +kernel) (by unfold fR; omega) (by unfold fR; omega) (fun h52 => ?_) (fun h52 => ?_)
      · refine fx_ci (0) 84 (by decide +kernel) ?_
        refine fx_retb (by decide +kernel) (by first | exact Or.inl rfl | exact Or.inr rfl | omega) ?_
        refine k2 f _ ?_ (fu_eq _ _ _ _) h.2.2.2.w
        unfold pPart
        rw [cif_t (by omega), cif_f t]
      · exfalso; omega
theorem sp_lsum_1 {R : Int ⊕ (Int × List Int)} (k1 : ∀ f1 c1 g', R = Sum.inr (f1, c1) → lwS T E g0 g' f1 c1 → Q 1 (fI 1) g') (k2 : ∀ q g', R = Sum.inl q → g' 34 1 = q → fLX g0 g' → Q 1 (fI 0) g') : ∀ (n i : Nat) (f : Int) (c : List Int) (jv : Int) (j : Bool) (g : Nat → Nat → Int) (x3 : Nat), i + n = 401 → i ≤ f → ((jv = 0 ∧ j = false ∧ i = 0) ∨ (jv = 1 ∧ j = true)) → lwS T E g0 g f c → (c.length : Int) ≤ f → rS T E n f c j = R → fx W r 6 108 4 [274, fI jv, fI (i : Int), x3] [] g Q
  | n, i, f, c, jv, j, g, x3, hn, hi, hj, h, hl, e => by
    have hs := h.1
    have ok := hs.2.2.2
    have hE := hs.1.2.2.1
    have hfE := ok.2.1
    refine fx_li 2 5 (by decide +kernel) rfl ?_
    refine fx_ci (400) 8 (by decide +kernel) ?_
    refine fx_ige 93 11 (by decide +kernel) (by unfold fR; omega) (by unfold fR; omega) (fun h8 => ?_) (fun h8 => ?_)
    · refine fx_ci (1) 94 (by decide +kernel) ?_
      refine fx_retb (by decide +kernel) (by first | exact Or.inl rfl | exact Or.inr rfl | omega) ?_
      rcases hj with ⟨-, -, e2⟩ | ⟨-, rfl⟩
      · exfalso; omega
      · refine k1 f c g ?_ h
        rw [← e]
        exact cif_f (fun t => by have := t.1; omega)
    · refine fx_li 1 12 (by decide +kernel) rfl ?_
      refine fx_zeq 24 15 (by decide +kernel) (by unfold fR; omega) (fun h12 => ?_) (fun h12 => ?_)
      · rcases hj with ⟨e1, rfl, e2⟩ | ⟨e1, -⟩
        · match n, hn, e with
          | 0, hn, e => exfalso; omega
          | n + 1, hn, e =>
            refine sp_lpart (j := false) (Or.inl ⟨e1, rfl⟩) h (by omega) (fun f1 v g' y3 p1 p2 => ?_) (fun q g' p1 p2 p3 => k2 q g' (by rw [← e]; show bS (pPart T E f) _ = _; rw [p1, bS_l]) p2 p3)
            have o := pPart_ok p1 ok
            have ln : ((c ++ [v]).length : Int) = c.length + 1 := ln_1 c v
            refine fx_ci 1 86 (by decide +kernel) ?_
            refine fx_si 1 87 (by decide +kernel) (Or.inr (f_n4p (v := 274) rfl (by decide))) rfl ?_
            dsimp only [List.set]
            refine fx_inc 2 90 1 (by decide +kernel) rfl (Or.inr (fI_n4 _)) rfl ?_
            dsimp only [List.set]
            refine fx_go 4 (by decide +kernel) ?_
            refine sp_lsum_1 k1 k2 n (i + 1) f1 (c ++ [v]) 1 true g' y3 (by omega) (by omega) (Or.inr ⟨rfl, rfl⟩) p2 (by omega) ?_
            rw [← e]
            show cif _ _ _ = bS (pPart T E f) _
            rw [p1, bS_r]
            rfl
        · exfalso; omega
      · refine fx_la 0 16 (v := 274) (by decide +kernel) rfl (by decide +kernel) ?_
        refine fx_ci (43) 18 (by decide +kernel) ?_
        refine fx_c2 106 21 21 1 [] (by decide +kernel) (by decide) (by decide) (fI_n4 _) rfl (by first | decide | omega) ?_
        refine sp_takesSignL hs (by unfold fR; omega) (by omega) (by omega) (fun t => fK1 ?_) (fun t => fK1 ?_)
        · refine fx_zeq 93 24 (by decide +kernel) (by unfold fR; omega) (fun hc => absurd hc (by decide)) (fun _ => ?_)
          rcases hj with ⟨e1, -⟩ | ⟨e1, rfl⟩
          · exfalso; omega
          · match n, hn, e with
            | 0, hn, e => exfalso; omega
            | n + 1, hn, e =>
              have e0 : pSum T E (n + 1) (pSk T E (f + 1)) c true = R := (cif_t t).symm.trans e
              have ok2 : pOk T E (pSk T E (f + 1)) := pOk_s1 ok t
              have g0' := pSk_ge T E (f + 1)
              refine sp_lpart (j := true) (Or.inr ⟨e1, rfl⟩) (h.to ok2) (by omega) (fun f1 v g' y3 p1 p2 => ?_) (fun q g' p1 p2 p3 => k2 q g' (by rw [← e0]; show bS (pPart T E _) _ = _; rw [p1, bS_l]) p2 p3)
              have o := pPart_ok p1 ok2
              have ln : ((c ++ [v, 2000]).length : Int) = c.length + 2 := by rw [List.length_append]; simp
              refine fx_ci 1 86 (by decide +kernel) ?_
              refine fx_si 1 87 (by decide +kernel) (Or.inr (f_n4p (v := 274) rfl (by decide))) rfl ?_
              dsimp only [List.set]
              refine fx_inc 2 90 1 (by decide +kernel) rfl (Or.inr (fI_n4 _)) rfl ?_
              dsimp only [List.set]
              refine fx_go 4 (by decide +kernel) ?_
              refine sp_lsum_1 k1 k2 n (i + 1) f1 (c ++ [v, 2000]) 1 true g' y3 (by omega) (by omega) (Or.inr ⟨rfl, rfl⟩) p2 (by omega) ?_
              rw [← e0]
              show cif _ _ _ = bS (pPart T E _) _
              rw [p1, bS_r]
              rfl
        · refine fx_zeq 93 24 (by decide +kernel) (by unfold fR; omega) (fun _ => ?_) (fun hc => absurd hc (by decide))
          refine fx_ci (1) 94 (by decide +kernel) ?_
          refine fx_retb (by decide +kernel) (by first | exact Or.inl rfl | exact Or.inr rfl | omega) ?_
          rcases hj with ⟨e1, -⟩ | ⟨-, rfl⟩
          · exfalso; omega
          · refine k1 f c g ?_ h
            rw [← e]
            exact cif_f t
theorem sp_lsum (h : lwS T E g0 g f c) (hl : (c.length : Int) ≤ f) (k1 : ∀ f1 c1 g', pSum T E 401 f c false = Sum.inr (f1, c1) → lwS T E g0 g' f1 c1 → Q 1 (fI 1) g') (k2 : ∀ q g', pSum T E 401 f c false = Sum.inl q → g' 34 1 = q → fLX g0 g' → Q 1 (fI 0) g') : fx W r 6 108 0 [274, 7, 7, 7] [] g Q := by
  refine fx_ci (0) 1 (by decide +kernel) ?_
  refine fx_si 1 2 (by decide +kernel) (Or.inr (f_n4p (v := 274) rfl (by decide))) rfl ?_
  dsimp only [List.set]
  refine fx_ci (0) 3 (by decide +kernel) ?_
  refine fx_si 2 4 (by decide +kernel) (Or.inr (fI_n4 _)) rfl ?_
  dsimp only [List.set]
  exact sp_lsum_1 k1 k2 401 0 f c 0 false g 7 rfl h.1.2.2.2.1 (Or.inl ⟨rfl, rfl, rfl⟩) h hl rfl
end G5B
