/-! fx: dishes, roads, promises, numbers told in the class; a line -/
theorem dshC_ne {T : Int → Int} {f d : Int} {g : Nat → Nat → Int} {c j : Nat} (h : c ≠ 32) : ∀ k : Nat, dshC T f d k g c j = g c j
  | 0 => rfl
  | k + 1 => by
    show fu (dshC T f d k g) 32 (d * 8 + k).toNat _ c j = _
    rw [fu_nc h, dshC_ne h k]
theorem dshC_fu {T : Int → Int} {f d z : Int} {g : Nat → Nat → Int} {c j : Nat} (h : c ≠ 32) : ∀ k : Nat, fu (dshC T f d k g) c j z = dshC T f d k (fu g c j z)
  | 0 => rfl
  | k + 1 => by
    show fu (fu (dshC T f d k g) 32 (d * 8 + k).toNat _) c j z = fu (dshC T f d k (fu g c j z)) 32 (d * 8 + k).toNat _
    rw [← dshC_fu h k, fu_sw _ _ _ (fun t => h t.1.symm)]
theorem cSt_dsh {T : Int → Int} {E f d : Int} {g : Nat → Nat → Int} (h : cSt T E g f) (k : Nat) : cSt T E (dshC T f d k g) f := by
  induction k with
  | zero => exact h
  | succ k ih => exact cSt_fu ih (by decide) (by decide)
theorem cAt_dsh {T : Int → Int} {E f d f' : Int} {g : Nat → Nat → Int} (k : Nat) : cAt T E (dshC T f d k g) f' = dshC T f d k (cAt T E g f') := by
  unfold cAt
  rw [dshC_fu (by decide), dshC_fu (by decide)]
theorem pWd_uniq {T : Int → Int} {E f : Int} {ws ws' : List Nat} (h : pWd T E ws f) (h' : pWd T E ws' f) : ws = ws' := by
  have hl : ws.length = ws'.length := by have := h.1; have := h'.1; omega
  refine List.ext_getElem hl (fun k k1 k2 => ?_)
  have e1 := h.2 k k1
  have e2 := h'.2 k k2
  rw [List.getD_eq_getElem?_getD, List.getElem?_eq_getElem k1] at e1
  rw [List.getD_eq_getElem?_getD, List.getElem?_eq_getElem k2] at e2
  have e1 : T (f + k) = (ws[k] : Int) := e1
  have e2 : T (f + k) = (ws'[k] : Int) := e2
  omega
section FXU
variable {W : ax_W} {r : Nat} {g : Nat → Nat → Int} {Q : Nat → Nat → (Nat → Nat → Int) → Prop} {T : Int → Int} {E : Int} {f : Int}
theorem sp_rd_dish (h : cSt T E g f) (hE : f + 8 ≤ E) (hd0 : 0 ≤ g 29 5) (hd1 : g 29 5 ≤ 5) (kq : fx W r 1 97 69 [226, fI 8] [] (dshC T f (g 29 5) 8 g) Q) :
    ∀ (n k : Nat), k + n = 8 → fx W r 1 97 20 [226, fI (k : Int)] [] (dshC T f (g 29 5) k g) Q
  | n, k, hn => by
    have h' := cSt_dsh (d := g 29 5) h k
    have a3 := h.1.2.2.1
    have f0 := h.2.2.2.1
    have e5 : dshC T f (g 29 5) k g 29 5 = g 29 5 := dshC_ne (by decide) k
    refine fx_li 1 21 (by decide +kernel) rfl ?_
    refine fx_ci (8) 23 (by decide +kernel) ?_
    refine fx_ige 69 26 (by decide +kernel) (by unfold fR; omega) (by unfold fR; omega) (fun h23 => ?_) (fun h23 => ?_)
    · have e : k = 8 := by omega
      subst e
      exact kq
    · refine fx_la 0 27 (v := 226) (by decide +kernel) rfl (by decide +kernel) ?_
      refine fx_gp 226 28 5 234 30 (by decide +kernel) ?_
      refine fx_gp 234 29 2 258 33 (by decide +kernel) ?_
      refine fx_la 0 34 (v := 226) (by decide +kernel) rfl (by decide +kernel) ?_
      refine fx_gp 226 28 5 234 37 (by decide +kernel) ?_
      refine fx_gi 234 29 5 40 (by decide +kernel) ?_
      try simp only [fu_app, fcy_app, Nat.reduceEqDiff, and_true, and_false, false_and, true_and, if_true, if_false, ite_true, ite_false, reduceIte, Int.reduceToNat, fx_simp0]
      rw [e5]
      refine fx_ci (8) 42 (by decide +kernel) ?_
      refine fx_mul 43 (by decide +kernel) rfl ?_
      refine fx_li 1 44 (by decide +kernel) rfl ?_
      refine fx_add 45 (by decide +kernel) rfl ?_
      refine fx_la 0 46 (v := 226) (by decide +kernel) rfl (by decide +kernel) ?_
      refine fx_gp 226 28 0 10 49 (by decide +kernel) ?_
      refine fx_gp 10 1 0 18 52 (by decide +kernel) ?_
      refine fx_la 0 53 (v := 226) (by decide +kernel) rfl (by decide +kernel) ?_
      refine fx_gi 226 28 2 56 (by decide +kernel) ?_
      try simp only [fu_app, fcy_app, Nat.reduceEqDiff, and_true, and_false, false_and, true_and, if_true, if_false, ite_true, ite_false, reduceIte, Int.reduceToNat, fx_simp0]
      refine fx_li 1 57 (by decide +kernel) rfl ?_
      refine fx_add 58 (by decide +kernel) rfl ?_
      rw [h'.2.1]
      obtain ⟨t1, t2, t3⟩ := CT_t h'.1 (k := f + k) (by omega) (by omega)
      refine fx_al 18 2 400 59 (by decide +kernel) rfl (by omega) (by omega) rfl ?_
      try simp only [fu_app, fcy_app, Nat.reduceEqDiff, and_true, and_false, false_and, true_and, if_true, if_false, ite_true, ite_false, reduceIte, Int.reduceToNat, fx_simp0]
      rw [t1]
      refine fx_ci (48) 61 (by decide +kernel) ?_
      refine fx_sub 62 (by decide +kernel) rfl ?_
      refine fx_as 258 32 48 63 (by decide +kernel) rfl (by omega) (by omega) rfl (by unfold fR; omega) ?_
      refine fx_inc 1 66 (1) (by decide +kernel) rfl (Or.inr (f_n4p (v := 226) rfl (by decide))) rfl ?_
      dsimp only [List.set]
      refine fx_go 20 (by decide +kernel) ?_
      match n, hn with
      | 0, hn => exfalso; omega
      | n + 1, hn => exact sp_rd_dish h hE hd0 hd1 kq n (k + 1) (by omega)
theorem sp_readDish (h : cSt T E g f) (hd0 : 0 ≤ g 29 5) (hd1 : g 29 5 ≤ 5)
    (kq : ∀ f', pDish T E f = Sum.inr (f', [1, f]) → Q 1 (fI 1) (apCD T f (cAt T E g f')))
    (kf : ∀ q, pDish T E f = Sum.inl q → ∀ g', eqc g g' → g' 28 1 = q → Q 1 (fI 0) g') : fx W r 1 97 0 [226, 7] [] g Q := by
  have a3 := h.1.2.2.1
  have f0 := h.2.2.2.1
  have f1 := h.2.2.2.2.1
  have d0 := pDg_ge T E f
  have d1 := pDg_le (T := T) f1
  unfold pDish at kq kf
  refine fx_la 0 1 (v := 226) (by decide +kernel) rfl (by decide +kernel) ?_
  refine fx_c1 94 21 4 0 [7] (by decide +kernel) (by decide) rfl (by first | decide | omega) ?_
  refine sp_digits h (fK1 ?_)
  refine fx_ci (8) 6 (by decide +kernel) ?_
  refine fx_ieq 18 9 (by decide +kernel) (by unfold fR; omega) (by unfold fR; omega) (fun h6 => ?_) (fun h6 => ?_)
  · refine fx_ci (0) 19 (by decide +kernel) ?_
    refine fx_si 1 20 (by decide +kernel) (Or.inr (f_n4p (v := 226) rfl (by decide))) rfl ?_
    dsimp only [List.set]
    refine sp_rd_dish h (by omega) hd0 hd1 ?_ 8 0 rfl
    have dd : 48 ≤ T f ∧ T f ≤ 57 := by
      have := prun_all (p := isDi T) (E := E) (i := f) (k := f) (by omega) (show f < pDg T E f by omega)
      exact of_decide_eq_true this
    have h' := cSt_dsh (d := g 29 5) h 8
    have e5 : dshC T f (g 29 5) 8 g 29 5 = g 29 5 := dshC_ne (by decide) 8
    refine fx_la 0 70 (v := 226) (by decide +kernel) rfl (by decide +kernel) ?_
    refine fx_gp 226 28 5 234 73 (by decide +kernel) ?_
    refine fx_dup 74 (by decide +kernel) rfl (by decide) ?_
    refine fx_gi 234 29 5 77 (by decide +kernel) ?_
    try simp only [fu_app, fcy_app, Nat.reduceEqDiff, and_true, and_false, false_and, true_and, if_true, if_false, ite_true, ite_false, reduceIte, Int.reduceToNat, fx_simp0]
    rw [e5]
    refine fx_ci (1) 78 (by decide +kernel) ?_
    refine fx_add 79 (by decide +kernel) rfl ?_
    refine fx_pi 234 29 5 82 (by decide +kernel) (by unfold fR; omega) ?_
    refine fx_la 0 83 (v := 226) (by decide +kernel) rfl (by decide +kernel) ?_
    refine fx_c1 74 21 86 0 [7] (by decide +kernel) (by decide) rfl (by first | decide | omega) ?_
    refine sp_advS (cSt_fu h' (by decide) (by decide)) (fK0 ?_)
    rw [pBh_dg (by omega) dd, cAt_fu (by decide), cAt_dsh]
    refine fx_ci (1) 87 (by decide +kernel) ?_
    refine fx_retb (by decide +kernel) (by first | exact Or.inl rfl | exact Or.inr rfl | omega) ?_
    have kq := kq (pSk T E (f + 8)) (by rw [cif_t h6])
    unfold apCD at kq
    have e : cAt T E g (pSk T E (f + 8)) 29 5 = g 29 5 := by unfold cAt; rw [fu_nc (by decide), fu_nc (by decide)]
    rw [e] at kq
    rw [show pDg T E f = f + 8 by omega]
    exact kq
  · refine fx_la 0 10 (v := 226) (by decide +kernel) rfl (by decide +kernel) ?_
    refine fx_la 0 11 (v := 226) (by decide +kernel) rfl (by decide +kernel) ?_
    refine fx_gi 226 28 2 14 (by decide +kernel) ?_
    try simp only [fu_app, fcy_app, Nat.reduceEqDiff, and_true, and_false, false_and, true_and, if_true, if_false, ite_true, ite_false, reduceIte, Int.reduceToNat, fx_simp0]
    rw [h.2.1]
    refine fx_c2 92 21 17 0 [] (by decide +kernel) (by decide) (by decide) (fI_n4 _) rfl (by first | decide | omega) ?_
    refine sp_wrongAt (by unfold fR; omega) (fK1 ?_)
    refine fx_retb (by decide +kernel) (by first | exact Or.inl rfl | exact Or.inr rfl | omega) ?_
    exact kf f (by rw [cif_f h6]) _ (eqc_fu _ _ _ _ (by decide)) (fu_eq _ _ _ _)
theorem sp_readRoad (h : cSt T E g f)
    (kq : ∀ f' x y, pTwo T E 7 f = Sum.inr (f', x, y) → Q 1 (fI 1) (apCR x y (cAt T E g f')))
    (kf : ∀ q, pTwo T E 7 f = Sum.inl q → ∀ g', eqc g g' → g' 28 1 = q → Q 1 (fI 0) g') : fx W r 3 98 0 [226, 7, 7] [] g Q := by
  have a3 := h.1.2.2.1
  have f0 := h.2.2.2.1
  have f1 := h.2.2.2.2.1
  have ok2 := pOk_dg h.2.2.2
  unfold pTwo at kq kf
  refine fx_la 0 1 (v := 226) (by decide +kernel) rfl (by decide +kernel) ?_
  refine fx_ci (0) 2 (by decide +kernel) ?_
  refine fx_ci (7) 4 (by decide +kernel) ?_
  refine fx_c3 93 21 7 1 [7, 7, 7] (by decide +kernel) (by decide) (by decide) (fI_n4 _) (fI_n4 _) rfl (by first | decide | omega) ?_
  refine sp_takeNumber h (by unfold fR; omega) (by unfold fR; omega) (fun p => fK1 ?_) (fun p v hv => fK1 ?_)
  · have pn : _ ≤ pNu T E f ∧ pNu T E f ≤ _ := p.2.2
    refine fx_si 1 8 (by decide +kernel) (Or.inr (f_n4p (v := 226) rfl (by decide))) rfl ?_
    dsimp only [List.set]
    refine fx_li 1 9 (by decide +kernel) rfl ?_
    refine fx_ci (-1) 10 (by decide +kernel) ?_
    refine fx_ine 17 13 (by decide +kernel) (by unfold fR; omega) (by unfold fR; omega) (fun h10 => ?_) (fun h10 => ?_)
    · refine fx_la 0 18 (v := 226) (by decide +kernel) rfl (by decide +kernel) ?_
      refine fx_li 1 19 (by decide +kernel) rfl ?_
      refine fx_ci (8) 21 (by decide +kernel) ?_
      refine fx_c3 99 21 24 2 [7, 7] (by decide +kernel) (by decide) (by decide) (fI_n4 _) (fI_n4 _) rfl (by first | decide | omega) ?_
      refine sp_takeOther (cSt_at h.1 ok2) (by omega) (by omega) (by decide) (by decide) (fun p1 => fK1 ?_) (fun p1 g' v hv e1 e2 => fK1 ?_)
      · rw [cAt_at]
        have pm : _ ≤ pNu T E (pSk T E (pDg T E f)) ∧ pNu T E (pSk T E (pDg T E f)) ≤ _ := p1.1.2.2
        refine fx_si 2 25 (by decide +kernel) (Or.inr (fI_n4 _)) rfl ?_
        dsimp only [List.set]
        refine fx_li 2 26 (by decide +kernel) rfl ?_
        refine fx_ci (-1) 27 (by decide +kernel) ?_
        refine fx_ine 32 30 (by decide +kernel) (by unfold fR; omega) (by unfold fR; omega) (fun h27 => ?_) (fun h27 => ?_)
        · refine fx_la 0 33 (v := 226) (by decide +kernel) rfl (by decide +kernel) ?_
          refine fx_gp 226 28 5 234 36 (by decide +kernel) ?_
          refine fx_gp 234 29 3 266 39 (by decide +kernel) ?_
          refine fx_li 1 40 (by decide +kernel) rfl ?_
          refine fx_dup2 41 (by decide +kernel) rfl (fI_n4 _) (by decide) ?_
          refine fx_al 266 33 8 42 (by decide +kernel) rfl (by omega) (by omega) rfl ?_
          try simp only [fu_app, fcy_app, Nat.reduceEqDiff, and_true, and_false, false_and, true_and, if_true, if_false, ite_true, ite_false, reduceIte, Int.reduceToNat, fx_simp0]
          refine fx_ci (1) 43 (by decide +kernel) ?_
          refine fx_li 2 44 (by decide +kernel) rfl ?_
          refine fx_bin 6 45 (by decide +kernel) rfl (fun h => absurd h (by decide)) ?_
          refine fx_bin 4 46 (by decide +kernel) rfl (fun h => absurd h (by decide)) ?_
          refine fx_as 266 33 8 47 (by decide +kernel) rfl (by omega) (by omega) rfl (by first | exact fop_R _ _ _ | (unfold fR; omega)) ?_
          refine fx_la 0 48 (v := 226) (by decide +kernel) rfl (by decide +kernel) ?_
          refine fx_gp 226 28 5 234 51 (by decide +kernel) ?_
          refine fx_gp 234 29 3 266 54 (by decide +kernel) ?_
          refine fx_li 2 55 (by decide +kernel) rfl ?_
          refine fx_dup2 56 (by decide +kernel) rfl (fI_n4 _) (by decide) ?_
          refine fx_al 266 33 8 57 (by decide +kernel) rfl (by omega) (by omega) rfl ?_
          try simp only [fu_app, fcy_app, Nat.reduceEqDiff, and_true, and_false, false_and, true_and, if_true, if_false, ite_true, ite_false, reduceIte, Int.reduceToNat, fx_simp0]
          refine fx_ci (1) 58 (by decide +kernel) ?_
          refine fx_li 1 59 (by decide +kernel) rfl ?_
          refine fx_bin 6 60 (by decide +kernel) rfl (fun h => absurd h (by decide)) ?_
          refine fx_bin 4 61 (by decide +kernel) rfl (fun h => absurd h (by decide)) ?_
          refine fx_as 266 33 8 62 (by decide +kernel) rfl (by omega) (by omega) rfl (by first | exact fop_R _ _ _ | (unfold fR; omega)) ?_
          refine fx_ci (1) 63 (by decide +kernel) ?_
          refine fx_retb (by decide +kernel) (by first | exact Or.inl rfl | exact Or.inr rfl | omega) ?_
          have := kq _ _ _ (by rw [cif_t p]; exact cif_t p1)
          unfold apCR at this
          simp only [fu_app, Nat.reduceEqDiff, and_true, and_false, false_and, true_and, if_true, if_false, ite_true, ite_false, reduceIte] at this
          exact this
        · exfalso; omega
      · refine fx_si 2 25 (by decide +kernel) (Or.inr (fI_n4 _)) rfl ?_
        dsimp only [List.set]
        refine fx_li 2 26 (by decide +kernel) rfl ?_
        refine fx_ci (-1) 27 (by decide +kernel) ?_
        refine fx_ine 32 30 (by decide +kernel) (by unfold fR; omega) (by unfold fR; omega) (fun h27 => ?_) (fun h27 => ?_)
        · exfalso; omega
        · refine fx_ci (0) 31 (by decide +kernel) ?_
          refine fx_retb (by decide +kernel) (by first | exact Or.inl rfl | exact Or.inr rfl | omega) ?_
          exact kf _ (by rw [cif_t p]; exact cif_f p1) g' (eqc_tr (eqc_at _ _ _ _) e1) e2
    · exfalso; omega
  · refine fx_si 1 8 (by decide +kernel) (Or.inr (f_n4p (v := 226) rfl (by decide))) rfl ?_
    dsimp only [List.set]
    refine fx_li 1 9 (by decide +kernel) rfl ?_
    refine fx_ci (-1) 10 (by decide +kernel) ?_
    refine fx_ine 17 13 (by decide +kernel) (by unfold fR; omega) (by unfold fR; omega) (fun h10 => ?_) (fun h10 => ?_)
    · exfalso; omega
    · refine fx_cn (-1) 14 (by decide +kernel) (fun v13 c13 => ?_)
      refine fx_go 24 (by decide +kernel) ?_
      refine fx_si 2 25 (by decide +kernel) (Or.inr (fI_n4 _)) rfl ?_
      dsimp only [List.set]
      refine fx_li 2 26 (by decide +kernel) rfl ?_
      refine fx_ci (-1) 27 (by decide +kernel) ?_
      refine fx_ine 32 30 (by decide +kernel) (by unfold fR; omega) (by unfold fR; omega) (fun h27 => ?_) (fun h27 => ?_)
      · exfalso; omega
      · refine fx_ci (0) 31 (by decide +kernel) ?_
        refine fx_retb (by decide +kernel) (by first | exact Or.inl rfl | exact Or.inr rfl | omega) ?_
        exact kf f (by rw [cif_f p]) _ (eqc_fu _ _ _ _ (by decide)) (fu_eq _ _ _ _)
theorem sp_readPromise (h : cSt T E g f) (hp0 : 0 ≤ g 29 4) (hp1 : g 29 4 ≤ 8)
    (kq : ∀ f' x y, pTwo T E (g 29 4 - 1) f = Sum.inr (f', x, y) → Q 1 (fI 1) (apCV x y (cAt T E g f')))
    (kf : ∀ q, pTwo T E (g 29 4 - 1) f = Sum.inl q → ∀ g', eqc g g' → g' 28 1 = q → Q 1 (fI 0) g') : fx W r 3 100 0 [226, 7, 7] [] g Q := by
  have a3 := h.1.2.2.1
  have f0 := h.2.2.2.1
  have f1 := h.2.2.2.2.1
  have ok2 := pOk_dg h.2.2.2
  have eP : ∀ f', cAt T E g f' 29 4 = g 29 4 := fun f' => by unfold cAt; rw [fu_nc (by decide), fu_nc (by decide)]
  unfold pTwo at kq kf
  refine fx_la 0 1 (v := 226) (by decide +kernel) rfl (by decide +kernel) ?_
  refine fx_ci (0) 2 (by decide +kernel) ?_
  refine fx_la 0 3 (v := 226) (by decide +kernel) rfl (by decide +kernel) ?_
  refine fx_gp 226 28 5 234 6 (by decide +kernel) ?_
  refine fx_gi 234 29 4 9 (by decide +kernel) ?_
  refine fx_ci (1) 10 (by decide +kernel) ?_
  refine fx_sub 11 (by decide +kernel) rfl ?_
  refine fx_c3 93 21 14 1 [7, 7, 7] (by decide +kernel) (by decide) (by decide) (fI_n4 _) (fI_n4 _) rfl (by first | decide | omega) ?_
  refine sp_takeNumber h (by unfold fR; omega) (by unfold fR; omega) (fun p => fK1 ?_) (fun p v hv => fK1 ?_)
  · have pn : _ ≤ pNu T E f ∧ pNu T E f ≤ _ := p.2.2
    refine fx_si 1 15 (by decide +kernel) (Or.inr (f_n4p (v := 226) rfl (by decide))) rfl ?_
    dsimp only [List.set]
    refine fx_li 1 16 (by decide +kernel) rfl ?_
    refine fx_ci (-1) 17 (by decide +kernel) ?_
    refine fx_ine 24 20 (by decide +kernel) (by unfold fR; omega) (by unfold fR; omega) (fun h17 => ?_) (fun h17 => ?_)
    · refine fx_la 0 25 (v := 226) (by decide +kernel) rfl (by decide +kernel) ?_
      refine fx_li 1 26 (by decide +kernel) rfl ?_
      refine fx_la 0 27 (v := 226) (by decide +kernel) rfl (by decide +kernel) ?_
      refine fx_gp 226 28 5 234 30 (by decide +kernel) ?_
      refine fx_gi 234 29 4 33 (by decide +kernel) ?_
      try simp only [fu_app, fcy_app, Nat.reduceEqDiff, and_true, and_false, false_and, true_and, if_true, if_false, ite_true, ite_false, reduceIte, Int.reduceToNat, fx_simp0]
      rw [eP]
      refine fx_c3 99 21 36 2 [7, 7] (by decide +kernel) (by decide) (by decide) (fI_n4 _) (fI_n4 _) rfl (by first | decide | omega) ?_
      refine sp_takeOther (cSt_at h.1 ok2) (by omega) (by omega) (by omega) (by omega) (fun p1 => fK1 ?_) (fun p1 g' v hv e1 e2 => fK1 ?_)
      · rw [cAt_at]
        have pm : _ ≤ pNu T E (pSk T E (pDg T E f)) ∧ pNu T E (pSk T E (pDg T E f)) ≤ _ := p1.1.2.2
        refine fx_si 2 37 (by decide +kernel) (Or.inr (fI_n4 _)) rfl ?_
        dsimp only [List.set]
        refine fx_li 2 38 (by decide +kernel) rfl ?_
        refine fx_ci (-1) 39 (by decide +kernel) ?_
        refine fx_ine 44 42 (by decide +kernel) (by unfold fR; omega) (by unfold fR; omega) (fun h39 => ?_) (fun h39 => ?_)
        · refine fx_la 0 45 (v := 226) (by decide +kernel) rfl (by decide +kernel) ?_
          refine fx_gp 226 28 6 178 48 (by decide +kernel) ?_
          refine fx_gp 178 22 2 202 51 (by decide +kernel) ?_
          refine fx_li 1 52 (by decide +kernel) rfl ?_
          refine fx_li 2 53 (by decide +kernel) rfl ?_
          refine fx_as 202 25 8 54 (by decide +kernel) rfl (by omega) (by omega) rfl (by unfold fR; omega) ?_
          refine fx_ci (1) 55 (by decide +kernel) ?_
          refine fx_retb (by decide +kernel) (by first | exact Or.inl rfl | exact Or.inr rfl | omega) ?_
          exact kq _ _ _ (by rw [cif_t p]; exact cif_t p1)
        · exfalso; omega
      · refine fx_si 2 37 (by decide +kernel) (Or.inr (fI_n4 _)) rfl ?_
        dsimp only [List.set]
        refine fx_li 2 38 (by decide +kernel) rfl ?_
        refine fx_ci (-1) 39 (by decide +kernel) ?_
        refine fx_ine 44 42 (by decide +kernel) (by unfold fR; omega) (by unfold fR; omega) (fun h39 => ?_) (fun h39 => ?_)
        · exfalso; omega
        · refine fx_ci (0) 43 (by decide +kernel) ?_
          refine fx_retb (by decide +kernel) (by first | exact Or.inl rfl | exact Or.inr rfl | omega) ?_
          exact kf _ (by rw [cif_t p]; exact cif_f p1) g' (eqc_tr (eqc_at _ _ _ _) e1) e2
    · exfalso; omega
  · refine fx_si 1 15 (by decide +kernel) (Or.inr (f_n4p (v := 226) rfl (by decide))) rfl ?_
    dsimp only [List.set]
    refine fx_li 1 16 (by decide +kernel) rfl ?_
    refine fx_ci (-1) 17 (by decide +kernel) ?_
    refine fx_ine 24 20 (by decide +kernel) (by unfold fR; omega) (by unfold fR; omega) (fun h17 => ?_) (fun h17 => ?_)
    · exfalso; omega
    · refine fx_cn (-1) 21 (by decide +kernel) (fun v20 c20 => ?_)
      refine fx_go 36 (by decide +kernel) ?_
      refine fx_si 2 37 (by decide +kernel) (Or.inr (fI_n4 _)) rfl ?_
      dsimp only [List.set]
      refine fx_li 2 38 (by decide +kernel) rfl ?_
      refine fx_ci (-1) 39 (by decide +kernel) ?_
      refine fx_ine 44 42 (by decide +kernel) (by unfold fR; omega) (by unfold fR; omega) (fun h39 => ?_) (fun h39 => ?_)
      · exfalso; omega
      · refine fx_ci (0) 43 (by decide +kernel) ?_
        refine fx_retb (by decide +kernel) (by first | exact Or.inl rfl | exact Or.inr rfl | omega) ?_
        exact kf f (by rw [cif_f p]) _ (eqc_fu _ _ _ _ (by decide)) (fu_eq _ _ _ _)
end FXU
