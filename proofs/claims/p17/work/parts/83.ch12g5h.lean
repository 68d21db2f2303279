/-! fx: the reference reads the law: sums, what is compared -/
theorem nv_fR : fR 0 ∧ fR 1 := ⟨by unfold fR; decide, by unfold fR; decide⟩
section G5H
variable {W : ax_W} {r : Nat} {g g0 : Nat → Nat → Int} {Q : Nat → Nat → (Nat → Nat → Int) → Prop} {T : Int → Int} {E f dp : Int} {c : List Int}
theorem sp_msum_1 {st : List Int} {R : Int ⊕ (Int × List Int)} (k1 : ∀ f1 c1 n g', R = Sum.inr (f1, c1) → rwS T E g0 g' f1 dp → evS (fF g0) c1 = n :: st → fR n → Q 1 (fI n) g') (k2 : ∀ q n g', R = Sum.inl q → rwF g0 g' q 400 dp → fR n → Q 1 (fI n) g') : ∀ (l : Nat) (f n : Int) (c : List Int) (g : Nat → Nat → Int), rwS T E g0 g f dp → evS (fF g0) c = n :: st → fR n → E - f ≤ l → cif (pSg T E 43 f) (pSum T E l (pSk T E (f + 1)) c true) (Sum.inr (f, c)) = R → fx W r 6 283 5 [1186, fI n] [] g Q
  | l, f, n, c, g, h, hv, hn, hl, eR => by
    have ok := h.ok
    have ok1 := ok.1
    have ok2 := ok.2.1
    have hE := h.1.2.2.1
    have hf := h.2.2.2.2.1
    refine fx_la 0 6 (v := 1186) (by decide +kernel) rfl (by decide +kernel) ?_
    refine fx_gi 1186 148 12 9 (by decide +kernel) ?_
    refine fx_cn (-1) 10 (by decide +kernel) (fun v9 c9 => ?_)
    refine fx_ine 42 13 (by decide +kernel) (by first | exact hg 148 12 (by decide) (by decide +kernel) (by decide +kernel) | (unfold fR; omega)) (by unfold fR; omega) (fun h10 => ?_) (fun h10 => ?_)
    · exfalso; omega
    · refine fx_la 0 14 (v := 1186) (by decide +kernel) rfl (by decide +kernel) ?_
      refine fx_ci (43) 16 (by decide +kernel) ?_
      refine fx_c2 281 21 19 2 [] (by decide +kernel) (by decide) (by decide) (fI_n4 _) rfl (by first | decide | omega) ?_
      refine sp_rsign h (by unfold fR; omega) (fun t g1 s1 a1 => fK1 ?_) (fun t g1 s1 a1 => fK1 ?_)
      · refine fx_zeq 42 22 (by decide +kernel) (by unfold fR; omega) (fun hc => absurd hc (by decide)) (fun _ => ?_)
        refine fx_la 0 23 (v := 1186) (by decide +kernel) rfl (by decide +kernel) ?_
        refine fx_dup 24 (by decide +kernel) rfl (by decide) ?_
        refine fx_gi 1186 148 11 27 (by decide +kernel) ?_
        try simp only [fu_app, fcy_app, Nat.reduceEqDiff, and_true, and_false, false_and, true_and, if_true, if_false, ite_true, ite_false, reduceIte, Int.reduceToNat, fx_simp0]
        rw [a1]
        refine fx_ci (1) 28 (by decide +kernel) ?_
        refine fx_add 29 (by decide +kernel) rfl ?_
        refine fx_pi 1186 148 11 32 (by decide +kernel) (by unfold fR; omega) ?_
        refine fx_li 1 33 (by decide +kernel) rfl ?_
        refine fx_la 0 34 (v := 1186) (by decide +kernel) rfl (by decide +kernel) ?_
        refine fx_c1 284 21 37 5 [7] (by decide +kernel) (by decide) rfl (by first | decide | omega) ?_
        have g0' := pSk_ge T E (f + 1)
        have fE := t.1
        have s2 := s1.to (a := f + 1) (by omega) (by omega)
        refine sp_mpart s2 (fun f2 s g2 p1 h2 hr2 => fK1 ?_) (fun v g2 p1 h2 hr2 => fK1 ?_)
        have o := pPart_ok p1 (pOk_s1 ok t)
        · refine fx_add 38 (by decide +kernel) rfl ?_
          refine fx_si 1 39 (by decide +kernel) (Or.inr (f_n4p (v := 1186) rfl (by decide))) rfl ?_
          dsimp only [List.set]
          refine fx_go 5 (by decide +kernel) ?_
          rw [cif_t t] at eR
          match l, hl, eR with
          | 0, hl, eR => exfalso; omega
          | l + 1, hl, eR =>
            have e2 : cif (pSg T E 43 f2) (pSum T E l (pSk T E (f2 + 1)) (c ++ [s, 2000]) true) (Sum.inr (f2, c ++ [s, 2000])) = R := by
              rw [← eR]
              show _ = bS (pPart T E (pSk T E (f + 1))) _
              rw [p1, bS_r]
              rfl
            have ev : evS (fF g0) (c ++ [s, 2000]) = fop 0 n (vS (fF g0) s) :: st := by
              rw [evS_2, hv, stp_v (s := s) _ (by omega)]
              rfl
            rw [← fI_add]
            exact sp_msum_1 k1 k2 l f2 (fop 0 n (vS (fF g0) s)) (c ++ [s, 2000]) g2 h2 ev (fop_R _ _ _) (by omega) e2
        · refine fx_add 38 (by decide +kernel) rfl ?_
          refine fx_si 1 39 (by decide +kernel) (Or.inr (f_n4p (v := 1186) rfl (by decide))) rfl ?_
          dsimp only [List.set]
          refine fx_go 5 (by decide +kernel) ?_
          rw [cif_t t] at eR
          have eq : R = Sum.inl (pSk T E (f + 1)) := by
            match l, hl, eR with
            | 0, hl, eR => exact eR.symm
            | l + 1, hl, eR =>
              rw [← eR]
              show bS (pPart T E (pSk T E (f + 1))) _ = _
              rw [p1, bS_l]
          have q1 := h2.1
          have q2 := h2.2.1
          rw [← fI_add]
          have hz := fop_R 0 n v
          generalize fop 0 n v = z at hz ⊢
          refine fx_rg (fun hg => ?_)
          refine fx_la 0 6 (v := 1186) (by decide +kernel) rfl (by decide +kernel) ?_
          refine fx_gi 1186 148 12 9 (by decide +kernel) ?_
          refine fx_cn (-1) 10 (by decide +kernel) (fun v9 c9 => ?_)
          refine fx_ine 42 13 (by decide +kernel) (by first | exact hg 148 12 (by decide) (by decide +kernel) (by decide +kernel) | (unfold fR; omega)) (by unfold fR; omega) (fun h10 => ?_) (fun h10 => ?_)
          · refine fx_li 1 43 (by decide +kernel) rfl ?_
            refine fx_ret (by decide +kernel) ?_
            exact k2 _ z g2 eq h2 hz
          · exfalso; omega
      · refine fx_zeq 42 22 (by decide +kernel) (by unfold fR; omega) (fun _ => ?_) (fun hc => absurd hc (by decide))
        refine fx_li 1 43 (by decide +kernel) rfl ?_
        refine fx_ret (by decide +kernel) ?_
        rw [cif_f t] at eR
        exact k1 f c n g1 eR.symm s1 hv hn
theorem sp_msum (h : rwS T E g0 g f dp) (k1 : ∀ f1 c1 n g', pSum T E 401 f c false = Sum.inr (f1, c1) → rwS T E g0 g' f1 dp → evS (fF g0) c1 = n :: evS (fF g0) c → fR n → Q 1 (fI n) g') (k2 : ∀ q n g', pSum T E 401 f c false = Sum.inl q → rwF g0 g' q 400 dp → fR n → Q 1 (fI n) g') : fx W r 6 283 0 [1186, 7] [] g Q := by
  have ok := h.ok
  have hE := h.1.2.2.1
  refine fx_la 0 1 (v := 1186) (by decide +kernel) rfl (by decide +kernel) ?_
  refine fx_c1 284 21 4 5 [7] (by decide +kernel) (by decide) rfl (by first | decide | omega) ?_
  refine sp_mpart h (fun f2 s g2 p1 h2 hr2 => fK1 ?_) (fun v g2 p1 h2 hr2 => fK1 ?_)
  have o := pPart_ok p1 ok
  have ok1 := ok.1
  · refine fx_si 1 5 (by decide +kernel) (Or.inr (f_n4p (v := 1186) rfl (by decide))) rfl ?_
    dsimp only [List.set]
    have e2 : cif (pSg T E 43 f2) (pSum T E 400 (pSk T E (f2 + 1)) (c ++ [s]) true) (Sum.inr (f2, c ++ [s])) = pSum T E 401 f c false := by
      show _ = bS (pPart T E f) _
      rw [p1, bS_r]
      rfl
    have ev : evS (fF g0) (c ++ [s]) = vS (fF g0) s :: evS (fF g0) c := by
      rw [evS_1, stp_v _ (by omega)]
    exact sp_msum_1 k1 k2 400 f2 _ (c ++ [s]) g2 h2 ev hr2 (by omega) e2
  · refine fx_si 1 5 (by decide +kernel) (Or.inr (f_n4p (v := 1186) rfl (by decide))) rfl ?_
    dsimp only [List.set]
    have eq : pSum T E 401 f c false = Sum.inl f := by
      show bS (pPart T E f) _ = _
      rw [p1, bS_l]
    have q1 := h2.1
    have q2 := h2.2.1
    refine fx_rg (fun hg => ?_)
    refine fx_la 0 6 (v := 1186) (by decide +kernel) rfl (by decide +kernel) ?_
    refine fx_gi 1186 148 12 9 (by decide +kernel) ?_
    refine fx_cn (-1) 10 (by decide +kernel) (fun v9 c9 => ?_)
    refine fx_ine 42 13 (by decide +kernel) (by first | exact hg 148 12 (by decide) (by decide +kernel) (by decide +kernel) | (unfold fR; omega)) (by unfold fR; omega) (fun h10 => ?_) (fun h10 => ?_)
    · refine fx_li 1 43 (by decide +kernel) rfl ?_
      refine fx_ret (by decide +kernel) ?_
      exact k2 _ v g2 eq h2 hr2
    · exfalso; omega
/-- promised, three, or two sums -/
noncomputable def pPl (T : Int → Int) (E f : Int) (c : List Int) : Int ⊕ (Int × List Int) := cif (pWd T E [112, 114, 111, 109, 105, 115, 101, 100] f) (Sum.inr (pSk T E (pWe T E f), c ++ [1007])) (cif (pWd T E [116, 104, 114, 101, 101] f) (Sum.inr (pSk T E (pWe T E f), c ++ [1008])) (pCmp T E f c))
theorem sp_mplain (hP : g0 148 15 = 0 ∨ g0 148 15 = 1) (hT : g0 148 16 = 0 ∨ g0 148 16 = 1) (h : rwS T E g0 g f dp) (k1 : ∀ f1 c1 b g', pPl T E f c = Sum.inr (f1, c1) → rwS T E g0 g' f1 dp → evS (fF g0) c1 = b :: evS (fF g0) c → (b = 0 ∨ b = 1) → Q 1 (fI b) g') (k2 : ∀ q b g', pPl T E f c = Sum.inl q → rwF g0 g' q 400 dp → (b = 0 ∨ b = 1) → Q 1 (fI b) g') : fx W r 7 282 0 [1186, 7, 7, 7] [] g Q := by
  refine fx_la 0 1 (v := 1186) (by decide +kernel) rfl (by decide +kernel) ?_
  refine fx_lds 437 3 (by decide +kernel) ?_
  refine fx_c2 275 21 6 4 [7, 7] (by decide +kernel) (by decide) (by decide) (by decide) rfl (by first | decide | omega) ?_
  refine sp_rhas [112, 114, 111, 109, 105, 115, 101, 100] (by decide +kernel) h (fun t1 g1 s1 => fK1 ?_) (fun t1 g1 s1 _ => fK1 ?_)
  · refine fx_zeq 14 9 (by decide +kernel) (by unfold fR; omega) (fun hc => absurd hc (by decide)) (fun _ => ?_)
    refine fx_la 0 10 (v := 1186) (by decide +kernel) rfl (by decide +kernel) ?_
    refine fx_gi 1186 148 15 13 (by decide +kernel) ?_
    try simp only [fu_app, fcy_app, Nat.reduceEqDiff, and_true, and_false, false_and, true_and, if_true, if_false, ite_true, ite_false, reduceIte, Int.reduceToNat, fx_simp0]
    rw [s1.2.2.2.2.2.2 148 15 (by decide)]
    refine fx_retb (by decide +kernel) (by first | exact Or.inl rfl | exact Or.inr rfl | omega) ?_
    refine k1 _ _ _ g1 (cif_t t1) s1 ?_ hP
    rw [evS_1]
    exact stp_v _ (by decide)
  · refine fx_zeq 14 9 (by decide +kernel) (by unfold fR; omega) (fun _ => ?_) (fun hc => absurd hc (by decide))
    refine fx_la 0 15 (v := 1186) (by decide +kernel) rfl (by decide +kernel) ?_
    refine fx_lds 445 17 (by decide +kernel) ?_
    refine fx_c2 275 21 20 4 [7, 7] (by decide +kernel) (by decide) (by decide) (by decide) rfl (by first | decide | omega) ?_
    refine sp_rhas [116, 104, 114, 101, 101] (by decide +kernel) s1 (fun t2 g2 s2 => fK1 ?_) (fun t2 g2 s2 _ => fK1 ?_)
    · refine fx_zeq 28 23 (by decide +kernel) (by unfold fR; omega) (fun hc => absurd hc (by decide)) (fun _ => ?_)
      refine fx_la 0 24 (v := 1186) (by decide +kernel) rfl (by decide +kernel) ?_
      refine fx_gi 1186 148 16 27 (by decide +kernel) ?_
      try simp only [fu_app, fcy_app, Nat.reduceEqDiff, and_true, and_false, false_and, true_and, if_true, if_false, ite_true, ite_false, reduceIte, Int.reduceToNat, fx_simp0]
      rw [s2.2.2.2.2.2.2 148 16 (by decide)]
      refine fx_retb (by decide +kernel) (by first | exact Or.inl rfl | exact Or.inr rfl | omega) ?_
      refine k1 _ _ _ g2 ((cif_f t1).trans (cif_t t2)) s2 ?_ hT
      rw [evS_1]
      exact stp_v _ (by decide)
    · refine fx_zeq 28 23 (by decide +kernel) (by unfold fR; omega) (fun _ => ?_) (fun hc => absurd hc (by decide))
      refine fx_la 0 29 (v := 1186) (by decide +kernel) rfl (by decide +kernel) ?_
      refine fx_c1 283 21 32 6 [7] (by decide +kernel) (by decide) rfl (by first | decide | omega) ?_
      have eP : pPl T E f c = pCmp T E f c := (cif_f t1).trans (cif_f t2)
      rw [eP] at k1 k2
      refine sp_msum (c := c) s2 (fun f3 c3 n g3 p3 h3 v3 r3 => fK1 ?_) (fun q n g3 p3 h3 r3 => fK1 ?_)
      have r3' := r3
      unfold fR at r3'
      have ok3 := h3.ok
      have q1 := h3.2.2.2.2.1
      have ok3a := ok3.1
      have ok3b := ok3.2.1
      have hE3 := h3.1.2.2.1
      · refine fx_si 1 33 (by decide +kernel) (Or.inr (f_n4p (v := 1186) rfl (by decide))) rfl ?_
        dsimp only [List.set]
        refine fx_la 0 34 (v := 1186) (by decide +kernel) rfl (by decide +kernel) ?_
        refine fx_gi 1186 148 12 37 (by decide +kernel) ?_
        try simp only [fu_app, fcy_app, Nat.reduceEqDiff, and_true, and_false, false_and, true_and, if_true, if_false, ite_true, ite_false, reduceIte, Int.reduceToNat, fx_simp0]
        refine fx_rg (fun hg => ?_)
        have rf := hg 148 12 (by decide) (by decide +kernel) (by decide +kernel)
        unfold fR at rf
        refine fx_cn (-1) 38 (by decide +kernel) (fun v37 c37 => ?_)
        refine fx_ieq 43 41 (by decide +kernel) (by unfold fR; omega) (by unfold fR; omega) (fun h38 => ?_) (fun h38 => ?_)
        · refine fx_la 0 44 (v := 1186) (by decide +kernel) rfl (by decide +kernel) ?_
          refine fx_ci (60) 46 (by decide +kernel) ?_
          refine fx_c2 281 21 49 2 [] (by decide +kernel) (by decide) (by decide) (fI_n4 _) rfl (by first | decide | omega) ?_
          refine sp_rsign h3 (by unfold fR; omega) (fun t4 g4 s4 a4 => fK1 ?_) (fun t4 g4 s4 a4 => fK1 ?_)
          · refine fx_si 2 50 (by decide +kernel) (Or.inr (fI_n4 _)) rfl ?_
            dsimp only [List.set]
            refine fx_li 2 51 (by decide +kernel) rfl ?_
            refine fx_zne 73 54 (by decide +kernel) (by unfold fR; omega) (fun _ => ?_) (fun hc => absurd hc (by decide))
            refine fx_la 0 74 (v := 1186) (by decide +kernel) rfl (by decide +kernel) ?_
            refine fx_dup 75 (by decide +kernel) rfl (by decide) ?_
            refine fx_gi 1186 148 11 78 (by decide +kernel) ?_
            try simp only [fu_app, fcy_app, Nat.reduceEqDiff, and_true, and_false, false_and, true_and, if_true, if_false, ite_true, ite_false, reduceIte, Int.reduceToNat, fx_simp0]
            rw [a4]
            refine fx_ci (1) 79 (by decide +kernel) ?_
            refine fx_add 80 (by decide +kernel) rfl ?_
            refine fx_pi 1186 148 11 83 (by decide +kernel) (by unfold fR; omega) ?_
            refine fx_la 0 84 (v := 1186) (by decide +kernel) rfl (by decide +kernel) ?_
            refine fx_c1 283 21 87 6 [7] (by decide +kernel) (by decide) rfl (by first | decide | omega) ?_
            have s6 := s4.to (a := f3 + 1) (by omega) (by have := t4.1; omega)
            refine sp_msum (c := c3) s6 (fun f7 c7 n7 g7 p7 h7 v7 r7 => fK1 ?_) (fun q7 n7 g7 p7 h7 r7 => fK1 ?_)
            all_goals have r7' := r7
            all_goals unfold fR at r7'
            · refine fx_si 3 88 (by decide +kernel) (Or.inr (fI_n4 _)) rfl ?_
              dsimp only [List.set]
              refine fx_li 2 89 (by decide +kernel) rfl ?_
              refine fx_zeq 105 92 (by decide +kernel) (by unfold fR; omega) (fun hc => absurd hc (by decide)) (fun _ => ?_)
              refine fx_li 1 93 (by decide +kernel) rfl ?_
              refine fx_li 3 94 (by decide +kernel) rfl ?_
              refine fx_ige 101 97 (by decide +kernel) (by unfold fR; omega) (by unfold fR; omega) (fun h94 => ?_) (fun h94 => ?_)
              · refine fx_ci (0) 102 (by decide +kernel) ?_
                refine fx_go 115 (by decide +kernel) ?_
                refine fx_retb (by decide +kernel) (by first | exact Or.inl rfl | exact Or.inr rfl | omega) ?_
                refine k1 _ _ _ g7 (by rw [pCmp_l p3 t4, p7, bS_r]) h7 ?_ (by first | exact Or.inl rfl | exact Or.inr rfl)
                rw [evS_1, v7, v3]
                show (if n < n7 then (1 : Int) else 0) :: evS (fF g0) c = _
                first | rw [if_pos (by omega)] | rw [if_neg (by omega)]
              · refine fx_ci (1) 98 (by decide +kernel) ?_
                refine fx_go 115 (by decide +kernel) ?_
                refine fx_retb (by decide +kernel) (by first | exact Or.inl rfl | exact Or.inr rfl | omega) ?_
                refine k1 _ _ _ g7 (by rw [pCmp_l p3 t4, p7, bS_r]) h7 ?_ (by first | exact Or.inl rfl | exact Or.inr rfl)
                rw [evS_1, v7, v3]
                show (if n < n7 then (1 : Int) else 0) :: evS (fF g0) c = _
                first | rw [if_pos (by omega)] | rw [if_neg (by omega)]
            · refine fx_si 3 88 (by decide +kernel) (Or.inr (fI_n4 _)) rfl ?_
              dsimp only [List.set]
              refine fx_li 2 89 (by decide +kernel) rfl ?_
              refine fx_zeq 105 92 (by decide +kernel) (by unfold fR; omega) (fun hc => absurd hc (by decide)) (fun _ => ?_)
              refine fx_li 1 93 (by decide +kernel) rfl ?_
              refine fx_li 3 94 (by decide +kernel) rfl ?_
              refine fx_ige 101 97 (by decide +kernel) (by unfold fR; omega) (by unfold fR; omega) (fun h94 => ?_) (fun h94 => ?_)
              · refine fx_ci (0) 102 (by decide +kernel) ?_
                refine fx_go 115 (by decide +kernel) ?_
                refine fx_retb (by decide +kernel) (by first | exact Or.inl rfl | exact Or.inr rfl | omega) ?_
                exact k2 q7 _ g7 (by rw [pCmp_l p3 t4, p7, bS_l]) h7 (by first | exact Or.inl rfl | exact Or.inr rfl)
              · refine fx_ci (1) 98 (by decide +kernel) ?_
                refine fx_go 115 (by decide +kernel) ?_
                refine fx_retb (by decide +kernel) (by first | exact Or.inl rfl | exact Or.inr rfl | omega) ?_
                exact k2 q7 _ g7 (by rw [pCmp_l p3 t4, p7, bS_l]) h7 (by first | exact Or.inl rfl | exact Or.inr rfl)
          · refine fx_si 2 50 (by decide +kernel) (Or.inr (fI_n4 _)) rfl ?_
            dsimp only [List.set]
            refine fx_li 2 51 (by decide +kernel) rfl ?_
            refine fx_zne 73 54 (by decide +kernel) (by unfold fR; omega) (fun hc => absurd hc (by decide)) (fun _ => ?_)
            refine fx_la 0 55 (v := 1186) (by decide +kernel) rfl (by decide +kernel) ?_
            refine fx_ci (62) 57 (by decide +kernel) ?_
            refine fx_c2 281 21 60 2 [] (by decide +kernel) (by decide) (by decide) (fI_n4 _) rfl (by first | decide | omega) ?_
            refine sp_rsign s4 (by unfold fR; omega) (fun t5 g5 s5 a5 => fK1 ?_) (fun t5 g5 s5 a5 => fK1 ?_)
            · refine fx_zne 73 63 (by decide +kernel) (by unfold fR; omega) (fun _ => ?_) (fun hc => absurd hc (by decide))
              refine fx_la 0 74 (v := 1186) (by decide +kernel) rfl (by decide +kernel) ?_
              refine fx_dup 75 (by decide +kernel) rfl (by decide) ?_
              refine fx_gi 1186 148 11 78 (by decide +kernel) ?_
              try simp only [fu_app, fcy_app, Nat.reduceEqDiff, and_true, and_false, false_and, true_and, if_true, if_false, ite_true, ite_false, reduceIte, Int.reduceToNat, fx_simp0]
              rw [a5]
              refine fx_ci (1) 79 (by decide +kernel) ?_
              refine fx_add 80 (by decide +kernel) rfl ?_
              refine fx_pi 1186 148 11 83 (by decide +kernel) (by unfold fR; omega) ?_
              refine fx_la 0 84 (v := 1186) (by decide +kernel) rfl (by decide +kernel) ?_
              refine fx_c1 283 21 87 6 [7] (by decide +kernel) (by decide) rfl (by first | decide | omega) ?_
              have s6 := s5.to (a := f3 + 1) (by omega) (by have := t5.1; omega)
              refine sp_msum (c := c3) s6 (fun f7 c7 n7 g7 p7 h7 v7 r7 => fK1 ?_) (fun q7 n7 g7 p7 h7 r7 => fK1 ?_)
              all_goals have r7' := r7
              all_goals unfold fR at r7'
              · refine fx_si 3 88 (by decide +kernel) (Or.inr (fI_n4 _)) rfl ?_
                dsimp only [List.set]
                refine fx_li 2 89 (by decide +kernel) rfl ?_
                refine fx_zeq 105 92 (by decide +kernel) (by unfold fR; omega) (fun _ => ?_) (fun hc => absurd hc (by decide))
                refine fx_li 1 106 (by decide +kernel) rfl ?_
                refine fx_li 3 107 (by decide +kernel) rfl ?_
                refine fx_ile 114 110 (by decide +kernel) (by unfold fR; omega) (by unfold fR; omega) (fun h107 => ?_) (fun h107 => ?_)
                · refine fx_ci (0) 115 (by decide +kernel) ?_
                  refine fx_retb (by decide +kernel) (by first | exact Or.inl rfl | exact Or.inr rfl | omega) ?_
                  refine k1 _ _ _ g7 (by rw [pCmp_g p3 t4 t5, p7, bS_r]) h7 ?_ (by first | exact Or.inl rfl | exact Or.inr rfl)
                  rw [evS_1, v7, v3]
                  show (if n7 < n then (1 : Int) else 0) :: evS (fF g0) c = _
                  first | rw [if_pos (by omega)] | rw [if_neg (by omega)]
                · refine fx_ci (1) 111 (by decide +kernel) ?_
                  refine fx_go 115 (by decide +kernel) ?_
                  refine fx_retb (by decide +kernel) (by first | exact Or.inl rfl | exact Or.inr rfl | omega) ?_
                  refine k1 _ _ _ g7 (by rw [pCmp_g p3 t4 t5, p7, bS_r]) h7 ?_ (by first | exact Or.inl rfl | exact Or.inr rfl)
                  rw [evS_1, v7, v3]
                  show (if n7 < n then (1 : Int) else 0) :: evS (fF g0) c = _
                  first | rw [if_pos (by omega)] | rw [if_neg (by omega)]
              · refine fx_si 3 88 (by decide +kernel) (Or.inr (fI_n4 _)) rfl ?_
                dsimp only [List.set]
                refine fx_li 2 89 (by decide +kernel) rfl ?_
                refine fx_zeq 105 92 (by decide +kernel) (by unfold fR; omega) (fun _ => ?_) (fun hc => absurd hc (by decide))
                refine fx_li 1 106 (by decide +kernel) rfl ?_
                refine fx_li 3 107 (by decide +kernel) rfl ?_
                refine fx_ile 114 110 (by decide +kernel) (by unfold fR; omega) (by unfold fR; omega) (fun h107 => ?_) (fun h107 => ?_)
                · refine fx_ci (0) 115 (by decide +kernel) ?_
                  refine fx_retb (by decide +kernel) (by first | exact Or.inl rfl | exact Or.inr rfl | omega) ?_
                  exact k2 q7 _ g7 (by rw [pCmp_g p3 t4 t5, p7, bS_l]) h7 (by first | exact Or.inl rfl | exact Or.inr rfl)
                · refine fx_ci (1) 111 (by decide +kernel) ?_
                  refine fx_go 115 (by decide +kernel) ?_
                  refine fx_retb (by decide +kernel) (by first | exact Or.inl rfl | exact Or.inr rfl | omega) ?_
                  exact k2 q7 _ g7 (by rw [pCmp_g p3 t4 t5, p7, bS_l]) h7 (by first | exact Or.inl rfl | exact Or.inr rfl)
            · refine fx_zne 73 63 (by decide +kernel) (by unfold fR; omega) (fun hc => absurd hc (by decide)) (fun _ => ?_)
              refine fx_la 0 64 (v := 1186) (by decide +kernel) rfl (by decide +kernel) ?_
              refine fx_la 0 65 (v := 1186) (by decide +kernel) rfl (by decide +kernel) ?_
              refine fx_gi 1186 148 11 68 (by decide +kernel) ?_
              try simp only [fu_app, fcy_app, Nat.reduceEqDiff, and_true, and_false, false_and, true_and, if_true, if_false, ite_true, ite_false, reduceIte, Int.reduceToNat, fx_simp0]
              rw [a5]
              refine fx_c2 273 21 71 0 [] (by decide +kernel) (by decide) (by decide) (fI_n4 _) rfl (by first | decide | omega) ?_
              refine sp_wrong s5.2.2.2.2.1 (by unfold fR; omega) (fK0 ?_)
              refine fx_ci (0) 72 (by decide +kernel) ?_
              refine fx_retb (by decide +kernel) (by first | exact Or.inl rfl | exact Or.inr rfl | omega) ?_
              exact k2 f3 0 _ (pCmp_w p3 t4 t5) ⟨fu_eq _ _ _ _, ok3a, s5.2.2.2.2.2.2.f, by rw [fu_nj (by decide), a5]; exact ok3a, by rw [fu_nj (by decide), a5]; omega, by rw [fu_nj (by decide)]; exact s5.2.2.2.2.2.1⟩ (Or.inl rfl)
        · refine fx_ci (0) 42 (by decide +kernel) ?_
          refine fx_retb (by decide +kernel) (by first | exact Or.inl rfl | exact Or.inr rfl | omega) ?_
          exfalso; omega
      · refine fx_si 1 33 (by decide +kernel) (Or.inr (f_n4p (v := 1186) rfl (by decide))) rfl ?_
        dsimp only [List.set]
        refine fx_la 0 34 (v := 1186) (by decide +kernel) rfl (by decide +kernel) ?_
        refine fx_gi 1186 148 12 37 (by decide +kernel) ?_
        try simp only [fu_app, fcy_app, Nat.reduceEqDiff, and_true, and_false, false_and, true_and, if_true, if_false, ite_true, ite_false, reduceIte, Int.reduceToNat, fx_simp0]
        refine fx_rg (fun hg => ?_)
        have rf := hg 148 12 (by decide) (by decide +kernel) (by decide +kernel)
        unfold fR at rf
        refine fx_cn (-1) 38 (by decide +kernel) (fun v37 c37 => ?_)
        refine fx_ieq 43 41 (by decide +kernel) (by unfold fR; omega) (by unfold fR; omega) (fun h38 => ?_) (fun h38 => ?_)
        · have q1 := h3.1
          have q2 := h3.2.1
          exfalso; omega
        · refine fx_ci (0) 42 (by decide +kernel) ?_
          refine fx_retb (by decide +kernel) (by first | exact Or.inl rfl | exact Or.inr rfl | omega) ?_
          exact k2 q 0 g3 (pCmp_f p3) h3 (Or.inl rfl)
end G5H
