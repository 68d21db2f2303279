/-! fx: the reference reads the house's text, line by line -/
section FXQ
variable {W : ax_W} {r : Nat} {Q : Nat → Nat → (Nat → Nat → Int) → Prop} {T : Int → Int} {E : Int}
theorem RT_eq {g g' : Nat → Nat → Int} (hb : g 148 9 = -1) (h : RT T E g) (he : ∀ c j, ¬ (c = 149 ∧ j < 364) → g' c j = g c j) : RT T E g' := by
  obtain ⟨a1, a2, a3, a4, a5⟩ := h
  have e1 : g' 148 9 = -1 := by rw [he _ _ (by decide)]; exact hb
  refine ⟨by rw [he _ _ (by decide)]; exact a1, a2, a3, Or.inl e1, fun k k0 k1 => ?_⟩
  have e : flt g' k = flt g k := by
    unfold flt
    rw [if_pos e1, if_pos hb, he _ _ (fun t => absurd t.1 (by decide))]
  rw [e]
  exact a5 k k0 k1
theorem apLs_fu {c j : Nat} {z : Int} (h : c ≠ 149) : ∀ {us : List (List Int)} {g : Nat → Nat → Int}, apLs T us (fu g c j z) = fu (apLs T us g) c j z
  | [], g => rfl
  | u :: us, g => by
    show apLs T us (apL T u (fu g c j z)) = fu (apLs T us (apL T u g)) c j z
    rw [fu_apL h, apLs_fu h]
theorem sp_rd_x {g : Nat → Nat → Int} {n : Int} (kq : Q 1 (fI n) g) : fx W r 8 270 23 [1186, fI 0, fI 0, fI n] [] g Q := by
  refine fx_li 2 24 (by decide +kernel) rfl ?_
  refine fx_zeq 144 27 (by decide +kernel) (by unfold fR; omega) (fun _ => ?_) (fun hc => absurd hc (by decide))
  refine fx_li 3 145 (by decide +kernel) rfl ?_
  refine fx_ret (by decide +kernel) ?_
  exact kq
theorem sp_rd_y {g : Nat → Nat → Int} {n : Int} (hf : g 148 12 ≠ -1) (kq : Q 1 (fI n) g) : fx W r 8 270 23 [1186, fI 0, fI 1, fI n] [] g Q := by
  refine fx_rg (fun hg => ?_)
  refine fx_li 2 24 (by decide +kernel) rfl ?_
  refine fx_zeq 144 27 (by decide +kernel) (by unfold fR; omega) (fun hc => absurd hc (by decide)) (fun _ => ?_)
  refine fx_la 0 28 (v := 1186) (by decide +kernel) rfl (by decide +kernel) ?_
  refine fx_gi 1186 148 12 31 (by decide +kernel) ?_
  refine fx_ci (-1) 32 (by decide +kernel) ?_
  refine fx_ine 144 35 (by decide +kernel) (by first | exact hg 148 12 (by decide) (by decide +kernel) (by decide +kernel) | (unfold fR; omega)) (by unfold fR; omega) (fun h32 => ?_) (fun h32 => ?_)
  · refine fx_li 3 145 (by decide +kernel) rfl ?_
    refine fx_ret (by decide +kernel) ?_
    exact kq
  · exact absurd h32 hf
theorem sp_rd : ∀ (left : Nat) (n : Int) (g : Nat → Nat → Int) (f : Int), n = 14 - left → left ≤ 14 → g 148 9 = -1 → RT T E g → g 148 12 = -1 → 0 ≤ g 148 11 → g 148 11 ≤ E → pSk T E (g 148 11) = f → 0 ≤ g 149 3 → g 149 3 ≤ 8 → 0 ≤ g 149 4 → g 149 4 ≤ 6 →
    (∀ us, pAll T E left (g 149 3) (g 149 4) f = Sum.inr us → ∀ a v, 0 ≤ a → a ≤ E → fR v → Q 1 (fI v) (fu (apLs T us g) 148 11 a)) →
    (∀ q, pAll T E left (g 149 3) (g 149 4) f = Sum.inl q → ∀ g' v, eqx g g' → g' 148 12 = q → 0 ≤ q → q ≤ E → 0 ≤ g' 148 11 → g' 148 11 ≤ E → fR v → Q 1 (fI v) g') →
    fx W r 8 270 23 [1186, fI 0, fI 1, fI n] [] g Q
  | left, n, g, f, hn, hl, hb, h, hf, h0, h4, hsk, hp0, hp1, hd0, hd1, kq, kf => by
    have aN := h.1
    have aE := h.2.1
    have a3 := h.2.2.1
    refine fx_rg (fun hg => ?_)
    have f0 := pSk_ge T E (g 148 11)
    have f1 := pSk_le (T := T) h4
    have fo : pOk T E f := by subst hsk; exact pOk_sk h0 h4
    obtain ⟨f2, f3, f4⟩ := fo
    have hR : ∀ a, RT T E (fu g 148 11 a) := fun a => RT_fu h (by decide) (by decide)
    have hF : ∀ a, fu g 148 11 a 148 12 = -1 := fun a => by rw [fu_nj (by decide)]; exact hf
    have hB : ∀ a, fu g 148 11 a 148 9 = -1 := fun a => by rw [fu_nj (by decide)]; exact hb
    have hA : ∀ a, fu g 148 11 a 148 11 = a := fun a => fu_eq _ _ _ _
    have hM : ∀ a j, fu g 148 11 a 149 j = g 149 j := fun a j => fu_nc (by decide)
    match left, hn, hl, kq, kf with
    | 0, hn, hl, kq, kf =>
      refine fx_li 2 24 (by decide +kernel) rfl ?_
      refine fx_zeq 144 27 (by decide +kernel) (by unfold fR; omega) (fun hc => absurd hc (by decide)) (fun _ => ?_)
      refine fx_la 0 28 (v := 1186) (by decide +kernel) rfl (by decide +kernel) ?_
      refine fx_gi 1186 148 12 31 (by decide +kernel) ?_
      refine fx_ci (-1) 32 (by decide +kernel) ?_
      refine fx_ine 144 35 (by decide +kernel) (by first | exact hg 148 12 (by decide) (by decide +kernel) (by decide +kernel) | (unfold fR; omega)) (by unfold fR; omega) (fun h32 => ?_) (fun h32 => ?_)
      · exact absurd hf h32
      · refine fx_la 0 36 (v := 1186) (by decide +kernel) rfl (by decide +kernel) ?_
        refine fx_c1 271 21 39 1 [] (by decide +kernel) (by decide) rfl (by first | decide | omega) ?_
        refine sp_skip h h0 (fK0 ?_)
        rw [hsk]
        refine fx_li 3 40 (by decide +kernel) rfl ?_
        refine fx_li 1 41 (by decide +kernel) rfl ?_
        refine fx_zeq 49 44 (by decide +kernel) (by unfold fR; omega) (fun _ => ?_) (fun hc => absurd hc (by decide))
        refine fx_ci (14) 51 (by decide +kernel) ?_
        refine fx_ine 65 54 (by decide +kernel) (by unfold fR; omega) (by unfold fR; omega) (fun h51 => ?_) (fun h51 => ?_)
        · exfalso; omega
        · refine fx_la 0 55 (v := 1186) (by decide +kernel) rfl (by decide +kernel) ?_
          refine fx_la 0 56 (v := 1186) (by decide +kernel) rfl (by decide +kernel) ?_
          refine fx_gi 1186 148 11 59 (by decide +kernel) ?_
          try simp only [fu_app, fcy_app, Nat.reduceEqDiff, and_true, and_false, false_and, true_and, if_true, if_false, ite_true, ite_false, reduceIte, Int.reduceToNat, fx_simp0]
          refine fx_c2 273 21 62 0 [] (by decide +kernel) (by decide) (by decide) (fI_n4 _) rfl (by first | decide | omega) ?_
          refine sp_wrong (hF _) (by unfold fR; omega) (fK0 ?_)
          refine fx_go 80 (by decide +kernel) ?_
          refine fx_inc 3 83 (1) (by decide +kernel) rfl (Or.inr (fI_n4 _)) rfl ?_
          dsimp only [List.set]
          refine fx_la 0 84 (v := 1186) (by decide +kernel) rfl (by decide +kernel) ?_
          refine fx_c1 271 21 87 1 [] (by decide +kernel) (by decide) rfl (by first | decide | omega) ?_
          refine sp_skip (RT_fu (hR _) (by decide) (by decide)) (by rw [fu_nj (by decide), hA]; omega) (fK0 ?_)
          rw [fu_nj (by decide), hA, f4]
          refine fx_la 0 88 (v := 1186) (by decide +kernel) rfl (by decide +kernel) ?_
          refine fx_gi 1186 148 12 91 (by decide +kernel) ?_
          try simp only [fu_app, fcy_app, Nat.reduceEqDiff, and_true, and_false, false_and, true_and, if_true, if_false, ite_true, ite_false, reduceIte, Int.reduceToNat, fx_simp0]
          refine fx_ci (-1) 92 (by decide +kernel) ?_
          refine fx_ine 106 95 (by decide +kernel) (by unfold fR; omega) (by unfold fR; omega) (fun h92 => ?_) (fun h92 => ?_)
          · refine fx_ci (0) 107 (by decide +kernel) ?_
            refine fx_si 2 108 (by decide +kernel) (Or.inr (fI_n4 _)) rfl ?_
            dsimp only [List.set]
            refine fx_go 23 (by decide +kernel) ?_
            refine sp_rd_x (kf f rfl _ _ (eqx_tr (eqx_tr (eqx_at _ _) (eqx_fault _ _)) (eqx_at _ _)) ?_ f2 f3 ?_ ?_ ?_)
            · rw [fu_nj (by decide), fu_eq]
            · rw [fu_eq]; exact f2
            · rw [fu_eq]; exact f3
            · unfold fR; omega
          · exfalso; omega
    | left + 1, hn, hl, kq, kf =>
      have eP : ∀ x, pLine T E (g 149 3) (g 149 4) f = x → pAll T E (left + 1) (g 149 3) (g 149 4) f = bS x (fun a => if a.1 = E then Sum.inr [a.2] else if T a.1 = 59 then bS (pAll T E left (g 149 3 + k0 a.2) (g 149 4 + k1 a.2) (pSk T E (a.1 + 1))) (fun us => Sum.inr (a.2 :: us)) else Sum.inl a.1) := fun x hx => by rw [← hx]; rfl
      refine fx_li 2 24 (by decide +kernel) rfl ?_
      refine fx_zeq 144 27 (by decide +kernel) (by unfold fR; omega) (fun hc => absurd hc (by decide)) (fun _ => ?_)
      refine fx_la 0 28 (v := 1186) (by decide +kernel) rfl (by decide +kernel) ?_
      refine fx_gi 1186 148 12 31 (by decide +kernel) ?_
      refine fx_ci (-1) 32 (by decide +kernel) ?_
      refine fx_ine 144 35 (by decide +kernel) (by first | exact hg 148 12 (by decide) (by decide +kernel) (by decide +kernel) | (unfold fR; omega)) (by unfold fR; omega) (fun h32 => ?_) (fun h32 => ?_)
      · exact absurd hf h32
      · refine fx_la 0 36 (v := 1186) (by decide +kernel) rfl (by decide +kernel) ?_
        refine fx_c1 271 21 39 1 [] (by decide +kernel) (by decide) rfl (by first | decide | omega) ?_
        refine sp_skip h h0 (fK0 ?_)
        rw [hsk]
        refine fx_li 3 40 (by decide +kernel) rfl ?_
        refine fx_li 1 41 (by decide +kernel) rfl ?_
        refine fx_zeq 49 44 (by decide +kernel) (by unfold fR; omega) (fun _ => ?_) (fun hc => absurd hc (by decide))
        refine fx_ci (14) 51 (by decide +kernel) ?_
        refine fx_ine 65 54 (by decide +kernel) (by unfold fR; omega) (by unfold fR; omega) (fun h51 => ?_) (fun h51 => ?_)
        · refine fx_li 1 66 (by decide +kernel) rfl ?_
          refine fx_zeq 76 69 (by decide +kernel) (by unfold fR; omega) (fun _ => ?_) (fun hc => absurd hc (by decide))
          refine fx_la 0 77 (v := 1186) (by decide +kernel) rfl (by decide +kernel) ?_
          refine fx_c1 285 21 80 7 [7] (by decide +kernel) (by decide) rfl (by first | decide | omega) ?_
          refine sp_houseLine (f := f) (hB _) (hR _) (hF _) (by rw [hA]; omega) (by rw [hA]; omega) (by rw [hA]; exact f4) (by rw [hM]; exact hp0) (by rw [hM]; exact hp1) (by rw [hM]; exact hd0) (by rw [hM]; exact hd1) (fun f' u e a q1 q2 q3 => fK0 ?_) (fun q e a q1 q2 => fK0 ?_)
          · rw [fu_fu, fu_apL (by decide)]
            rw [hM, hM] at e
            obtain ⟨fo', hu⟩ := pLine_ok e ⟨f2, f3, f4⟩ hp1 hd1
            obtain ⟨g1, g2, g3, g4, g5, g6, g7⟩ := apL_ok (T := T) hu hp0 hp1 hd0 hd1
            have eq := eP _ e
            have eq : pAll T E (left + 1) (g 149 3) (g 149 4) f = (if f' = E then Sum.inr [u] else if T f' = 59 then bS (pAll T E left (g 149 3 + k0 u) (g 149 4 + k1 u) (pSk T E (f' + 1))) (fun us => Sum.inr (u :: us)) else Sum.inl f') := eq
            have gR : RT T E (apL T u g) := RT_eq hb h g3
            have gF : apL T u g 148 12 = -1 := by rw [g3 _ _ (by decide)]; exact hf
            have gB : apL T u g 148 9 = -1 := by rw [g3 _ _ (by decide)]; exact hb
            have gX : eqx g (apL T u g) := fun c j a b => g3 c j a
            have kq : ∀ us, pAll T E (left + 1) (g 149 3) (g 149 4) f = Sum.inr (u :: us) → ∀ a v, 0 ≤ a → a ≤ E → fR v → Q 1 (fI v) (fu (apLs T us (apL T u g)) 148 11 a) := fun us t => kq (u :: us) t
            obtain ⟨p0, p1, p2⟩ := fo'
            have gE := gR.1
            generalize apL T u g = G at *
            have GR : ∀ a, RT T E (fu G 148 11 a) := fun a => RT_fu gR (by decide) (by decide)
            have GF : ∀ a, fu G 148 11 a 148 12 = -1 := fun a => by rw [fu_nj (by decide)]; exact gF
            have GB : ∀ a, fu G 148 11 a 148 9 = -1 := fun a => by rw [fu_nj (by decide)]; exact gB
            have GA : ∀ a, fu G 148 11 a 148 11 = a := fun a => fu_eq _ _ _ _
            have GM : ∀ a j, fu G 148 11 a 149 j = G 149 j := fun a j => fu_nc (by decide)
            refine fx_inc 3 83 (1) (by decide +kernel) rfl (Or.inr (fI_n4 _)) rfl ?_
            dsimp only [List.set]
            refine fx_la 0 84 (v := 1186) (by decide +kernel) rfl (by decide +kernel) ?_
            refine fx_c1 271 21 87 1 [] (by decide +kernel) (by decide) rfl (by first | decide | omega) ?_
            refine sp_skip (GR _) (by rw [GA]; omega) (fK0 ?_)
            rw [GA, q3, fu_fu]
            refine fx_la 0 88 (v := 1186) (by decide +kernel) rfl (by decide +kernel) ?_
            refine fx_gi 1186 148 12 91 (by decide +kernel) ?_
            try simp only [fu_app, fcy_app, Nat.reduceEqDiff, and_true, and_false, false_and, true_and, if_true, if_false, ite_true, ite_false, reduceIte, Int.reduceToNat, fx_simp0]
            refine fx_ci (-1) 92 (by decide +kernel) ?_
            refine fx_ine 106 95 (by decide +kernel) (by unfold fR; omega) (by unfold fR; omega) (fun h92 => ?_) (fun h92 => ?_)
            · refine fx_ci (0) 107 (by decide +kernel) ?_
              refine fx_si 2 108 (by decide +kernel) (Or.inr (fI_n4 _)) rfl ?_
              dsimp only [List.set]
              refine fx_go 23 (by decide +kernel) ?_
              exfalso; omega
            · refine fx_la 0 96 (v := 1186) (by decide +kernel) rfl (by decide +kernel) ?_
              refine fx_gi 1186 148 11 99 (by decide +kernel) ?_
              try simp only [fu_app, fcy_app, Nat.reduceEqDiff, and_true, and_false, false_and, true_and, if_true, if_false, ite_true, ite_false, reduceIte, Int.reduceToNat, fx_simp0]
              refine fx_la 0 100 (v := 1186) (by decide +kernel) rfl (by decide +kernel) ?_
              refine fx_gi 1186 148 10 103 (by decide +kernel) ?_
              try simp only [fu_app, fcy_app, Nat.reduceEqDiff, and_true, and_false, false_and, true_and, if_true, if_false, ite_true, ite_false, reduceIte, Int.reduceToNat, fx_simp0]
              refine fx_ine 111 106 (by decide +kernel) (by unfold fR; omega) (by unfold fR; omega) (fun h103 => ?_) (fun h103 => ?_)
              · refine fx_la 0 112 (v := 1186) (by decide +kernel) rfl (by decide +kernel) ?_
                refine fx_ci (59) 114 (by decide +kernel) ?_
                refine fx_c2 281 21 117 2 [] (by decide +kernel) (by decide) (by decide) (fI_n4 _) rfl (by first | decide | omega) ?_
                refine sp_isSign (c := 59) (GR _) (by rw [GA]; omega) (by rw [GA]; omega) (by unfold fR; omega) (fun b => fK1 ?_) (fun b => fK1 ?_)
                all_goals rw [GA, p2] at b
                all_goals rw [GA, p2, fu_fu]
                · refine fx_zeq 133 120 (by decide +kernel) (by unfold fR; omega) (fun hc => absurd hc (by decide)) (fun _ => ?_)
                  refine fx_la 0 121 (v := 1186) (by decide +kernel) rfl (by decide +kernel) ?_
                  refine fx_dup 122 (by decide +kernel) rfl (by decide) ?_
                  refine fx_gi 1186 148 11 125 (by decide +kernel) ?_
                  try simp only [fu_app, fcy_app, Nat.reduceEqDiff, and_true, and_false, false_and, true_and, if_true, if_false, ite_true, ite_false, reduceIte, Int.reduceToNat, fx_simp0]
                  refine fx_ci (1) 126 (by decide +kernel) ?_
                  refine fx_add 127 (by decide +kernel) rfl ?_
                  refine fx_pi 1186 148 11 130 (by decide +kernel) (by unfold fR; omega) ?_
                  refine fx_go 23 (by decide +kernel) ?_
                  rw [if_neg (by omega), if_pos b.2] at eq
                  rw [fu_fu]
                  refine sp_rd left (n + 1) (fu G 148 11 (f' + 1)) (pSk T E (f' + 1)) (by omega) (by omega) (GB _) (GR _) (GF _) (by rw [GA]; omega) (by rw [GA]; omega) (by rw [GA]) (by rw [GM]; omega) (by rw [GM]; omega) (by rw [GM]; omega) (by rw [GM]; omega) (fun us t a v t1 t2 t3 => ?_) (fun q t g' v t1 t2 t3 t4 t5 t6 t7 => ?_)
                  · rw [GM, GM, g1, g2] at t
                    rw [t] at eq
                    rw [apLs_fu (by decide), fu_fu]
                    exact kq us eq a v t1 t2 t3
                  · rw [GM, GM, g1, g2] at t
                    rw [t] at eq
                    exact kf q eq g' v (eqx_tr gX (eqx_tr (eqx_at _ _) t1)) t2 t3 t4 t5 t6 t7
                · refine fx_zeq 133 120 (by decide +kernel) (by unfold fR; omega) (fun _ => ?_) (fun hc => absurd hc (by decide))
                  refine fx_la 0 134 (v := 1186) (by decide +kernel) rfl (by decide +kernel) ?_
                  refine fx_la 0 135 (v := 1186) (by decide +kernel) rfl (by decide +kernel) ?_
                  refine fx_gi 1186 148 11 138 (by decide +kernel) ?_
                  try simp only [fu_app, fcy_app, Nat.reduceEqDiff, and_true, and_false, false_and, true_and, if_true, if_false, ite_true, ite_false, reduceIte, Int.reduceToNat, fx_simp0]
                  refine fx_c2 273 21 141 0 [] (by decide +kernel) (by decide) (by decide) (fI_n4 _) rfl (by first | decide | omega) ?_
                  refine sp_wrong (GF _) (by unfold fR; omega) (fK0 ?_)
                  refine fx_go 23 (by decide +kernel) ?_
                  rw [if_neg (by omega), if_neg (by omega)] at eq
                  refine sp_rd_y (by rw [fu_eq]; omega) (kf f' eq _ _ (eqx_tr gX (eqx_tr (eqx_at _ _) (eqx_fault _ _))) ?_ p0 p1 ?_ ?_ ?_)
                  · rw [fu_eq]
                  · rw [fu_nj (by decide), fu_eq]; exact p0
                  · rw [fu_nj (by decide), fu_eq]; exact p1
                  · unfold fR; omega
              · refine fx_ci (0) 107 (by decide +kernel) ?_
                refine fx_si 2 108 (by decide +kernel) (Or.inr (fI_n4 _)) rfl ?_
                dsimp only [List.set]
                refine fx_go 23 (by decide +kernel) ?_
                have t : f' = E := by omega
                rw [if_pos t] at eq
                exact sp_rd_x (kq [] eq _ _ p0 p1 (by unfold fR; omega))
          · rw [fu_fu]
            rw [hM, hM] at e
            have eq := eP _ e
            have eq : pAll T E (left + 1) (g 149 3) (g 149 4) f = Sum.inl q := eq
            have qb := pLine_bad e ⟨f2, f3, f4⟩
            have s0 := pSk_ge T E a
            have s1 := pSk_le (T := T) q2
            refine fx_inc 3 83 (1) (by decide +kernel) rfl (Or.inr (fI_n4 _)) rfl ?_
            dsimp only [List.set]
            refine fx_la 0 84 (v := 1186) (by decide +kernel) rfl (by decide +kernel) ?_
            refine fx_c1 271 21 87 1 [] (by decide +kernel) (by decide) rfl (by first | decide | omega) ?_
            refine sp_skip (RT_fu (hR _) (by decide) (by decide)) (by rw [fu_nj (by decide), hA]; omega) (fK0 ?_)
            rw [fu_nj (by decide), hA]
            refine fx_la 0 88 (v := 1186) (by decide +kernel) rfl (by decide +kernel) ?_
            refine fx_gi 1186 148 12 91 (by decide +kernel) ?_
            try simp only [fu_app, fcy_app, Nat.reduceEqDiff, and_true, and_false, false_and, true_and, if_true, if_false, ite_true, ite_false, reduceIte, Int.reduceToNat, fx_simp0]
            refine fx_ci (-1) 92 (by decide +kernel) ?_
            refine fx_ine 106 95 (by decide +kernel) (by unfold fR; omega) (by unfold fR; omega) (fun h92 => ?_) (fun h92 => ?_)
            · refine fx_ci (0) 107 (by decide +kernel) ?_
              refine fx_si 2 108 (by decide +kernel) (Or.inr (fI_n4 _)) rfl ?_
              dsimp only [List.set]
              refine fx_go 23 (by decide +kernel) ?_
              refine sp_rd_x (kf q eq _ _ (eqx_tr (eqx_tr (eqx_at _ _) (eqx_fault _ _)) (eqx_at _ _)) ?_ qb.1 qb.2 ?_ ?_ ?_)
              · rw [fu_nj (by decide), fu_eq]
              · rw [fu_eq]; omega
              · rw [fu_eq]; exact s1
              · unfold fR; omega
            · exfalso; omega
        · exfalso; omega
/-- all lines of a text, none too -/
noncomputable def pText (T : Int → Int) (E pp dd : Int) : Int ⊕ List (List Int) := if pSk T E 0 = E then Sum.inr [] else pAll T E 14 pp dd (pSk T E 0)
theorem sp_read {g : Nat → Nat → Int} (hb : g 148 9 = -1) (h : RT T E g) (hf : g 148 12 = -1) (h0 : g 148 11 = 0) (hp0 : 0 ≤ g 149 3) (hp1 : g 149 3 ≤ 8) (hd0 : 0 ≤ g 149 4) (hd1 : g 149 4 ≤ 6)
    (kq : ∀ us, pText T E (g 149 3) (g 149 4) = Sum.inr us → ∀ a v, 0 ≤ a → a ≤ E → fR v → Q 1 (fI v) (fu (apLs T us g) 148 11 a))
    (kf : ∀ q, pText T E (g 149 3) (g 149 4) = Sum.inl q → ∀ g' v, eqx g g' → g' 148 12 = q → 0 ≤ q → q ≤ E → fR v → Q 1 (fI v) g') : fx W r 8 270 0 [1186, fI 0, 7, 7] [] g Q := by
  have aN := h.1
  have aE := h.2.1
  have a3 := h.2.2.1
  have f0 := pSk_ge T E 0
  have f1 := pSk_le (T := T) aE
  have f4 := pSk_id (T := T) aE
  have hR : ∀ a, RT T E (fu g 148 11 a) := fun a => RT_fu h (by decide) (by decide)
  have hF : ∀ a, fu g 148 11 a 148 12 = -1 := fun a => by rw [fu_nj (by decide)]; exact hf
  have hB : ∀ a, fu g 148 11 a 148 9 = -1 := fun a => by rw [fu_nj (by decide)]; exact hb
  have hA : ∀ a, fu g 148 11 a 148 11 = a := fun a => fu_eq _ _ _ _
  have hM : ∀ a j, fu g 148 11 a 149 j = g 149 j := fun a j => fu_nc (by decide)
  unfold pText at kq kf
  refine fx_la 0 1 (v := 1186) (by decide +kernel) rfl (by decide +kernel) ?_
  refine fx_c1 271 21 4 1 [] (by decide +kernel) (by decide) rfl (by first | decide | omega) ?_
  refine sp_skip h (by omega) (fK0 ?_)
  rw [h0]
  refine fx_la 0 5 (v := 1186) (by decide +kernel) rfl (by decide +kernel) ?_
  refine fx_gi 1186 148 11 8 (by decide +kernel) ?_
  try simp only [fu_app, fcy_app, Nat.reduceEqDiff, and_true, and_false, false_and, true_and, if_true, if_false, ite_true, ite_false, reduceIte, Int.reduceToNat, fx_simp0]
  refine fx_la 0 9 (v := 1186) (by decide +kernel) rfl (by decide +kernel) ?_
  refine fx_gi 1186 148 10 12 (by decide +kernel) ?_
  try simp only [fu_app, fcy_app, Nat.reduceEqDiff, and_true, and_false, false_and, true_and, if_true, if_false, ite_true, ite_false, reduceIte, Int.reduceToNat, fx_simp0]
  refine fx_ige 19 15 (by decide +kernel) (by unfold fR; omega) (by unfold fR; omega) (fun h12 => ?_) (fun h12 => ?_)
  · refine fx_ci (0) 20 (by decide +kernel) ?_
    refine fx_si 2 21 (by decide +kernel) (Or.inr (fI_n4 _)) rfl ?_
    dsimp only [List.set]
    refine fx_ci (0) 22 (by decide +kernel) ?_
    refine fx_si 3 23 (by decide +kernel) (Or.inr (fI_n4 _)) rfl ?_
    dsimp only [List.set]
    rw [if_pos (by omega)] at kq
    exact sp_rd_x (kq [] rfl _ _ (by omega) f1 (by unfold fR; omega))
  · refine fx_ci (1) 16 (by decide +kernel) ?_
    refine fx_go 20 (by decide +kernel) ?_
    refine fx_si 2 21 (by decide +kernel) (Or.inr (fI_n4 _)) rfl ?_
    dsimp only [List.set]
    refine fx_ci (0) 22 (by decide +kernel) ?_
    refine fx_si 3 23 (by decide +kernel) (Or.inr (fI_n4 _)) rfl ?_
    dsimp only [List.set]
    rw [if_neg (by omega)] at kq kf
    refine sp_rd 14 0 _ (pSk T E 0) rfl (by decide) (hB _) (hR _) (hF _) (by rw [hA]; omega) (by rw [hA]; omega) (by rw [hA]; exact f4) (by rw [hM]; omega) (by rw [hM]; omega) (by rw [hM]; omega) (by rw [hM]; omega) (fun us t a v t1 t2 t3 => ?_) (fun q t g' v t1 t2 t3 t4 t5 t6 t7 => ?_)
    · rw [hM, hM] at t
      rw [apLs_fu (by decide), fu_fu]
      exact kq us t a v t1 t2 t3
    · rw [hM, hM] at t
      exact kf q t g' v (eqx_tr (eqx_at _ _) t1) t2 t3 t4 t7
end FXQ
