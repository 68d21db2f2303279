/-! fx: the class reads the house's text -/
section FXW
variable {W : ax_W} {r : Nat} {Q : Nat → Nat → (Nat → Nat → Int) → Prop} {T : Int → Int} {E : Int}
theorem apC_fu {g : Nat → Nat → Int} {j : Nat} {z : Int} {u : List Int} : apC T u (fu g 28 j z) = fu (apC T u g) 28 j z := by
  have s : ∀ (g : Nat → Nat → Int) (c k : Nat) y, c ≠ 28 → fu (fu g 28 j z) c k y = fu (fu g c k y) 28 j z := fun g c k y h => fu_sw _ _ _ (fun t => h t.1.symm)
  unfold apC
  split
  · unfold apCP
    rw [fu_nc (by decide), s _ _ _ _ (by decide), s _ _ _ _ (by decide), s _ _ _ _ (by decide), s _ _ _ _ (by decide), s _ _ _ _ (by decide), s _ _ _ _ (by decide), s _ _ _ _ (by decide)]
  · split
    · unfold apCD
      rw [fu_nc (by decide), ← dshC_fu (by decide), s _ _ _ _ (by decide)]
    · split
      · unfold apCR
        rw [fu_nc (by decide), s _ _ _ _ (by decide), fu_nc (by decide), s _ _ _ _ (by decide)]
      · split
        · unfold apCS
          split
          · exact s _ _ _ _ (by decide)
          · split
            · exact s _ _ _ _ (by decide)
            · split
              · exact s _ _ _ _ (by decide)
              · split
                · exact s _ _ _ _ (by decide)
                · exact s _ _ _ _ (by decide)
        · exact s _ _ _ _ (by decide)
theorem apC_at {g : Nat → Nat → Int} {u : List Int} {f : Int} : apC T u (cAt T E g f) = cAt T E (apC T u g) f := by
  unfold cAt
  rw [apC_fu, apC_fu]
noncomputable def apCs (T : Int → Int) (us : List (List Int)) (g : Nat → Nat → Int) : Nat → Nat → Int := us.foldl (fun g u => apC T u g) g
theorem apCs_at {f : Int} : ∀ {us : List (List Int)} {g : Nat → Nat → Int}, apCs T us (cAt T E g f) = cAt T E (apCs T us g) f
  | [], g => rfl
  | u :: us, g => by
    show apCs T us (apC T u (cAt T E g f)) = cAt T E (apCs T us (apC T u g)) f
    rw [apC_at, apCs_at]
/-- what a line does in the class: counts, nothing else -/
theorem apC_ok {g : Nat → Nat → Int} {u : List Int} (hu : uOk E (g 29 4) (g 29 5) u) :
    apC T u g 29 4 = g 29 4 + k0 u ∧ apC T u g 29 5 = g 29 5 + k1 u ∧ eqc g (apC T u g) ∧ (∀ j, apC T u g 28 j = g 28 j) := by
  rcases hu with ⟨w, pl, v, l, rfl, hu⟩ | ⟨b, rfl, hu⟩ | ⟨x, y, rfl, hu⟩ | ⟨x, y, rfl, hu⟩ | ⟨x, y, rfl, hu⟩
  · have e0 : k0 [0, w, pl, v, l] = 1 := rfl
    have e1 : k1 [0, w, pl, v, l] = 0 := rfl
    rw [apC_0, e0, e1]
    unfold apCP
    refine ⟨?_, ?_, fun c j h => ?_, fun j => ?_⟩
    · rw [fu_nc (by decide), fu_nc (by decide), fu_nc (by decide), fu_nc (by decide), fu_eq]
    · rw [fu_nc (by decide), fu_nc (by decide), fu_nc (by decide), fu_nc (by decide), fu_nj (by decide), fu_nc (by decide), fu_nc (by decide)]; omega
    · rw [fu_nc (by omega), fu_nc (by omega), fu_nc (by omega), fu_nc (by omega), fu_nc (by omega), fu_nc (by omega), fu_nc (by omega)]
    · rw [fu_nc (by decide), fu_nc (by decide), fu_nc (by decide), fu_nc (by decide), fu_nc (by decide), fu_nc (by decide), fu_nc (by decide)]
  · have e0 : k0 [1, b] = 0 := rfl
    have e1 : k1 [1, b] = 1 := rfl
    rw [apC_1, e0, e1]
    unfold apCD
    refine ⟨?_, fu_eq _ _ _ _, fun c j h => ?_, fun j => ?_⟩
    · rw [fu_nj (by decide), dshC_ne (by decide)]; omega
    · rw [fu_nc (by omega), dshC_ne (by omega)]
    · rw [fu_nc (by decide), dshC_ne (by decide)]
  · have e0 : k0 [2, x, y] = 0 := rfl
    have e1 : k1 [2, x, y] = 0 := rfl
    rw [apC_2, e0, e1]
    unfold apCR
    refine ⟨?_, ?_, fun c j h => ?_, fun j => ?_⟩
    · rw [fu_nc (by decide), fu_nc (by decide)]; omega
    · rw [fu_nc (by decide), fu_nc (by decide)]; omega
    · rw [fu_nc (by omega), fu_nc (by omega)]
    · rw [fu_nc (by decide), fu_nc (by decide)]
  · have e0 : k0 [3, x, y] = 0 := rfl
    have e1 : k1 [3, x, y] = 0 := rfl
    rw [apC_3, e0, e1]
    have st : ∀ c j, ((22 = c ∨ 29 = c) → j < 7 ∧ c = 29) → apCS x y g c j = g c j := fun c j h => by
      unfold apCS
      split
      · exact fu_ne (by omega)
      · split
        · exact fu_ne (by omega)
        · split
          · exact fu_ne (by omega)
          · split
            · exact fu_ne (by omega)
            · exact fu_ne (by omega)
    refine ⟨?_, ?_, fun c j h => st c j (fun t => by omega), fun j => st _ j (fun t => by omega)⟩
    · rw [st _ _ (fun t => by decide)]; omega
    · rw [st _ _ (fun t => by decide)]; omega
  · have e0 : k0 [4, x, y] = 0 := rfl
    have e1 : k1 [4, x, y] = 0 := rfl
    rw [apC_4, e0, e1]
    unfold apCV
    refine ⟨?_, ?_, fun c j h => ?_, fun j => ?_⟩
    · rw [fu_nc (by decide)]; omega
    · rw [fu_nc (by decide)]; omega
    · rw [fu_nc (by omega)]
    · rw [fu_nc (by decide)]
theorem cSt_apC {g : Nat → Nat → Int} {u : List Int} {f : Int} (hu : uOk E (g 29 4) (g 29 5) u) (h : cSt T E g f) : cSt T E (apC T u g) f := by
  obtain ⟨a1, a2, a3, a4⟩ := apC_ok (T := T) hu
  exact ⟨CT_eq h.1 (a4 _) (fun j => a3 _ _ (by omega)), by rw [a4]; exact h.2.1, by rw [a4]; exact h.2.2.1, h.2.2.2⟩
theorem sp_rls : ∀ (left : Nat) (n : Int) (g : Nat → Nat → Int) (f : Int), n = 14 - left → left ≤ 14 → cSt T E g f → g 28 1 = -1 → 0 ≤ g 29 4 → g 29 4 ≤ 8 → 0 ≤ g 29 5 → g 29 5 ≤ 6 →
    (∀ us, pAll T E left (g 29 4) (g 29 5) f = Sum.inr us → ∀ f', Q 1 (fI 1) (cAt T E (apCs T us g) f')) →
    (∀ q, pAll T E left (g 29 4) (g 29 5) f = Sum.inl q → ∀ g', eqc g g' → g' 28 1 = q → Q 1 (fI 0) g') →
    fx W r 9 75 11 [226, fI 14, fI n] [] g Q
  | left, n, g, f, hn, hl, h, hw, hp0, hp1, hd0, hd1, kq, kf => by
    have a3 := h.1.2.2.1
    have f0 := h.2.2.2.1
    have f1 := h.2.2.2.2.1
    refine fx_rg (fun hg => ?_)
    match left, hn, hl, kq, kf with
    | 0, hn, hl, kq, kf =>
      refine fx_li 2 12 (by decide +kernel) rfl ?_
      refine fx_li 1 13 (by decide +kernel) rfl ?_
      refine fx_ige 58 16 (by decide +kernel) (by unfold fR; omega) (by unfold fR; omega) (fun h13 => ?_) (fun h13 => ?_)
      · refine fx_la 0 59 (v := 226) (by decide +kernel) rfl (by decide +kernel) ?_
        refine fx_la 0 60 (v := 226) (by decide +kernel) rfl (by decide +kernel) ?_
        refine fx_gi 226 28 2 63 (by decide +kernel) ?_
        rw [h.2.1]
        refine fx_c2 92 21 66 0 [] (by decide +kernel) (by decide) (by decide) (fI_n4 _) rfl (by first | decide | omega) ?_
        refine sp_wrongAt (by unfold fR; omega) (fK1 ?_)
        refine fx_retb (by decide +kernel) (by first | exact Or.inl rfl | exact Or.inr rfl | omega) ?_
        exact kf f rfl _ (eqc_fu _ _ _ _ (by decide)) (fu_eq _ _ _ _)
      · exfalso; omega
    | left + 1, hn, hl, kq, kf =>
      have eP : ∀ x, pLine T E (g 29 4) (g 29 5) f = x → pAll T E (left + 1) (g 29 4) (g 29 5) f = bS x (fun a => if a.1 = E then Sum.inr [a.2] else if T a.1 = 59 then bS (pAll T E left (g 29 4 + k0 a.2) (g 29 5 + k1 a.2) (pSk T E (a.1 + 1))) (fun us => Sum.inr (a.2 :: us)) else Sum.inl a.1) := fun x hx => by rw [← hx]; rfl
      refine fx_li 2 12 (by decide +kernel) rfl ?_
      refine fx_li 1 13 (by decide +kernel) rfl ?_
      refine fx_ige 58 16 (by decide +kernel) (by unfold fR; omega) (by unfold fR; omega) (fun h13 => ?_) (fun h13 => ?_)
      · exfalso; omega
      · refine fx_la 0 17 (v := 226) (by decide +kernel) rfl (by decide +kernel) ?_
        refine fx_c1 77 40 20 8 [7] (by decide +kernel) (by decide) rfl (by first | decide | omega) ?_
        refine sp_readLine h hw hp0 hp1 hd0 hd1 (fun f' u e => fK1 ?_) (fun q e g' e1 e2 => fK1 ?_)
        · obtain ⟨fo', hu⟩ := pLine_ok e h.2.2.2 hp1 hd1
          obtain ⟨g1, g2, g3, g4⟩ := apC_ok (T := T) hu
          have cn := uOk_cnt hu hp1 hd1
          have eq := eP _ e
          have eq : pAll T E (left + 1) (g 29 4) (g 29 5) f = (if f' = E then Sum.inr [u] else if T f' = 59 then bS (pAll T E left (g 29 4 + k0 u) (g 29 5 + k1 u) (pSk T E (f' + 1))) (fun us => Sum.inr (u :: us)) else Sum.inl f') := eq
          rw [apC_at]
          have gW : apC T u g 28 1 = -1 := by rw [g4]; exact hw
          have gC : CT T E (apC T u g) := (cSt_apC hu h).1
          have kq : ∀ us, pAll T E (left + 1) (g 29 4) (g 29 5) f = Sum.inr (u :: us) → ∀ f', Q 1 (fI 1) (cAt T E (apCs T us (apC T u g)) f') := fun us t => kq (u :: us) t
          generalize apC T u g = G at *
          have GS : ∀ f', pOk T E f' → cSt T E (cAt T E G f') f' := fun f' t => cSt_at gC t
          have GW : ∀ f', cAt T E G f' 28 1 = -1 := fun f' => by unfold cAt; rw [fu_nj (by decide), fu_nj (by decide)]; exact gW
          have GP : ∀ f', cAt T E G f' 29 4 = G 29 4 := fun f' => by unfold cAt; rw [fu_nc (by decide), fu_nc (by decide)]
          have GD : ∀ f', cAt T E G f' 29 5 = G 29 5 := fun f' => by unfold cAt; rw [fu_nc (by decide), fu_nc (by decide)]
          have p0 := fo'.1
          have p1 := fo'.2.1
          refine fx_zne 25 23 (by decide +kernel) (by unfold fR; omega) (fun _ => ?_) (fun hc => absurd hc (by decide))
          refine fx_la 0 26 (v := 226) (by decide +kernel) rfl (by decide +kernel) ?_
          refine fx_c1 76 21 29 0 [] (by decide +kernel) (by decide) rfl (by first | decide | omega) ?_
          refine sp_isOver (GS _ fo') (fun b26 => fK1 ?_) (fun b26 => fK1 ?_)
          · refine fx_zeq 34 32 (by decide +kernel) (by unfold fR; omega) (fun hc => absurd hc (by decide)) (fun _ => ?_)
            refine fx_ci (1) 33 (by decide +kernel) ?_
            refine fx_retb (by decide +kernel) (by first | exact Or.inl rfl | exact Or.inr rfl | omega) ?_
            rw [if_pos b26] at eq
            exact kq [] eq f'
          · refine fx_zeq 34 32 (by decide +kernel) (by unfold fR; omega) (fun _ => ?_) (fun hc => absurd hc (by decide))
            refine fx_la 0 35 (v := 226) (by decide +kernel) rfl (by decide +kernel) ?_
            refine fx_ci (59) 37 (by decide +kernel) ?_
            refine fx_c2 106 21 40 1 [] (by decide +kernel) (by decide) (by decide) (fI_n4 _) rfl (by first | decide | omega) ?_
            refine sp_takesSign (c := 59) (GS _ fo') (by unfold fR; omega) (by decide) (by decide) (fun b37 => fK1 ?_) (fun b37 => fK1 ?_)
            · refine fx_zne 52 43 (by decide +kernel) (by unfold fR; omega) (fun _ => ?_) (fun hc => absurd hc (by decide))
              refine fx_inc 2 55 (1) (by decide +kernel) rfl (Or.inr (fI_n4 _)) rfl ?_
              dsimp only [List.set]
              refine fx_go 11 (by decide +kernel) ?_
              rw [if_neg (by omega), if_pos b37.2] at eq
              rw [cAt_at]
              refine sp_rls left (n + 1) _ (pSk T E (f' + 1)) (by omega) (by omega) (GS _ (pOk_sk (by omega) (by omega))) (GW _) (by rw [GP]; omega) (by rw [GP]; omega) (by rw [GD]; omega) (by rw [GD]; omega) (fun us t f'' => ?_) (fun q t g' e1 e2 => ?_)
              · rw [GP, GD, g1, g2] at t
                rw [t] at eq
                rw [apCs_at, cAt_at]
                exact kq us eq f''
              · rw [GP, GD, g1, g2] at t
                rw [t] at eq
                exact kf q eq g' (eqc_tr g3 (eqc_tr (eqc_at _ _ _ _) e1)) e2
            · refine fx_zne 52 43 (by decide +kernel) (by unfold fR; omega) (fun hc => absurd hc (by decide)) (fun _ => ?_)
              refine fx_la 0 44 (v := 226) (by decide +kernel) rfl (by decide +kernel) ?_
              refine fx_la 0 45 (v := 226) (by decide +kernel) rfl (by decide +kernel) ?_
              refine fx_gi 226 28 2 48 (by decide +kernel) ?_
              try simp only [fu_app, fcy_app, Nat.reduceEqDiff, and_true, and_false, false_and, true_and, if_true, if_false, ite_true, ite_false, reduceIte, Int.reduceToNat, fx_simp0]
              rw [(GS _ fo').2.1]
              refine fx_c2 92 21 51 0 [] (by decide +kernel) (by decide) (by decide) (fI_n4 _) rfl (by first | decide | omega) ?_
              refine sp_wrongAt (by unfold fR; omega) (fK1 ?_)
              refine fx_retb (by decide +kernel) (by first | exact Or.inl rfl | exact Or.inr rfl | omega) ?_
              rw [if_neg (by omega), if_neg (by omega)] at eq
              exact kf f' eq _ (eqc_tr g3 (eqc_tr (eqc_at _ _ _ _) (eqc_fu _ _ _ _ (by decide)))) (fu_eq _ _ _ _)
        · have eq := eP _ e
          have eq : pAll T E (left + 1) (g 29 4) (g 29 5) f = Sum.inl q := eq
          refine fx_zne 25 23 (by decide +kernel) (by unfold fR; omega) (fun hc => absurd hc (by decide)) (fun _ => ?_)
          refine fx_ci (0) 24 (by decide +kernel) ?_
          refine fx_retb (by decide +kernel) (by first | exact Or.inl rfl | exact Or.inr rfl | omega) ?_
          exact kf q eq g' e1 e2
theorem sp_readLines {g : Nat → Nat → Int} (h : cSt T E g (pSk T E 0)) (hw : g 28 1 = -1) (hp0 : 0 ≤ g 29 4) (hp1 : g 29 4 ≤ 8) (hd0 : 0 ≤ g 29 5) (hd1 : g 29 5 ≤ 6)
    (kq : ∀ us, pText T E (g 29 4) (g 29 5) = Sum.inr us → ∀ f', Q 1 (fI 1) (cAt T E (apCs T us g) f'))
    (kf : ∀ q, pText T E (g 29 4) (g 29 5) = Sum.inl q → ∀ g', eqc g g' → g' 28 1 = q → Q 1 (fI 0) g') : fx W r 9 75 0 [226, fI 14, 7] [] g Q := by
  unfold pText at kq kf
  refine fx_la 0 1 (v := 226) (by decide +kernel) rfl (by decide +kernel) ?_
  refine fx_c1 76 21 4 0 [] (by decide +kernel) (by decide) rfl (by first | decide | omega) ?_
  refine sp_isOver h (fun b1 => fK1 ?_) (fun b1 => fK1 ?_)
  · refine fx_zeq 9 7 (by decide +kernel) (by unfold fR; omega) (fun hc => absurd hc (by decide)) (fun _ => ?_)
    refine fx_ci (1) 8 (by decide +kernel) ?_
    refine fx_retb (by decide +kernel) (by first | exact Or.inl rfl | exact Or.inr rfl | omega) ?_
    rw [if_pos b1] at kq
    have := kq [] rfl (pSk T E 0)
    rw [show apCs T [] g = g from rfl, cAt_self h] at this
    exact this
  · refine fx_zeq 9 7 (by decide +kernel) (by unfold fR; omega) (fun _ => ?_) (fun hc => absurd hc (by decide))
    refine fx_ci (0) 10 (by decide +kernel) ?_
    refine fx_si 2 11 (by decide +kernel) (Or.inr (fI_n4 _)) rfl ?_
    dsimp only [List.set]
    rw [if_neg (by omega)] at kq kf
    exact sp_rls 14 0 g (pSk T E 0) rfl (by decide) h hw hp0 hp1 hd0 hd1 kq kf
end FXW
