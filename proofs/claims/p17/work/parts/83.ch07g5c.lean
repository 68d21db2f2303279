/-! fx: the class reads the law: atoms, conditions -/
section PA
variable {T : Int → Int} {E f d : Int} {c : List Int} {j : Bool} {n : Nat}
theorem pA_p6 (t : pSg T E 40 f) (h : 6 ≤ d) : pCd T E (n + 1) 0 d f c j = Sum.inl f := (cif_t t).trans (cif_t h)
theorem pA_p (t : pSg T E 40 f) (h : ¬ 6 ≤ d) : pCd T E (n + 1) 0 d f c j = bS (pCd T E n 2 (d + 1) (pSk T E (f + 1)) c false) (fun a => cif (pSg T E 41 a.1) (Sum.inr (pSk T E (a.1 + 1), a.2)) (Sum.inl a.1)) := (cif_t t).trans (cif_f h)
theorem pA_n6 (t : ¬ pSg T E 40 f) (t1 : pWd T E [110, 111, 116] f) (h : 6 ≤ d) : pCd T E (n + 1) 0 d f c j = Sum.inl f := (cif_f t).trans ((cif_t t1).trans (cif_t h))
theorem pA_n (t : ¬ pSg T E 40 f) (t1 : pWd T E [110, 111, 116] f) (h : ¬ 6 ≤ d) : pCd T E (n + 1) 0 d f c j = bS (pCd T E n 0 (d + 1) (pSk T E (pWe T E f)) c false) (fun a => Sum.inr (a.1, a.2 ++ [2003])) := (cif_f t).trans ((cif_t t1).trans (cif_f h))
theorem pA_pr (t : ¬ pSg T E 40 f) (t1 : ¬ pWd T E [110, 111, 116] f) (t2 : pWd T E [112, 114, 111, 109, 105, 115, 101, 100] f) : pCd T E (n + 1) 0 d f c j = Sum.inr (pSk T E (pWe T E f), c ++ [1007]) := (cif_f t).trans ((cif_f t1).trans (cif_t t2))
theorem pA_th (t : ¬ pSg T E 40 f) (t1 : ¬ pWd T E [110, 111, 116] f) (t2 : ¬ pWd T E [112, 114, 111, 109, 105, 115, 101, 100] f) (t3 : pWd T E [116, 104, 114, 101, 101] f) : pCd T E (n + 1) 0 d f c j = Sum.inr (pSk T E (pWe T E f), c ++ [1008]) := (cif_f t).trans ((cif_f t1).trans ((cif_f t2).trans (cif_t t3)))
/-- two sums and the sign between -/
noncomputable def pCmp (T : Int → Int) (E f : Int) (c : List Int) : Int ⊕ (Int × List Int) := bS (pSum T E 401 f c false) (fun a => cif (pSg T E 60 a.1) (bS (pSum T E 401 (pSk T E (a.1 + 1)) a.2 false) (fun b => Sum.inr (b.1, b.2 ++ [2001])))
      (cif (pSg T E 62 a.1) (bS (pSum T E 401 (pSk T E (a.1 + 1)) a.2 false) (fun b => Sum.inr (b.1, b.2 ++ [2002]))) (Sum.inl a.1)))
theorem pA_s (t : ¬ pSg T E 40 f) (t1 : ¬ pWd T E [110, 111, 116] f) (t2 : ¬ pWd T E [112, 114, 111, 109, 105, 115, 101, 100] f) (t3 : ¬ pWd T E [116, 104, 114, 101, 101] f) : pCd T E (n + 1) 0 d f c j = pCmp T E f c := (cif_f t).trans ((cif_f t1).trans ((cif_f t2).trans (cif_f t3)))
theorem pCmp_l {f2 : Int} {c2 : List Int} (p : pSum T E 401 f c false = Sum.inr (f2, c2)) (t : pSg T E 60 f2) : pCmp T E f c = bS (pSum T E 401 (pSk T E (f2 + 1)) c2 false) (fun b => Sum.inr (b.1, b.2 ++ [2001])) := by
  unfold pCmp
  rw [p, bS_r]
  exact cif_t t
theorem pCmp_g {f2 : Int} {c2 : List Int} (p : pSum T E 401 f c false = Sum.inr (f2, c2)) (t : ¬ pSg T E 60 f2) (t2 : pSg T E 62 f2) : pCmp T E f c = bS (pSum T E 401 (pSk T E (f2 + 1)) c2 false) (fun b => Sum.inr (b.1, b.2 ++ [2002])) := by
  unfold pCmp
  rw [p, bS_r]
  exact (cif_f t).trans (cif_t t2)
theorem pCmp_w {f2 : Int} {c2 : List Int} (p : pSum T E 401 f c false = Sum.inr (f2, c2)) (t : ¬ pSg T E 60 f2) (t2 : ¬ pSg T E 62 f2) : pCmp T E f c = Sum.inl f2 := by
  unfold pCmp
  rw [p, bS_r]
  exact (cif_f t).trans (cif_f t2)
theorem pCmp_f {q : Int} (p : pSum T E 401 f c false = Sum.inl q) : pCmp T E f c = Sum.inl q := by
  unfold pCmp
  rw [p, bS_l]
end PA
/-- how an atom is read at the depth dp, and a condition -/
def AtS (T : Int → Int) (E dp : Int) (dd : Nat) : Prop := ∀ (W : ax_W) (r : Nat) (g g0 : Nat → Nat → Int) (Q : Nat → Nat → (Nat → Nat → Int) → Prop) (f : Int) (c : List Int) (n : Nat), lwS T E g0 g f c → (c.length : Int) + 1 ≤ f → 3 * (E - f) + 1 ≤ n → (∀ f1 c1 g', pCd T E n 0 dp f c false = Sum.inr (f1, c1) → lwS T E g0 g' f1 c1 → Q 1 (fI 1) g') → (∀ q g', pCd T E n 0 dp f c false = Sum.inl q → g' 34 1 = q → fLX g0 g' → Q 1 (fI 0) g') → fx W r dd 105 0 [274, fI dp, 7, 7, 7] [] g Q
def CoS (T : Int → Int) (E dp : Int) (dd : Nat) : Prop := ∀ (W : ax_W) (r : Nat) (g g0 : Nat → Nat → Int) (Q : Nat → Nat → (Nat → Nat → Int) → Prop) (f : Int) (c : List Int) (n : Nat), lwS T E g0 g f c → (c.length : Int) + 1 ≤ f → 3 * (E - f) + 3 ≤ n → (∀ f1 c1 g', pCd T E n 2 dp f c false = Sum.inr (f1, c1) → lwS T E g0 g' f1 c1 → Q 1 (fI 1) g') → (∀ q g', pCd T E n 2 dp f c false = Sum.inl q → g' 34 1 = q → fLX g0 g' → Q 1 (fI 0) g') → fx W r dd 104 0 [274, fI dp, 7, 7, 7] [] g Q
section G5C
variable {T : Int → Int} {E : Int}
theorem sp_latom {dp : Int} {dd e : Nat} (hd0 : 0 ≤ dp) (hd6 : dp ≤ 6) (hC : dp < 6 → CoS T E (dp + 1) e) (hA : dp < 6 → AtS T E (dp + 1) e) (he : e + 1 ≤ dd) (hdd : 9 ≤ dd) : AtS T E dp dd := fun W r g g0 Q f c n h hl hn k1 k2 => by
  have hs := h.1
  have ok := hs.2.2.2
  have hE := hs.1.2.2.1
  have hE0 := hs.1.2.1
  have ok1 := ok.1
  have ok2 := ok.2.1
  match n, hn, k1, k2 with
  | 0, hn, k1, k2 => exfalso; omega
  | n + 1, hn, k1, k2 =>
    refine fx_la 0 1 (v := 274) (by decide +kernel) rfl (by decide +kernel) ?_
    refine fx_gi 274 34 2 4 (by decide +kernel) ?_
    rw [show g 34 2 = f from hs.2.1]
    refine fx_si 2 5 (by decide +kernel) (Or.inr (fI_n4 _)) rfl ?_
    dsimp only [List.set]
    refine fx_la 0 6 (v := 274) (by decide +kernel) rfl (by decide +kernel) ?_
    refine fx_ci (40) 8 (by decide +kernel) ?_
    refine fx_c2 106 21 11 1 [] (by decide +kernel) (by decide) (by decide) (fI_n4 _) rfl (by first | decide | omega) ?_
    refine sp_takesSignL hs (by unfold fR; omega) (by omega) (by omega) (fun t => fK1 ?_) (fun t => fK1 ?_)
    · refine fx_si 3 12 (by decide +kernel) (Or.inr (fI_n4 _)) rfl ?_
      dsimp only [List.set]
      refine fx_li 3 13 (by decide +kernel) rfl ?_
      refine fx_zne 25 16 (by decide +kernel) (by unfold fR; omega) (fun _ => ?_) (fun hc => absurd hc (by decide))
      refine fx_li 1 26 (by decide +kernel) rfl ?_
      refine fx_ci (6) 28 (by decide +kernel) ?_
      refine fx_ilt 37 31 (by decide +kernel) (by unfold fR; omega) (by unfold fR; omega) (fun h28 => ?_) (fun h28 => ?_)
      · refine fx_li 3 38 (by decide +kernel) rfl ?_
        refine fx_zeq 77 41 (by decide +kernel) (by unfold fR; omega) (fun hc => absurd hc (by decide)) (fun _ => ?_)
        refine fx_la 0 42 (v := 274) (by decide +kernel) rfl (by decide +kernel) ?_
        refine fx_li 1 43 (by decide +kernel) rfl ?_
        refine fx_ci (1) 44 (by decide +kernel) ?_
        refine fx_add 45 (by decide +kernel) rfl ?_
        refine fx_c2 104 21 48 e [7, 7, 7] (by decide +kernel) (by decide) (by decide) (fI_n4 _) rfl (by first | decide | omega) ?_
        have g0' := pSk_ge T E (f + 1)
        refine hC (by omega) _ _ _ g0 _ _ c n (h.to (pOk_s1 ok t)) (by omega) (by omega) (fun f2 c2 g2 p1 h2 => fK1 ?_) (fun q g2 p1 p2 p3 => fK1 ?_)
        have o := pCd_ok n 2 0 _ _ _ _ _ _ p1 (pOk_s1 ok t) (by show (c.length : Int) + 0 + 0 ≤ _; omega)
        · refine fx_zeq 75 51 (by decide +kernel) (by unfold fR; omega) (fun hc => absurd hc (by decide)) (fun _ => ?_)
          refine fx_la 0 52 (v := 274) (by decide +kernel) rfl (by decide +kernel) ?_
          refine fx_ci (41) 54 (by decide +kernel) ?_
          refine fx_c2 106 21 57 1 [] (by decide +kernel) (by decide) (by decide) (fI_n4 _) rfl (by first | decide | omega) ?_
          refine sp_takesSignL h2.1 (by unfold fR; omega) (by omega) (by omega) (fun t2 => fK1 ?_) (fun t2 => fK1 ?_)
          · refine fx_zne 71 60 (by decide +kernel) (by unfold fR; omega) (fun _ => ?_) (fun hc => absurd hc (by decide))
            refine fx_ci (1) 72 (by decide +kernel) ?_
            refine fx_go 76 (by decide +kernel) ?_
            refine fx_retb (by decide +kernel) (by first | exact Or.inl rfl | exact Or.inr rfl | omega) ?_
            exact k1 _ c2 _ (by rw [pA_p t (by omega), p1, bS_r]; exact cif_t t2) (h2.to (pOk_s1 h2.1.2.2.2 t2))
          · refine fx_zne 71 60 (by decide +kernel) (by unfold fR; omega) (fun hc => absurd hc (by decide)) (fun _ => ?_)
            refine fx_la 0 61 (v := 274) (by decide +kernel) rfl (by decide +kernel) ?_
            refine fx_la 0 62 (v := 274) (by decide +kernel) rfl (by decide +kernel) ?_
            refine fx_gi 274 34 2 65 (by decide +kernel) ?_
            try simp only [fu_app, fcy_app, Nat.reduceEqDiff, and_true, and_false, false_and, true_and, if_true, if_false, ite_true, ite_false, reduceIte, Int.reduceToNat, fx_simp0]
            rw [show g2 34 2 = f2 from h2.1.2.1]
            refine fx_c2 92 21 68 0 [] (by decide +kernel) (by decide) (by decide) (fI_n4 _) rfl (by first | decide | omega) ?_
            refine sp_wrongAtL (by unfold fR; have := o.1.1; have := o.1.2.1; omega) (fK1 ?_)
            refine fx_zeq 75 71 (by decide +kernel) (by unfold fR; omega) (fun h68 => ?_) (fun h68 => ?_)
            · refine fx_ci (0) 76 (by decide +kernel) ?_
              refine fx_retb (by decide +kernel) (by first | exact Or.inl rfl | exact Or.inr rfl | omega) ?_
              exact k2 f2 _ (by rw [pA_p t (by omega), p1, bS_r]; exact cif_f t2) (fu_eq _ _ _ _) h2.2.2.2.w
            · exact absurd rfl h68
        · refine fx_zeq 75 51 (by decide +kernel) (by unfold fR; omega) (fun _ => ?_) (fun hc => absurd hc (by decide))
          refine fx_ci (0) 76 (by decide +kernel) ?_
          refine fx_retb (by decide +kernel) (by first | exact Or.inl rfl | exact Or.inr rfl | omega) ?_
          exact k2 q g2 (by rw [pA_p t (by omega), p1, bS_l]) p2 p3
      · refine fx_la 0 32 (v := 274) (by decide +kernel) rfl (by decide +kernel) ?_
        refine fx_li 2 33 (by decide +kernel) rfl ?_
        refine fx_c2 92 21 36 0 [] (by decide +kernel) (by decide) (by decide) (fI_n4 _) rfl (by first | decide | omega) ?_
        refine sp_wrongAtL (by unfold fR; omega) (fK1 ?_)
        refine fx_retb (by decide +kernel) (by first | exact Or.inl rfl | exact Or.inr rfl | omega) ?_
        exact k2 f _ (pA_p6 t (by omega)) (fu_eq _ _ _ _) (fLX.a h.2.2.2).w
    · refine fx_si 3 12 (by decide +kernel) (Or.inr (fI_n4 _)) rfl ?_
      dsimp only [List.set]
      refine fx_li 3 13 (by decide +kernel) rfl ?_
      refine fx_zne 25 16 (by decide +kernel) (by unfold fR; omega) (fun hc => absurd hc (by decide)) (fun _ => ?_)
      refine fx_la 0 17 (v := 274) (by decide +kernel) rfl (by decide +kernel) ?_
      refine fx_lds 165 19 (by decide +kernel) ?_
      refine fx_c2 78 21 22 5 [] (by decide +kernel) (by decide) (by decide) (by decide) rfl (by first | decide | omega) ?_
      refine sp_takesWordL [110, 111, 116] (by decide +kernel) (by decide +kernel) hs (fun t1 => fK1 ?_) (fun t1 => fK1 ?_)
      · refine fx_zeq 106 25 (by decide +kernel) (by unfold fR; omega) (fun hc => absurd hc (by decide)) (fun _ => ?_)
        refine fx_li 1 26 (by decide +kernel) rfl ?_
        refine fx_ci (6) 28 (by decide +kernel) ?_
        refine fx_ilt 37 31 (by decide +kernel) (by unfold fR; omega) (by unfold fR; omega) (fun h28 => ?_) (fun h28 => ?_)
        · refine fx_li 3 38 (by decide +kernel) rfl ?_
          refine fx_zeq 77 41 (by decide +kernel) (by unfold fR; omega) (fun _ => ?_) (fun hc => absurd hc (by decide))
          refine fx_la 0 78 (v := 274) (by decide +kernel) rfl (by decide +kernel) ?_
          refine fx_li 1 79 (by decide +kernel) rfl ?_
          refine fx_ci (1) 80 (by decide +kernel) ?_
          refine fx_add 81 (by decide +kernel) rfl ?_
          refine fx_c2 105 21 84 e [7, 7, 7] (by decide +kernel) (by decide) (by decide) (fI_n4 _) rfl (by first | decide | omega) ?_
          have g0' := pSk_ge T E (pWe T E f)
          have g1' : pWe T E f - f = 3 := t1.1
          refine hA (by omega) _ _ _ g0 _ _ c n (h.to (pOk_we ok)) (by omega) (by omega) (fun f2 c2 g2 p1 h2 => fK1 ?_) (fun q g2 p1 p2 p3 => fK1 ?_)
          have o := pCd_ok n 0 1 _ _ _ _ _ _ p1 (pOk_we ok) (by show (c.length : Int) + 1 + 0 ≤ _; omega)
          · refine fx_zeq 104 87 (by decide +kernel) (by unfold fR; omega) (fun hc => absurd hc (by decide)) (fun _ => ?_)
            refine fx_la 0 88 (v := 274) (by decide +kernel) rfl (by decide +kernel) ?_
            refine fx_gp 274 34 5 282 91 (by decide +kernel) ?_
            refine fx_ci (2003) 94 (by decide +kernel) ?_
            refine fx_c2 107 21 97 0 [] (by decide +kernel) (by decide) (by decide) (fI_n4 _) rfl (by first | decide | omega) ?_
            refine sp_lemit h2 (by have := o.1.2.1; omega) (by unfold fR; omega) (fun g3 h3 => fK1 ?_)
            · refine fx_zeq 104 100 (by decide +kernel) (by unfold fR; omega) (fun hc => absurd hc (by decide)) (fun _ => ?_)
              refine fx_ci (1) 101 (by decide +kernel) ?_
              refine fx_go 105 (by decide +kernel) ?_
              refine fx_retb (by decide +kernel) (by first | exact Or.inl rfl | exact Or.inr rfl | omega) ?_
              exact k1 _ _ _ (by rw [pA_n t t1 (by omega), p1, bS_r]) h3
          · refine fx_zeq 104 87 (by decide +kernel) (by unfold fR; omega) (fun _ => ?_) (fun hc => absurd hc (by decide))
            refine fx_ci (0) 105 (by decide +kernel) ?_
            refine fx_retb (by decide +kernel) (by first | exact Or.inl rfl | exact Or.inr rfl | omega) ?_
            exact k2 q g2 (by rw [pA_n t t1 (by omega), p1, bS_l]) p2 p3
        · refine fx_la 0 32 (v := 274) (by decide +kernel) rfl (by decide +kernel) ?_
          refine fx_li 2 33 (by decide +kernel) rfl ?_
          refine fx_c2 92 21 36 0 [] (by decide +kernel) (by decide) (by decide) (fI_n4 _) rfl (by first | decide | omega) ?_
          refine sp_wrongAtL (by unfold fR; omega) (fK1 ?_)
          refine fx_retb (by decide +kernel) (by first | exact Or.inl rfl | exact Or.inr rfl | omega) ?_
          exact k2 f _ (pA_n6 t t1 (by omega)) (fu_eq _ _ _ _) (fLX.a h.2.2.2).w
      · refine fx_zeq 106 25 (by decide +kernel) (by unfold fR; omega) (fun _ => ?_) (fun hc => absurd hc (by decide))
        refine fx_la 0 107 (v := 274) (by decide +kernel) rfl (by decide +kernel) ?_
        refine fx_lds 173 109 (by decide +kernel) ?_
        refine fx_c2 78 21 112 5 [] (by decide +kernel) (by decide) (by decide) (by decide) rfl (by first | decide | omega) ?_
        refine sp_takesWordL [112, 114, 111, 109, 105, 115, 101, 100] (by decide +kernel) (by decide +kernel) hs (fun t2 => fK1 ?_) (fun t2 => fK1 ?_)
        · refine fx_zeq 126 115 (by decide +kernel) (by unfold fR; omega) (fun hc => absurd hc (by decide)) (fun _ => ?_)
          refine fx_la 0 116 (v := 274) (by decide +kernel) rfl (by decide +kernel) ?_
          refine fx_gp 274 34 5 282 119 (by decide +kernel) ?_
          refine fx_ci (1007) 122 (by decide +kernel) ?_
          refine fx_c2 107 21 125 0 [] (by decide +kernel) (by decide) (by decide) (fI_n4 _) rfl (by first | decide | omega) ?_
          refine sp_lemit (h.to (pOk_we ok)) (by omega) (by unfold fR; omega) (fun g3 h3 => fK1 ?_)
          · refine fx_retb (by decide +kernel) (by first | exact Or.inl rfl | exact Or.inr rfl | omega) ?_
            exact k1 _ _ _ (pA_pr t t1 t2) h3
        · refine fx_zeq 126 115 (by decide +kernel) (by unfold fR; omega) (fun _ => ?_) (fun hc => absurd hc (by decide))
          refine fx_la 0 127 (v := 274) (by decide +kernel) rfl (by decide +kernel) ?_
          refine fx_lds 181 129 (by decide +kernel) ?_
          refine fx_c2 78 21 132 5 [] (by decide +kernel) (by decide) (by decide) (by decide) rfl (by first | decide | omega) ?_
          refine sp_takesWordL [116, 104, 114, 101, 101] (by decide +kernel) (by decide +kernel) hs (fun t3 => fK1 ?_) (fun t3 => fK1 ?_)
          · refine fx_zeq 146 135 (by decide +kernel) (by unfold fR; omega) (fun hc => absurd hc (by decide)) (fun _ => ?_)
            refine fx_la 0 136 (v := 274) (by decide +kernel) rfl (by decide +kernel) ?_
            refine fx_gp 274 34 5 282 139 (by decide +kernel) ?_
            refine fx_ci (1008) 142 (by decide +kernel) ?_
            refine fx_c2 107 21 145 0 [] (by decide +kernel) (by decide) (by decide) (fI_n4 _) rfl (by first | decide | omega) ?_
            refine sp_lemit (h.to (pOk_we ok)) (by omega) (by unfold fR; omega) (fun g3 h3 => fK1 ?_)
            · refine fx_retb (by decide +kernel) (by first | exact Or.inl rfl | exact Or.inr rfl | omega) ?_
              exact k1 _ _ _ (pA_th t t1 t2 t3) h3
          · refine fx_zeq 146 135 (by decide +kernel) (by unfold fR; omega) (fun _ => ?_) (fun hc => absurd hc (by decide))
            refine fx_la 0 147 (v := 274) (by decide +kernel) rfl (by decide +kernel) ?_
            refine fx_c1 108 21 150 6 [7, 7, 7] (by decide +kernel) (by decide) rfl (by first | decide | omega) ?_
            refine sp_lsum h (by omega) (fun f2 c2 g2 p1 h2 => fK1 ?_) (fun q g2 p1 p2 p3 => fK1 ?_)
            have o := pSum_ok (P := 0) _ _ _ _ _ _ p1 ok (by show (c.length : Int) + 0 + 0 ≤ _; omega)
            have o1 := o.1.1
            have o2 := o.1.2.1
            · refine fx_zne 155 153 (by decide +kernel) (by unfold fR; omega) (fun _ => ?_) (fun hc => absurd hc (by decide))
              refine fx_la 0 156 (v := 274) (by decide +kernel) rfl (by decide +kernel) ?_
              refine fx_ci (60) 158 (by decide +kernel) ?_
              refine fx_c2 106 21 161 1 [] (by decide +kernel) (by decide) (by decide) (fI_n4 _) rfl (by first | decide | omega) ?_
              refine sp_takesSignL h2.1 (by unfold fR; omega) (by omega) (by omega) (fun t4 => fK1 ?_) (fun t4 => fK1 ?_)
              · refine fx_si 4 163 (by decide +kernel) (Or.inr (fI_n4 _)) rfl ?_
                dsimp only [List.set]
                refine fx_li 4 165 (by decide +kernel) rfl ?_
                refine fx_zne 186 168 (by decide +kernel) (by unfold fR; omega) (fun _ => ?_) (fun hc => absurd hc (by decide))
                refine fx_la 0 187 (v := 274) (by decide +kernel) rfl (by decide +kernel) ?_
                refine fx_c1 108 21 190 6 [7, 7, 7] (by decide +kernel) (by decide) rfl (by first | decide | omega) ?_
                have g0' := pSk_ge T E (f2 + 1)
                have ok3 : pOk T E (pSk T E (f2 + 1)) := by first | exact pOk_s1 h2.1.2.2.2 t4 | exact pOk_s1 h2.1.2.2.2 t5
                refine sp_lsum (h2.to ok3) (by omega) (fun f3 c3 g3 p3 h3 => fK1 ?_) (fun q g3 p3 p4 p5 => fK1 ?_)
                have o' := pSum_ok (P := 1) _ _ _ _ _ _ p3 ok3 (by show (c2.length : Int) + 1 + 0 ≤ _; omega)
                have o3 := o'.1.2.1
                · refine fx_zeq 221 193 (by decide +kernel) (by unfold fR; omega) (fun hc => absurd hc (by decide)) (fun _ => ?_)
                  refine fx_la 0 194 (v := 274) (by decide +kernel) rfl (by decide +kernel) ?_
                  refine fx_gp 274 34 5 282 197 (by decide +kernel) ?_
                  refine fx_li 4 199 (by decide +kernel) rfl ?_
                  refine fx_zeq 208 202 (by decide +kernel) (by unfold fR; omega) (fun hc => absurd hc (by decide)) (fun _ => ?_)
                  refine fx_ci (2001) 205 (by decide +kernel) ?_
                  refine fx_go 211 (by decide +kernel) ?_
                  refine fx_c2 107 21 214 0 [] (by decide +kernel) (by decide) (by decide) (fI_n4 _) rfl (by first | decide | omega) ?_
                  refine sp_lemit h3 (by omega) (by unfold fR; omega) (fun g4 h4 => fK1 ?_)
                  · refine fx_zeq 221 217 (by decide +kernel) (by unfold fR; omega) (fun hc => absurd hc (by decide)) (fun _ => ?_)
                    refine fx_ci (1) 218 (by decide +kernel) ?_
                    refine fx_go 222 (by decide +kernel) ?_
                    refine fx_retb (by decide +kernel) (by first | exact Or.inl rfl | exact Or.inr rfl | omega) ?_
                    exact k1 _ _ _ (by rw [pA_s t t1 t2 t3, pCmp_l p1 t4, p3, bS_r]) h4
                · refine fx_zeq 221 193 (by decide +kernel) (by unfold fR; omega) (fun _ => ?_) (fun hc => absurd hc (by decide))
                  refine fx_ci (0) 222 (by decide +kernel) ?_
                  refine fx_retb (by decide +kernel) (by first | exact Or.inl rfl | exact Or.inr rfl | omega) ?_
                  exact k2 q g3 (by rw [pA_s t t1 t2 t3, pCmp_l p1 t4, p3, bS_l]) p4 p5
              · refine fx_si 4 163 (by decide +kernel) (Or.inr (fI_n4 _)) rfl ?_
                dsimp only [List.set]
                refine fx_li 4 165 (by decide +kernel) rfl ?_
                refine fx_zne 186 168 (by decide +kernel) (by unfold fR; omega) (fun hc => absurd hc (by decide)) (fun _ => ?_)
                refine fx_la 0 169 (v := 274) (by decide +kernel) rfl (by decide +kernel) ?_
                refine fx_ci (62) 171 (by decide +kernel) ?_
                refine fx_c2 106 21 174 1 [] (by decide +kernel) (by decide) (by decide) (fI_n4 _) rfl (by first | decide | omega) ?_
                refine sp_takesSignL h2.1 (by unfold fR; omega) (by omega) (by omega) (fun t5 => fK1 ?_) (fun t5 => fK1 ?_)
                · refine fx_zne 186 177 (by decide +kernel) (by unfold fR; omega) (fun _ => ?_) (fun hc => absurd hc (by decide))
                  refine fx_la 0 187 (v := 274) (by decide +kernel) rfl (by decide +kernel) ?_
                  refine fx_c1 108 21 190 6 [7, 7, 7] (by decide +kernel) (by decide) rfl (by first | decide | omega) ?_
                  have g0' := pSk_ge T E (f2 + 1)
                  have ok3 : pOk T E (pSk T E (f2 + 1)) := by first | exact pOk_s1 h2.1.2.2.2 t4 | exact pOk_s1 h2.1.2.2.2 t5
                  refine sp_lsum (h2.to ok3) (by omega) (fun f3 c3 g3 p3 h3 => fK1 ?_) (fun q g3 p3 p4 p5 => fK1 ?_)
                  have o' := pSum_ok (P := 1) _ _ _ _ _ _ p3 ok3 (by show (c2.length : Int) + 1 + 0 ≤ _; omega)
                  have o3 := o'.1.2.1
                  · refine fx_zeq 221 193 (by decide +kernel) (by unfold fR; omega) (fun hc => absurd hc (by decide)) (fun _ => ?_)
                    refine fx_la 0 194 (v := 274) (by decide +kernel) rfl (by decide +kernel) ?_
                    refine fx_gp 274 34 5 282 197 (by decide +kernel) ?_
                    refine fx_li 4 199 (by decide +kernel) rfl ?_
                    refine fx_zeq 208 202 (by decide +kernel) (by unfold fR; omega) (fun _ => ?_) (fun hc => absurd hc (by decide))
                    refine fx_ci (2002) 211 (by decide +kernel) ?_
                    refine fx_c2 107 21 214 0 [] (by decide +kernel) (by decide) (by decide) (fI_n4 _) rfl (by first | decide | omega) ?_
                    refine sp_lemit h3 (by omega) (by unfold fR; omega) (fun g4 h4 => fK1 ?_)
                    · refine fx_zeq 221 217 (by decide +kernel) (by unfold fR; omega) (fun hc => absurd hc (by decide)) (fun _ => ?_)
                      refine fx_ci (1) 218 (by decide +kernel) ?_
                      refine fx_go 222 (by decide +kernel) ?_
                      refine fx_retb (by decide +kernel) (by first | exact Or.inl rfl | exact Or.inr rfl | omega) ?_
                      exact k1 _ _ _ (by rw [pA_s t t1 t2 t3, pCmp_g p1 t4 t5, p3, bS_r]) h4
                  · refine fx_zeq 221 193 (by decide +kernel) (by unfold fR; omega) (fun _ => ?_) (fun hc => absurd hc (by decide))
                    refine fx_ci (0) 222 (by decide +kernel) ?_
                    refine fx_retb (by decide +kernel) (by first | exact Or.inl rfl | exact Or.inr rfl | omega) ?_
                    exact k2 q g3 (by rw [pA_s t t1 t2 t3, pCmp_g p1 t4 t5, p3, bS_l]) p4 p5
                · refine fx_zne 186 177 (by decide +kernel) (by unfold fR; omega) (fun hc => absurd hc (by decide)) (fun _ => ?_)
                  refine fx_la 0 178 (v := 274) (by decide +kernel) rfl (by decide +kernel) ?_
                  refine fx_la 0 179 (v := 274) (by decide +kernel) rfl (by decide +kernel) ?_
                  refine fx_gi 274 34 2 182 (by decide +kernel) ?_
                  try simp only [fu_app, fcy_app, Nat.reduceEqDiff, and_true, and_false, false_and, true_and, if_true, if_false, ite_true, ite_false, reduceIte, Int.reduceToNat, fx_simp0]
                  rw [show g2 34 2 = f2 from h2.1.2.1]
                  refine fx_c2 92 21 185 0 [] (by decide +kernel) (by decide) (by decide) (fI_n4 _) rfl (by first | decide | omega) ?_
                  refine sp_wrongAtL (by unfold fR; omega) (fK1 ?_)
                  refine fx_retb (by decide +kernel) (by first | exact Or.inl rfl | exact Or.inr rfl | omega) ?_
                  exact k2 f2 _ (by rw [pA_s t t1 t2 t3]; exact pCmp_w p1 t4 t5) (fu_eq _ _ _ _) h2.2.2.2.w
            · refine fx_zne 155 153 (by decide +kernel) (by unfold fR; omega) (fun hc => absurd hc (by decide)) (fun _ => ?_)
              refine fx_ci (0) 154 (by decide +kernel) ?_
              refine fx_retb (by decide +kernel) (by first | exact Or.inl rfl | exact Or.inr rfl | omega) ?_
              exact k2 q g2 (by rw [pA_s t t1 t2 t3]; exact pCmp_f p1) p2 p3
/-- behind an atom: what is left of what is joined by and -/
noncomputable def rE (T : Int → Int) (E d : Int) (m : Nat) (f : Int) (c : List Int) : Int ⊕ (Int × List Int) := cif (pWd T E [97, 110, 100] f) (pCd T E m 1 d (pSk T E (pWe T E f)) c true) (Sum.inr (f, c))
/-- behind that: what is left of what is joined by or -/
noncomputable def rO (T : Int → Int) (E d : Int) (n : Nat) (f : Int) (c : List Int) : Int ⊕ (Int × List Int) := cif (pWd T E [111, 114] f) (pCd T E n 2 d (pSk T E (pWe T E f)) c true) (Sum.inr (f, c))
theorem pCd_1 {d f : Int} {n : Nat} {c : List Int} {j : Bool} : pCd T E (n + 1) 1 d f c j = bS (pCd T E n 0 d f c false) (fun a => rE T E d n a.1 (a.2 ++ cond j [2004] [])) := rfl
theorem pCd_2 {d f : Int} {n : Nat} {c : List Int} {j : Bool} : pCd T E (n + 1) 2 d f c j = bS (pCd T E n 1 d f c false) (fun a => rO T E d n a.1 (a.2 ++ cond j [2005] [])) := rfl
theorem pWd_E {f : Int} {ws : List Nat} (hn : 0 < ws.length) (hf : f = E) : ¬ pWd T E ws f := fun t => by
  have h1 := pWd_lt hn t
  have h2 := pWe_le (T := T) (E := E) (i := f) (by omega)
  omega
section CO
variable {W : ax_W} {r : Nat} {g0 : Nat → Nat → Int} {Q : Nat → Nat → (Nat → Nat → Int) → Prop} {R : Int ⊕ (Int × List Int)} {dp : Int} {dd e : Nat}
theorem sp_lco_1 (hA : AtS T E dp e) (he : e + 1 ≤ dd) (hdd : 9 ≤ dd) (hdp : fR dp) (k2 : ∀ q g', R = Sum.inl q → g' 34 1 = q → fLX g0 g' → Q 1 (fI 0) g') {n : Nat} {jv : Int} {j : Bool} (hj : (jv = 0 ∧ j = false) ∨ (jv = 1 ∧ j = true)) {any : Int}
    {fm : Int} (kq : ∀ f c g' (y4 : Nat), fm ≤ f → (c.length : Int) ≤ f → lwS T E g0 g' f c → rO T E dp n f c = R → fx W r dd 104 102 [274, fI dp, fI jv, fI any, y4] [] g' Q) : ∀ (m : Nat) (al : Nat) (f : Int) (c : List Int) (g : Nat → Nat → Int), fm ≤ f → (al : Int) ≤ f → lwS T E g0 g f c → (c.length : Int) + jv ≤ f → 3 * (E - f) ≤ m → bS (rE T E dp m f c) (fun a => rO T E dp n a.1 (a.2 ++ cond j [2005] [])) = R → fx W r dd 104 37 [274, fI dp, fI jv, fI any, fI (al : Int)] [] g Q
  | m, al, f, c, g, hfm, hal, h, hl, hm, eR => by
    have hs := h.1
    have ok := hs.2.2.2
    have hE := hs.1.2.2.1
    have ok1 := ok.1
    have ok2 := ok.2.1
    -- behind the last one
    have out : ¬ pWd T E [97, 110, 100] f → fx W r dd 104 83 [274, fI dp, fI jv, fI any, fI (al : Int)] [] g Q := fun t => by
      have eR2 : rO T E dp n f (c ++ cond j [2005] []) = R := by
        rw [← eR]
        unfold rE
        rw [cif_f t, bS_r]
      refine fx_li 2 84 (by decide +kernel) rfl ?_
      refine fx_zeq 102 87 (by decide +kernel) (by unfold fR; omega) (fun h84 => ?_) (fun h84 => ?_)
      · rcases hj with ⟨-, rfl⟩ | ⟨e1, -⟩
        · rw [show c ++ cond false [2005] [] = c from List.append_nil c] at eR2
          exact kq f c g _ hfm (by omega) h eR2
        · exfalso; omega
      · refine fx_la 0 88 (v := 274) (by decide +kernel) rfl (by decide +kernel) ?_
        refine fx_gp 274 34 5 282 91 (by decide +kernel) ?_
        refine fx_ci (2005) 94 (by decide +kernel) ?_
        refine fx_c2 107 21 97 0 [] (by decide +kernel) (by decide) (by decide) (fI_n4 _) rfl (by first | decide | omega) ?_
        refine sp_lemit h (by omega) (by unfold fR; omega) (fun g3 h3 => fK1 ?_)
        · refine fx_zne 102 100 (by decide +kernel) (by unfold fR; omega) (fun _ => ?_) (fun hc => absurd hc (by decide))
          rcases hj with ⟨e1, -⟩ | ⟨e1, rfl⟩
          · exfalso; omega
          · have ln := ln_1 c 2005
            exact kq f _ g3 _ hfm (by omega) h3 eR2
    refine fx_li 4 39 (by decide +kernel) rfl ?_
    refine fx_ci (400) 42 (by decide +kernel) ?_
    refine fx_ige 83 45 (by decide +kernel) (by unfold fR; omega) (by unfold fR; omega) (fun h42 => ?_) (fun h42 => ?_)
    · exact out (pWd_E (by decide) (by omega))
    · refine fx_la 0 46 (v := 274) (by decide +kernel) rfl (by decide +kernel) ?_
      refine fx_lds 245 48 (by decide +kernel) ?_
      refine fx_c2 78 21 51 5 [] (by decide +kernel) (by decide) (by decide) (by decide) rfl (by first | decide | omega) ?_
      refine sp_takesWordL [97, 110, 100] (by decide +kernel) (by decide +kernel) hs (fun t => fK1 ?_) (fun t => fK1 ?_)
      · refine fx_zeq 83 54 (by decide +kernel) (by unfold fR; omega) (fun hc => absurd hc (by decide)) (fun _ => ?_)
        have g0' := pSk_ge T E (pWe T E f)
        have g1' : pWe T E f - f = 3 := t.1
        have g2' := pWe_le (T := T) (E := E) (i := f) ok2
        have eR1 : bS (pCd T E m 1 dp (pSk T E (pWe T E f)) c true) (fun a => rO T E dp n a.1 (a.2 ++ cond j [2005] [])) = R := by
          rw [← eR]
          unfold rE
          rw [cif_t t]
        match m, hm, eR1 with
        | 0, hm, eR1 => exfalso; omega
        | m + 1, hm, eR1 =>
          rw [pCd_1] at eR1
          refine fx_la 0 55 (v := 274) (by decide +kernel) rfl (by decide +kernel) ?_
          refine fx_li 1 56 (by decide +kernel) rfl ?_
          refine fx_c2 105 21 59 e [7, 7, 7] (by decide +kernel) (by decide) (by decide) (fI_n4 _) rfl (by first | decide | omega) ?_
          refine hA _ _ _ g0 _ _ c m (h.to (pOk_we ok)) (by omega) (by omega) (fun f2 c2 g2 p1 h2 => fK1 ?_) (fun q g2 p1 p2 p3 => fK1 ?_)
          have cj : ((cond j 1 0 : Nat) : Int) = jv := by rcases hj with ⟨rfl, rfl⟩ | ⟨rfl, rfl⟩ <;> rfl
          have o := pCd_ok m 0 (1 + cond j 1 0) _ _ _ _ _ _ p1 (pOk_we ok) (by show (c.length : Int) + ((1 + cond j 1 0 : Nat) : Int) + 0 ≤ _; omega)
          have o1 := o.1.2.1
          have o2 := o.2.1
          have o3 := o.2.2
          · refine fx_zeq 75 62 (by decide +kernel) (by unfold fR; omega) (fun hc => absurd hc (by decide)) (fun _ => ?_)
            refine fx_la 0 63 (v := 274) (by decide +kernel) rfl (by decide +kernel) ?_
            refine fx_gp 274 34 5 282 66 (by decide +kernel) ?_
            refine fx_ci (2004) 69 (by decide +kernel) ?_
            refine fx_c2 107 21 72 0 [] (by decide +kernel) (by decide) (by decide) (fI_n4 _) rfl (by first | decide | omega) ?_
            refine sp_lemit h2 (by omega) (by unfold fR; omega) (fun g3 h3 => fK1 ?_)
            · refine fx_zne 77 75 (by decide +kernel) (by unfold fR; omega) (fun _ => ?_) (fun hc => absurd hc (by decide))
              refine fx_inc 4 80 (1) (by decide +kernel) rfl (Or.inr (fI_n4 _)) rfl ?_
              dsimp only [List.set]
              refine fx_go 37 (by decide +kernel) ?_
              have ln := ln_1 c2 2004
              rw [p1, bS_r] at eR1
              exact sp_lco_1 hA he hdd hdp k2 hj kq m (al + 1) f2 (c2 ++ [2004]) g3 (by omega) (by omega) h3 (by omega) (by omega) eR1
          · refine fx_zeq 75 62 (by decide +kernel) (by unfold fR; omega) (fun _ => ?_) (fun hc => absurd hc (by decide))
            refine fx_ci (0) 76 (by decide +kernel) ?_
            refine fx_retb (by decide +kernel) (by first | exact Or.inl rfl | exact Or.inr rfl | omega) ?_
            exact k2 q g2 (by rw [← eR1, p1, bS_l, bS_l]) p2 p3
      · refine fx_zeq 83 54 (by decide +kernel) (by unfold fR; omega) (fun _ => ?_) (fun hc => absurd hc (by decide))
        exact out t
theorem sp_lco_2 (hA : AtS T E dp e) (he : e + 1 ≤ dd) (hdd : 9 ≤ dd) (hdp : fR dp) (k1 : ∀ f1 c1 g', R = Sum.inr (f1, c1) → lwS T E g0 g' f1 c1 → Q 1 (fI 1) g') (k2 : ∀ q g', R = Sum.inl q → g' 34 1 = q → fLX g0 g' → Q 1 (fI 0) g') : ∀ (n any : Nat) (f : Int) (c : List Int) (jv : Int) (j : Bool) (g : Nat → Nat → Int) (x4 : Nat), (any : Int) ≤ f → ((jv = 0 ∧ j = false ∧ any = 0) ∨ (jv = 1 ∧ j = true)) → lwS T E g0 g f c → (c.length : Int) ≤ f → (jv = 0 → (c.length : Int) + 1 ≤ f) → 3 * (E - f) + (3 - 3 * jv) ≤ n → cond j (rO T E dp n f c) (pCd T E n 2 dp f c false) = R → fx W r dd 104 4 [274, fI dp, fI jv, fI (any : Int), x4] [] g Q
  | n, any, f, c, jv, j, g, x4, hany, hj, h, hl, hl0, hn, eR => by
    have hs := h.1
    have ok := hs.2.2.2
    have hE := hs.1.2.2.1
    have ok1 := ok.1
    have ok2 := ok.2.1
    -- a group from f2 on
    have grp : ∀ (n' : Nat) (f2 : Int) (g2 : Nat → Nat → Int), n' + 1 ≤ n → (any : Int) + 1 ≤ f2 → lwS T E g0 g2 f2 c → (c.length : Int) + jv + 1 ≤ f2 + jv → (c.length : Int) + 1 ≤ f2 → 3 * (E - f2) + 3 ≤ n' + 1 → pCd T E (n' + 1) 2 dp f2 c j = R → fx W r dd 104 24 [274, fI dp, fI jv, fI (any : Int), x4] [] g2 Q := fun n' f2 g2 hn' ha2 h2 hl2 hl3 hm2 eR2 => by
      have okb := h2.1.2.2.2
      rw [pCd_2] at eR2
      match n', hn', hm2, eR2 with
      | 0, hn', hm2, eR2 => exfalso; have := okb.2.1; omega
      | m + 1, hn', hm2, eR2 =>
        rw [pCd_1] at eR2
        refine fx_la 0 25 (v := 274) (by decide +kernel) rfl (by decide +kernel) ?_
        refine fx_li 1 26 (by decide +kernel) rfl ?_
        refine fx_c2 105 21 29 e [7, 7, 7] (by decide +kernel) (by decide) (by decide) (fI_n4 _) rfl (by first | decide | omega) ?_
        refine hA _ _ _ g0 _ _ c m h2 hl3 (by omega) (fun f3 c3 g3 p1 h3 => fK1 ?_) (fun q g3 p1 p2 p3 => fK1 ?_)
        have cj : ((cond j 1 0 : Nat) : Int) = jv := by rcases hj with ⟨rfl, rfl, -⟩ | ⟨rfl, rfl⟩ <;> rfl
        have o := pCd_ok m 0 (cond j 1 0) _ _ _ _ _ _ p1 okb (by show (c.length : Int) + ((cond j 1 0 : Nat) : Int) + 0 ≤ _; omega)
        have o1 := o.1.2.1
        have o2 := o.2.1
        have o3 := o.2.2
        · refine fx_zne 34 32 (by decide +kernel) (by unfold fR; omega) (fun _ => ?_) (fun hc => absurd hc (by decide))
          refine fx_ci (0) 35 (by decide +kernel) ?_
          refine fx_si 4 37 (by decide +kernel) (Or.inr (fI_n4 _)) rfl ?_
          dsimp only [List.set]
          rw [p1, bS_r] at eR2
          rw [show c3 ++ cond false [2004] [] = c3 from List.append_nil c3] at eR2
          refine sp_lco_1 hA he hdd hdp k2 (hj.imp (fun t => ⟨t.1, t.2.1⟩) id) (fm := f3) (fun f4 c4 g4 y4 q1 q2 q3 q4 => ?_) m 0 f3 c3 g3 (Int.le_refl _) (by omega) h3 (by omega) (by omega) eR2
          refine fx_ci 1 103 (by decide +kernel) ?_
          refine fx_si 2 104 (by decide +kernel) (Or.inr (fI_n4 _)) rfl ?_
          dsimp only [List.set]
          refine fx_inc 3 107 1 (by decide +kernel) rfl (Or.inr (fI_n4 _)) rfl ?_
          dsimp only [List.set]
          refine fx_go 4 (by decide +kernel) ?_
          exact sp_lco_2 hA he hdd hdp k1 k2 (m + 1) (any + 1) f4 c4 1 true g4 y4 (by omega) (Or.inr ⟨rfl, rfl⟩) q3 q2 (by omega) (by omega) q4
        · refine fx_zne 34 32 (by decide +kernel) (by unfold fR; omega) (fun hc => absurd hc (by decide)) (fun _ => ?_)
          refine fx_ci (0) 33 (by decide +kernel) ?_
          refine fx_retb (by decide +kernel) (by first | exact Or.inl rfl | exact Or.inr rfl | omega) ?_
          exact k2 q g3 (by rw [← eR2, p1, bS_l, bS_l]) p2 p3
    refine fx_li 3 5 (by decide +kernel) rfl ?_
    refine fx_ci (400) 8 (by decide +kernel) ?_
    refine fx_ige 110 11 (by decide +kernel) (by unfold fR; omega) (by unfold fR; omega) (fun h8 => ?_) (fun h8 => ?_)
    · refine fx_ci (1) 111 (by decide +kernel) ?_
      refine fx_retb (by decide +kernel) (by first | exact Or.inl rfl | exact Or.inr rfl | omega) ?_
      rcases hj with ⟨-, -, e2⟩ | ⟨-, rfl⟩
      · exfalso; omega
      · exact k1 f c g (by rw [← eR]; exact cif_f (pWd_E (by decide) (by omega))) h
    · refine fx_li 2 12 (by decide +kernel) rfl ?_
      refine fx_zeq 24 15 (by decide +kernel) (by unfold fR; omega) (fun h12 => ?_) (fun h12 => ?_)
      · rcases hj with ⟨e1, rfl, e2⟩ | ⟨e1, -⟩
        · match n, hn, eR, grp with
          | 0, hn, eR, grp => exfalso; omega
          | n' + 1, hn, eR, grp => exact grp n' f g (Nat.le_refl _) (by omega) h (by omega) (by omega) (by omega) eR
        · exfalso; omega
      · refine fx_la 0 16 (v := 274) (by decide +kernel) rfl (by decide +kernel) ?_
        refine fx_lds 157 18 (by decide +kernel) ?_
        refine fx_c2 78 21 21 5 [] (by decide +kernel) (by decide) (by decide) (by decide) rfl (by first | decide | omega) ?_
        refine sp_takesWordL [111, 114] (by decide +kernel) (by decide +kernel) hs (fun t => fK1 ?_) (fun t => fK1 ?_)
        · refine fx_zeq 110 24 (by decide +kernel) (by unfold fR; omega) (fun hc => absurd hc (by decide)) (fun _ => ?_)
          rcases hj with ⟨e1, -⟩ | ⟨e1, rfl⟩
          · exfalso; omega
          · have g0' := pSk_ge T E (pWe T E f)
            have g1' : pWe T E f - f = 2 := t.1
            have g2' := pWe_le (T := T) (E := E) (i := f) ok2
            have eR1 : pCd T E n 2 dp (pSk T E (pWe T E f)) c true = R := (cif_t t).symm.trans eR
            match n, hn, eR1, grp with
            | 0, hn, eR1, grp => exfalso; omega
            | n' + 1, hn, eR1, grp => exact grp n' _ _ (Nat.le_refl _) (by omega) (h.to (pOk_we ok)) (by omega) (by omega) (by omega) eR1
        · refine fx_zeq 110 24 (by decide +kernel) (by unfold fR; omega) (fun _ => ?_) (fun hc => absurd hc (by decide))
          refine fx_ci (1) 111 (by decide +kernel) ?_
          refine fx_retb (by decide +kernel) (by first | exact Or.inl rfl | exact Or.inr rfl | omega) ?_
          rcases hj with ⟨e1, -⟩ | ⟨-, rfl⟩
          · exfalso; omega
          · exact k1 f c g (by rw [← eR]; exact cif_f t) h
end CO
end G5C
