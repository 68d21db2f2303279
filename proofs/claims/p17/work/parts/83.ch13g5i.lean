/-! fx: the reference reads the law: atoms, and, or -/
theorem pWd_0 {T : Int → Int} {E f : Int} {ws : List Nat} (hn : 0 < ws.length) (h : pWd T E ws f) : T f = (ws.getD 0 0 : Nat) := by
  have := h.2 0 hn
  rw [show f + ((0 : Nat) : Int) = f by omega] at this
  exact this
theorem pA_pl {T : Int → Int} {E f d : Int} {c : List Int} {j : Bool} {n : Nat} (t : ¬ pSg T E 40 f) (t1 : ¬ pWd T E [110, 111, 116] f) : pCd T E (n + 1) 0 d f c j = pPl T E f c := (cif_f t).trans (cif_f t1)
theorem b01_and {a b : Int} (ha : a = 0 ∨ a = 1) (hb : b = 0 ∨ b = 1) : fop 3 a b = if a = 0 ∨ b = 0 then 0 else 1 := by
  rcases ha with rfl | rfl <;> rcases hb with rfl | rfl <;> decide +kernel
theorem b01_or {a b : Int} (ha : a = 0 ∨ a = 1) (hb : b = 0 ∨ b = 1) : fop 4 a b = if a = 0 ∧ b = 0 then 0 else 1 := by
  rcases ha with rfl | rfl <;> rcases hb with rfl | rfl <;> decide +kernel
/-- how the reference reads an atom (k = 0), what is joined by and (1), by or (2) -/
def ReS (T : Int → Int) (E : Int) (k : Nat) (mi ml : Nat) (dp : Int) (dd : Nat) : Prop := ∀ (W : ax_W) (r : Nat) (g g0 : Nat → Nat → Int) (Q : Nat → Nat → (Nat → Nat → Int) → Prop) (f : Int) (c : List Int) (n : Nat), (g0 148 15 = 0 ∨ g0 148 15 = 1) → (g0 148 16 = 0 ∨ g0 148 16 = 1) → rwS T E g0 g f dp → 3 * (E - f) + 1 + k ≤ n → (∀ f1 c1 b g', pCd T E n k dp f c false = Sum.inr (f1, c1) → rwS T E g0 g' f1 dp → evS (fF g0) c1 = b :: evS (fF g0) c → (b = 0 ∨ b = 1) → Q 1 (fI b) g') → (∀ q b g', pCd T E n k dp f c false = Sum.inl q → rwF g0 g' q (408 - dp) dp → (b = 0 ∨ b = 1) → Q 1 (fI b) g') → fx W r dd mi 0 (1186 :: List.replicate ml 7) [] g Q
def AtR (T : Int → Int) (E dp : Int) (dd : Nat) : Prop := ReS T E 0 280 3 dp dd
def EvR (T : Int → Int) (E dp : Int) (dd : Nat) : Prop := ReS T E 1 279 2 dp dd
def SoR (T : Int → Int) (E dp : Int) (dd : Nat) : Prop := ReS T E 2 278 2 dp dd
theorem ReS.up {T : Int → Int} {E dp : Int} {k mi ml dd dd' : Nat} (h : ReS T E k mi ml dp dd) (hd : dd ≤ dd') : ReS T E k mi ml dp dd' := fun W r g g0 Q f c n h1 h2 h3 h4 k1 k2 => fx.up (h W r g g0 Q f c n h1 h2 h3 h4 k1 k2) (Nat.le_refl _) hd
theorem rwS.dp {T : Int → Int} {E f dp d2 : Int} {g0 g : Nat → Nat → Int} (h : rwS T E g0 g f dp) : rwS T E g0 (fu g 148 13 d2) f d2 := by
  obtain ⟨h0, h1, h2, h3, h4, h5, h6⟩ := h
  refine ⟨RT_fu h0 (by decide) (by decide), by rw [fu_nj (by decide)]; exact h1, by rw [fu_nj (by decide)]; exact h2, by rw [fu_nj (by decide)]; exact h3, by rw [fu_nj (by decide)]; exact h4, fu_eq _ _ _ _, h6.d⟩
section G5I
variable {T : Int → Int} {E : Int}
theorem sp_ratom {dp : Int} {dd e : Nat} (hd0 : 0 ≤ dp) (hd6 : dp ≤ 6) (hS : dp < 6 → SoR T E (dp + 1) e) (hA : dp < 6 → AtR T E (dp + 1) e) (he : e + 1 ≤ dd) (hdd : 12 ≤ dd) : AtR T E dp dd := fun W r g g0 Q f c n hP hT h hn k1 k2 => by
  have ok := h.ok
  have ok1 := ok.1
  have ok2 := ok.2.1
  have hE := h.1.2.2.1
  have hf := h.2.2.2.2.1
  match n, hn, k1, k2 with
  | 0, hn, k1, k2 => exfalso; omega
  | n + 1, hn, k1, k2 =>
    show fx W r dd 280 0 [1186, 7, 7, 7] [] g Q
    refine fx_la 0 1 (v := 1186) (by decide +kernel) rfl (by decide +kernel) ?_
    refine fx_gi 1186 148 12 4 (by decide +kernel) ?_
    refine fx_cn (-1) 5 (by decide +kernel) (fun v4 c4 => ?_)
    refine fx_ieq 10 8 (by decide +kernel) (by first | exact hg 148 12 (by decide) (by decide +kernel) (by decide +kernel) | (unfold fR; omega)) (by unfold fR; omega) (fun h5 => ?_) (fun h5 => ?_)
    · refine fx_la 0 11 (v := 1186) (by decide +kernel) rfl (by decide +kernel) ?_
      refine fx_c1 277 21 14 2 [] (by decide +kernel) (by decide) rfl (by first | decide | omega) ?_
      refine sp_here h.1 h.2.1 (fK1 ?_)
      rw [h.2.2.2.1]
      refine fx_si 1 15 (by decide +kernel) (Or.inr (f_n4p (v := 1186) rfl (by decide))) rfl ?_
      dsimp only [List.set]
      refine fx_la 0 16 (v := 1186) (by decide +kernel) rfl (by decide +kernel) ?_
      refine fx_lds 429 18 (by decide +kernel) ?_
      refine fx_c2 275 21 21 4 [7, 7] (by decide +kernel) (by decide) (by decide) (by decide) rfl (by first | decide | omega) ?_
      refine sp_rhas [110, 111, 116] (by decide +kernel) h.id (fun t1 g1 s1 => fK1 ?_) (fun t1 g1 s1 _ => fK1 ?_)
      · refine fx_si 2 22 (by decide +kernel) (Or.inr (fI_n4 _)) rfl ?_
        dsimp only [List.set]
        refine fx_li 2 23 (by decide +kernel) rfl ?_
        refine fx_zne 40 26 (by decide +kernel) (by unfold fR; omega) (fun _ => ?_) (fun hc => absurd hc (by decide))
        refine fx_la 0 41 (v := 1186) (by decide +kernel) rfl (by decide +kernel) ?_
        refine fx_gi 1186 148 13 44 (by decide +kernel) ?_
        try simp only [fu_app, fcy_app, Nat.reduceEqDiff, and_true, and_false, false_and, true_and, if_true, if_false, ite_true, ite_false, reduceIte, Int.reduceToNat, fx_simp0]
        rw [s1.2.2.2.2.2.1]
        refine fx_ci (6) 46 (by decide +kernel) ?_
        refine fx_ine 56 49 (by decide +kernel) (by unfold fR; omega) (by unfold fR; omega) (fun h46 => ?_) (fun h46 => ?_)
        · refine fx_la 0 57 (v := 1186) (by decide +kernel) rfl (by decide +kernel) ?_
          refine fx_dup 58 (by decide +kernel) rfl (by decide) ?_
          refine fx_gi 1186 148 13 61 (by decide +kernel) ?_
          try simp only [fu_app, fcy_app, Nat.reduceEqDiff, and_true, and_false, false_and, true_and, if_true, if_false, ite_true, ite_false, reduceIte, Int.reduceToNat, fx_simp0]
          rw [s1.2.2.2.2.2.1]
          refine fx_ci (1) 62 (by decide +kernel) ?_
          refine fx_add 63 (by decide +kernel) rfl ?_
          refine fx_pi 1186 148 13 66 (by decide +kernel) (by unfold fR; omega) ?_
          refine fx_ci (0) 67 (by decide +kernel) ?_
          refine fx_si 3 68 (by decide +kernel) (Or.inr (fI_n4 _)) rfl ?_
          dsimp only [List.set]
          refine fx_li 2 69 (by decide +kernel) rfl ?_
          refine fx_zeq 88 72 (by decide +kernel) (by unfold fR; omega) (fun hc => absurd hc (by decide)) (fun _ => ?_)
          refine fx_la 0 73 (v := 1186) (by decide +kernel) rfl (by decide +kernel) ?_
          refine fx_c1 280 21 76 e [7, 7, 7] (by decide +kernel) (by decide) rfl (by first | decide | omega) ?_
          have tn : ¬ pSg T E 40 f := fun u => by have := pWd_0 (by decide) t1; have := u.2; simp at *; omega
          have g0' := pSk_ge T E (pWe T E f)
          have g1' : pWe T E f - f = 3 := t1.1
          have g2' := pWe_le (T := T) (E := E) (i := f) ok2
          refine hA (by omega) _ _ _ g0 _ _ c n hP hT s1.dp (by omega) (fun f3 c3 b g3 p3 s3 v3 b3 => fK1 ?_) (fun q b g3 p3 s3 b3 => fK1 ?_)
          · refine fx_zne 83 79 (by decide +kernel) (by unfold fR; omega) (fun h76 => ?_) (fun h76 => ?_)
            · refine fx_ci (0) 84 (by decide +kernel) ?_
              refine fx_si 3 85 (by decide +kernel) (Or.inr (fI_n4 _)) rfl ?_
              dsimp only [List.set]
              refine fx_go 138 (by decide +kernel) ?_
              refine fx_la 0 139 (v := 1186) (by decide +kernel) rfl (by decide +kernel) ?_
              refine fx_dup 140 (by decide +kernel) rfl (by decide) ?_
              refine fx_gi 1186 148 13 143 (by decide +kernel) ?_
              try simp only [fu_app, fcy_app, Nat.reduceEqDiff, and_true, and_false, false_and, true_and, if_true, if_false, ite_true, ite_false, reduceIte, Int.reduceToNat, fx_simp0]
              rw [s3.2.2.2.2.2.1]
              refine fx_ci (1) 144 (by decide +kernel) ?_
              refine fx_sub 145 (by decide +kernel) rfl ?_
              refine fx_pi 1186 148 13 148 (by decide +kernel) (by unfold fR; omega) ?_
              refine fx_li 3 149 (by decide +kernel) rfl ?_
              refine fx_retb (by decide +kernel) (by first | exact Or.inl rfl | exact Or.inr rfl | omega) ?_
              have e1 : dp + 1 - 1 = dp := by omega
              rw [e1]
              refine k1 _ _ _ _ (by rw [pA_n tn t1 (by omega), p3, bS_r]) s3.dp ?_ (by first | exact Or.inl rfl | exact Or.inr rfl)
              rw [evS_1, v3]
              show (1 - b) :: evS (fF g0) c = _
              first | rw [show (1 : Int) - b = 0 by omega] | rw [show (1 : Int) - b = 1 by omega]
            · refine fx_ci (1) 80 (by decide +kernel) ?_
              refine fx_go 84 (by decide +kernel) ?_
              refine fx_si 3 85 (by decide +kernel) (Or.inr (fI_n4 _)) rfl ?_
              dsimp only [List.set]
              refine fx_go 138 (by decide +kernel) ?_
              refine fx_la 0 139 (v := 1186) (by decide +kernel) rfl (by decide +kernel) ?_
              refine fx_dup 140 (by decide +kernel) rfl (by decide) ?_
              refine fx_gi 1186 148 13 143 (by decide +kernel) ?_
              try simp only [fu_app, fcy_app, Nat.reduceEqDiff, and_true, and_false, false_and, true_and, if_true, if_false, ite_true, ite_false, reduceIte, Int.reduceToNat, fx_simp0]
              rw [s3.2.2.2.2.2.1]
              refine fx_ci (1) 144 (by decide +kernel) ?_
              refine fx_sub 145 (by decide +kernel) rfl ?_
              refine fx_pi 1186 148 13 148 (by decide +kernel) (by unfold fR; omega) ?_
              refine fx_li 3 149 (by decide +kernel) rfl ?_
              refine fx_retb (by decide +kernel) (by first | exact Or.inl rfl | exact Or.inr rfl | omega) ?_
              have e1 : dp + 1 - 1 = dp := by omega
              rw [e1]
              refine k1 _ _ _ _ (by rw [pA_n tn t1 (by omega), p3, bS_r]) s3.dp ?_ (by first | exact Or.inl rfl | exact Or.inr rfl)
              rw [evS_1, v3]
              show (1 - b) :: evS (fF g0) c = _
              first | rw [show (1 : Int) - b = 0 by omega] | rw [show (1 : Int) - b = 1 by omega]
          · refine fx_zne 83 79 (by decide +kernel) (by unfold fR; omega) (fun h76 => ?_) (fun h76 => ?_)
            · refine fx_ci (0) 84 (by decide +kernel) ?_
              refine fx_si 3 85 (by decide +kernel) (Or.inr (fI_n4 _)) rfl ?_
              dsimp only [List.set]
              refine fx_go 138 (by decide +kernel) ?_
              refine fx_la 0 139 (v := 1186) (by decide +kernel) rfl (by decide +kernel) ?_
              refine fx_dup 140 (by decide +kernel) rfl (by decide) ?_
              refine fx_gi 1186 148 13 143 (by decide +kernel) ?_
              try simp only [fu_app, fcy_app, Nat.reduceEqDiff, and_true, and_false, false_and, true_and, if_true, if_false, ite_true, ite_false, reduceIte, Int.reduceToNat, fx_simp0]
              rw [s3.2.2.2.2.2]
              refine fx_ci (1) 144 (by decide +kernel) ?_
              refine fx_sub 145 (by decide +kernel) rfl ?_
              refine fx_pi 1186 148 13 148 (by decide +kernel) (by unfold fR; omega) ?_
              refine fx_li 3 149 (by decide +kernel) rfl ?_
              refine fx_retb (by decide +kernel) (by first | exact Or.inl rfl | exact Or.inr rfl | omega) ?_
              have e1 : dp + 1 - 1 = dp := by omega
              rw [e1]
              exact k2 q _ _ (by rw [pA_n tn t1 (by omega), p3, bS_l]) ⟨by rw [fu_nj (by decide)]; exact s3.1, s3.2.1, s3.2.2.1.d, by rw [fu_nj (by decide)]; exact s3.2.2.2.1, by rw [fu_nj (by decide)]; have := s3.2.2.2.2.1; omega, fu_eq _ _ _ _⟩ (by first | exact Or.inl rfl | exact Or.inr rfl)
            · refine fx_ci (1) 80 (by decide +kernel) ?_
              refine fx_go 84 (by decide +kernel) ?_
              refine fx_si 3 85 (by decide +kernel) (Or.inr (fI_n4 _)) rfl ?_
              dsimp only [List.set]
              refine fx_go 138 (by decide +kernel) ?_
              refine fx_la 0 139 (v := 1186) (by decide +kernel) rfl (by decide +kernel) ?_
              refine fx_dup 140 (by decide +kernel) rfl (by decide) ?_
              refine fx_gi 1186 148 13 143 (by decide +kernel) ?_
              try simp only [fu_app, fcy_app, Nat.reduceEqDiff, and_true, and_false, false_and, true_and, if_true, if_false, ite_true, ite_false, reduceIte, Int.reduceToNat, fx_simp0]
              rw [s3.2.2.2.2.2]
              refine fx_ci (1) 144 (by decide +kernel) ?_
              refine fx_sub 145 (by decide +kernel) rfl ?_
              refine fx_pi 1186 148 13 148 (by decide +kernel) (by unfold fR; omega) ?_
              refine fx_li 3 149 (by decide +kernel) rfl ?_
              refine fx_retb (by decide +kernel) (by first | exact Or.inl rfl | exact Or.inr rfl | omega) ?_
              have e1 : dp + 1 - 1 = dp := by omega
              rw [e1]
              exact k2 q _ _ (by rw [pA_n tn t1 (by omega), p3, bS_l]) ⟨by rw [fu_nj (by decide)]; exact s3.1, s3.2.1, s3.2.2.1.d, by rw [fu_nj (by decide)]; exact s3.2.2.2.1, by rw [fu_nj (by decide)]; have := s3.2.2.2.2.1; omega, fu_eq _ _ _ _⟩ (by first | exact Or.inl rfl | exact Or.inr rfl)
        · refine fx_la 0 50 (v := 1186) (by decide +kernel) rfl (by decide +kernel) ?_
          refine fx_li 1 51 (by decide +kernel) rfl ?_
          refine fx_c2 273 21 54 0 [] (by decide +kernel) (by decide) (by decide) (fI_n4 _) rfl (by first | decide | omega) ?_
          refine sp_wrong s1.2.2.2.2.1 (by unfold fR; omega) (fK0 ?_)
          refine fx_ci (0) 55 (by decide +kernel) ?_
          refine fx_retb (by decide +kernel) (by first | exact Or.inl rfl | exact Or.inr rfl | omega) ?_
          have tn : ¬ pSg T E 40 f := fun u => by have := pWd_0 (by decide) t1; have := u.2; simp at *; omega
          have b0 := s1.2.1
          have b1 := s1.2.2.1
          exact k2 f 0 _ (pA_n6 tn t1 (by omega)) ⟨fu_eq _ _ _ _, ok1, s1.2.2.2.2.2.2.f, by rw [fu_nj (by decide)]; exact b0, by rw [fu_nj (by decide)]; omega, by rw [fu_nj (by decide)]; exact s1.2.2.2.2.2.1⟩ (Or.inl rfl)
      · refine fx_si 2 22 (by decide +kernel) (Or.inr (fI_n4 _)) rfl ?_
        dsimp only [List.set]
        refine fx_li 2 23 (by decide +kernel) rfl ?_
        refine fx_zne 40 26 (by decide +kernel) (by unfold fR; omega) (fun hc => absurd hc (by decide)) (fun _ => ?_)
        refine fx_la 0 27 (v := 1186) (by decide +kernel) rfl (by decide +kernel) ?_
        refine fx_ci (40) 29 (by decide +kernel) ?_
        refine fx_c2 281 21 32 2 [] (by decide +kernel) (by decide) (by decide) (fI_n4 _) rfl (by first | decide | omega) ?_
        refine sp_rsign s1 (by unfold fR; omega) (fun t g2 s2 a2 => fK1 ?_) (fun t g2 s2 a2 => fK1 ?_)
        · refine fx_zne 40 35 (by decide +kernel) (by unfold fR; omega) (fun _ => ?_) (fun hc => absurd hc (by decide))
          refine fx_la 0 41 (v := 1186) (by decide +kernel) rfl (by decide +kernel) ?_
          refine fx_gi 1186 148 13 44 (by decide +kernel) ?_
          try simp only [fu_app, fcy_app, Nat.reduceEqDiff, and_true, and_false, false_and, true_and, if_true, if_false, ite_true, ite_false, reduceIte, Int.reduceToNat, fx_simp0]
          rw [s2.2.2.2.2.2.1]
          refine fx_ci (6) 46 (by decide +kernel) ?_
          refine fx_ine 56 49 (by decide +kernel) (by unfold fR; omega) (by unfold fR; omega) (fun h46 => ?_) (fun h46 => ?_)
          · refine fx_la 0 57 (v := 1186) (by decide +kernel) rfl (by decide +kernel) ?_
            refine fx_dup 58 (by decide +kernel) rfl (by decide) ?_
            refine fx_gi 1186 148 13 61 (by decide +kernel) ?_
            try simp only [fu_app, fcy_app, Nat.reduceEqDiff, and_true, and_false, false_and, true_and, if_true, if_false, ite_true, ite_false, reduceIte, Int.reduceToNat, fx_simp0]
            rw [s2.2.2.2.2.2.1]
            refine fx_ci (1) 62 (by decide +kernel) ?_
            refine fx_add 63 (by decide +kernel) rfl ?_
            refine fx_pi 1186 148 13 66 (by decide +kernel) (by unfold fR; omega) ?_
            refine fx_ci (0) 67 (by decide +kernel) ?_
            refine fx_si 3 68 (by decide +kernel) (Or.inr (fI_n4 _)) rfl ?_
            dsimp only [List.set]
            refine fx_li 2 69 (by decide +kernel) rfl ?_
            refine fx_zeq 88 72 (by decide +kernel) (by unfold fR; omega) (fun _ => ?_) (fun hc => absurd hc (by decide))
            refine fx_la 0 89 (v := 1186) (by decide +kernel) rfl (by decide +kernel) ?_
            refine fx_dup 90 (by decide +kernel) rfl (by decide) ?_
            refine fx_gi 1186 148 11 93 (by decide +kernel) ?_
            try simp only [fu_app, fcy_app, Nat.reduceEqDiff, and_true, and_false, false_and, true_and, if_true, if_false, ite_true, ite_false, reduceIte, Int.reduceToNat, fx_simp0]
            rw [a2]
            refine fx_ci (1) 94 (by decide +kernel) ?_
            refine fx_add 95 (by decide +kernel) rfl ?_
            refine fx_pi 1186 148 11 98 (by decide +kernel) (by unfold fR; omega) ?_
            refine fx_la 0 99 (v := 1186) (by decide +kernel) rfl (by decide +kernel) ?_
            refine fx_c1 278 21 102 e [7, 7] (by decide +kernel) (by decide) rfl (by first | decide | omega) ?_
            have g0' := pSk_ge T E (f + 1)
            have fE := t.1
            have s4 := (s2.dp (d2 := dp + 1)).to (a := f + 1) (by omega) (by omega)
            refine hS (by omega) _ _ _ g0 _ _ c n hP hT s4 (by omega) (fun f3 c3 b g3 p3 s3 v3 b3 => fK1 ?_) (fun q b g3 p3 s3 b3 => fK1 ?_)
            have o31 := s3.ok.1
            have o32 := s3.ok.2.1
            · refine fx_si 3 103 (by decide +kernel) (Or.inr (fI_n4 _)) rfl ?_
              dsimp only [List.set]
              refine fx_la 0 104 (v := 1186) (by decide +kernel) rfl (by decide +kernel) ?_
              refine fx_gi 1186 148 12 107 (by decide +kernel) ?_
              try simp only [fu_app, fcy_app, Nat.reduceEqDiff, and_true, and_false, false_and, true_and, if_true, if_false, ite_true, ite_false, reduceIte, Int.reduceToNat, fx_simp0]
              refine fx_rg (fun hg => ?_)
              have rf := hg 148 12 (by decide) (by decide +kernel) (by decide +kernel)
              unfold fR at rf
              refine fx_cn (-1) 108 (by decide +kernel) (fun v107 c107 => ?_)
              refine fx_ine 128 111 (by decide +kernel) (by unfold fR; omega) (by unfold fR; omega) (fun h108 => ?_) (fun h108 => ?_)
              · have q1 := s3.2.2.2.2.1
                exfalso; omega
              · refine fx_la 0 112 (v := 1186) (by decide +kernel) rfl (by decide +kernel) ?_
                refine fx_ci (41) 114 (by decide +kernel) ?_
                refine fx_c2 281 21 117 2 [] (by decide +kernel) (by decide) (by decide) (fI_n4 _) rfl (by first | decide | omega) ?_
                refine sp_rsign s3 (by unfold fR; omega) (fun t5 g5 s5 a5 => fK1 ?_) (fun t5 g5 s5 a5 => fK1 ?_)
                · refine fx_zne 128 120 (by decide +kernel) (by unfold fR; omega) (fun _ => ?_) (fun hc => absurd hc (by decide))
                  refine fx_la 0 129 (v := 1186) (by decide +kernel) rfl (by decide +kernel) ?_
                  refine fx_dup 130 (by decide +kernel) rfl (by decide) ?_
                  refine fx_gi 1186 148 11 133 (by decide +kernel) ?_
                  try simp only [fu_app, fcy_app, Nat.reduceEqDiff, and_true, and_false, false_and, true_and, if_true, if_false, ite_true, ite_false, reduceIte, Int.reduceToNat, fx_simp0]
                  rw [a5]
                  refine fx_ci (1) 134 (by decide +kernel) ?_
                  refine fx_add 135 (by decide +kernel) rfl ?_
                  refine fx_pi 1186 148 11 138 (by decide +kernel) (by unfold fR; omega) ?_
                  refine fx_la 0 139 (v := 1186) (by decide +kernel) rfl (by decide +kernel) ?_
                  refine fx_dup 140 (by decide +kernel) rfl (by decide) ?_
                  refine fx_gi 1186 148 13 143 (by decide +kernel) ?_
                  try simp only [fu_app, fcy_app, Nat.reduceEqDiff, and_true, and_false, false_and, true_and, if_true, if_false, ite_true, ite_false, reduceIte, Int.reduceToNat, fx_simp0]
                  rw [s5.2.2.2.2.2.1]
                  refine fx_ci (1) 144 (by decide +kernel) ?_
                  refine fx_sub 145 (by decide +kernel) rfl ?_
                  refine fx_pi 1186 148 13 148 (by decide +kernel) (by unfold fR; omega) ?_
                  refine fx_li 3 149 (by decide +kernel) rfl ?_
                  refine fx_retb (by decide +kernel) (by first | exact Or.inl rfl | exact Or.inr rfl | omega) ?_
                  have e1 : dp + 1 - 1 = dp := by omega
                  rw [e1]
                  have f3E := t5.1
                  exact k1 _ _ b _ (by rw [pA_p t (by omega), p3, bS_r]; exact cif_t t5) (s5.to (a := f3 + 1) (by omega) (by omega)).dp v3 b3
                · refine fx_zne 128 120 (by decide +kernel) (by unfold fR; omega) (fun hc => absurd hc (by decide)) (fun _ => ?_)
                  refine fx_la 0 121 (v := 1186) (by decide +kernel) rfl (by decide +kernel) ?_
                  refine fx_la 0 122 (v := 1186) (by decide +kernel) rfl (by decide +kernel) ?_
                  refine fx_gi 1186 148 11 125 (by decide +kernel) ?_
                  try simp only [fu_app, fcy_app, Nat.reduceEqDiff, and_true, and_false, false_and, true_and, if_true, if_false, ite_true, ite_false, reduceIte, Int.reduceToNat, fx_simp0]
                  rw [a5]
                  refine fx_c2 273 21 128 0 [] (by decide +kernel) (by decide) (by decide) (fI_n4 _) rfl (by first | decide | omega) ?_
                  refine sp_wrong s5.2.2.2.2.1 (by unfold fR; omega) (fK0 ?_)
                  refine fx_la 0 129 (v := 1186) (by decide +kernel) rfl (by decide +kernel) ?_
                  refine fx_dup 130 (by decide +kernel) rfl (by decide) ?_
                  refine fx_gi 1186 148 11 133 (by decide +kernel) ?_
                  try simp only [fu_app, fcy_app, Nat.reduceEqDiff, and_true, and_false, false_and, true_and, if_true, if_false, ite_true, ite_false, reduceIte, Int.reduceToNat, fx_simp0]
                  rw [a5]
                  refine fx_ci (1) 134 (by decide +kernel) ?_
                  refine fx_add 135 (by decide +kernel) rfl ?_
                  refine fx_pi 1186 148 11 138 (by decide +kernel) (by unfold fR; omega) ?_
                  refine fx_la 0 139 (v := 1186) (by decide +kernel) rfl (by decide +kernel) ?_
                  refine fx_dup 140 (by decide +kernel) rfl (by decide) ?_
                  refine fx_gi 1186 148 13 143 (by decide +kernel) ?_
                  try simp only [fu_app, fcy_app, Nat.reduceEqDiff, and_true, and_false, false_and, true_and, if_true, if_false, ite_true, ite_false, reduceIte, Int.reduceToNat, fx_simp0]
                  rw [s5.2.2.2.2.2.1]
                  refine fx_ci (1) 144 (by decide +kernel) ?_
                  refine fx_sub 145 (by decide +kernel) rfl ?_
                  refine fx_pi 1186 148 13 148 (by decide +kernel) (by unfold fR; omega) ?_
                  refine fx_li 3 149 (by decide +kernel) rfl ?_
                  refine fx_retb (by decide +kernel) (by first | exact Or.inl rfl | exact Or.inr rfl | omega) ?_
                  have e1 : dp + 1 - 1 = dp := by omega
                  rw [e1]
                  exact k2 f3 b _ (by rw [pA_p t (by omega), p3, bS_r]; exact cif_f t5) ⟨by rw [fu_nj (by decide), fu_nj (by decide), fu_eq], o31, (s5.2.2.2.2.2.2.f.a).d, by rw [fu_nj (by decide), fu_eq]; omega, by rw [fu_nj (by decide), fu_eq]; omega, fu_eq _ _ _ _⟩ b3
            · refine fx_si 3 103 (by decide +kernel) (Or.inr (fI_n4 _)) rfl ?_
              dsimp only [List.set]
              refine fx_la 0 104 (v := 1186) (by decide +kernel) rfl (by decide +kernel) ?_
              refine fx_gi 1186 148 12 107 (by decide +kernel) ?_
              try simp only [fu_app, fcy_app, Nat.reduceEqDiff, and_true, and_false, false_and, true_and, if_true, if_false, ite_true, ite_false, reduceIte, Int.reduceToNat, fx_simp0]
              refine fx_rg (fun hg => ?_)
              have rf := hg 148 12 (by decide) (by decide +kernel) (by decide +kernel)
              unfold fR at rf
              refine fx_cn (-1) 108 (by decide +kernel) (fun v107 c107 => ?_)
              refine fx_ine 128 111 (by decide +kernel) (by unfold fR; omega) (by unfold fR; omega) (fun h108 => ?_) (fun h108 => ?_)
              · refine fx_la 0 129 (v := 1186) (by decide +kernel) rfl (by decide +kernel) ?_
                refine fx_dup 130 (by decide +kernel) rfl (by decide) ?_
                refine fx_gi 1186 148 11 133 (by decide +kernel) ?_
                try simp only [fu_app, fcy_app, Nat.reduceEqDiff, and_true, and_false, false_and, true_and, if_true, if_false, ite_true, ite_false, reduceIte, Int.reduceToNat, fx_simp0]
                have b1 := s3.2.2.2.1
                have b2 := s3.2.2.2.2.1
                refine fx_ci (1) 134 (by decide +kernel) ?_
                refine fx_add 135 (by decide +kernel) rfl ?_
                refine fx_pi 1186 148 11 138 (by decide +kernel) (by unfold fR; omega) ?_
                refine fx_la 0 139 (v := 1186) (by decide +kernel) rfl (by decide +kernel) ?_
                refine fx_dup 140 (by decide +kernel) rfl (by decide) ?_
                refine fx_gi 1186 148 13 143 (by decide +kernel) ?_
                try simp only [fu_app, fcy_app, Nat.reduceEqDiff, and_true, and_false, false_and, true_and, if_true, if_false, ite_true, ite_false, reduceIte, Int.reduceToNat, fx_simp0]
                rw [s3.2.2.2.2.2]
                refine fx_ci (1) 144 (by decide +kernel) ?_
                refine fx_sub 145 (by decide +kernel) rfl ?_
                refine fx_pi 1186 148 13 148 (by decide +kernel) (by unfold fR; omega) ?_
                refine fx_li 3 149 (by decide +kernel) rfl ?_
                refine fx_retb (by decide +kernel) (by first | exact Or.inl rfl | exact Or.inr rfl | omega) ?_
                have e1 : dp + 1 - 1 = dp := by omega
                rw [e1]
                exact k2 q b _ (by rw [pA_p t (by omega), p3, bS_l]) ⟨by rw [fu_nj (by decide), fu_nj (by decide)]; exact s3.1, s3.2.1, (s3.2.2.1.a).d, by rw [fu_nj (by decide), fu_eq]; omega, by rw [fu_nj (by decide), fu_eq]; omega, fu_eq _ _ _ _⟩ b3
              · have q1 := s3.1
                have q2 := s3.2.1
                exfalso; omega
          · refine fx_la 0 50 (v := 1186) (by decide +kernel) rfl (by decide +kernel) ?_
            refine fx_li 1 51 (by decide +kernel) rfl ?_
            refine fx_c2 273 21 54 0 [] (by decide +kernel) (by decide) (by decide) (fI_n4 _) rfl (by first | decide | omega) ?_
            refine sp_wrong s2.2.2.2.2.1 (by unfold fR; omega) (fK0 ?_)
            refine fx_ci (0) 55 (by decide +kernel) ?_
            refine fx_retb (by decide +kernel) (by first | exact Or.inl rfl | exact Or.inr rfl | omega) ?_
            exact k2 f 0 _ (pA_p6 t (by omega)) ⟨fu_eq _ _ _ _, ok1, s2.2.2.2.2.2.2.f, by rw [fu_nj (by decide), a2]; exact ok1, by rw [fu_nj (by decide), a2]; omega, by rw [fu_nj (by decide)]; exact s2.2.2.2.2.2.1⟩ (Or.inl rfl)
        · refine fx_zne 40 35 (by decide +kernel) (by unfold fR; omega) (fun hc => absurd hc (by decide)) (fun _ => ?_)
          refine fx_la 0 36 (v := 1186) (by decide +kernel) rfl (by decide +kernel) ?_
          refine fx_c1 282 21 39 7 [7, 7, 7] (by decide +kernel) (by decide) rfl (by first | decide | omega) ?_
          refine sp_mplain (c := c) hP hT s2 (fun f1 c1 b g3 p3 s3 v3 b3 => fK1 ?_) (fun q b g3 p3 s3 b3 => fK1 ?_)
          · refine fx_retb (by decide +kernel) b3 ?_
            exact k1 f1 c1 b g3 ((pA_pl t t1).trans p3) s3 v3 b3
          · refine fx_retb (by decide +kernel) b3 ?_
            exact k2 q b g3 ((pA_pl t t1).trans p3) ⟨s3.1, s3.2.1, s3.2.2.1, s3.2.2.2.1, by have := s3.2.2.2.2.1; omega, s3.2.2.2.2.2⟩ b3
    · refine fx_ci (0) 9 (by decide +kernel) ?_
      refine fx_retb (by decide +kernel) (by first | exact Or.inl rfl | exact Or.inr rfl | omega) ?_
      exfalso; omega
end G5I
