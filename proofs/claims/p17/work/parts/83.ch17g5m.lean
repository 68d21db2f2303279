/-! fx: the reference reads the law: all lines, law() -/
theorem pSk_hi {T : Int → Int} {E i : Int} (h : E ≤ i) : pSk T E i = i := by
  show prun _ E i = i
  unfold prun
  rw [show (E - i).toNat = 0 by omega]
  rfl
section G5M
variable {W : ax_W} {r : Nat} {Q : Nat → Nat → (Nat → Nat → Int) → Prop} {T : Int → Int} {E : Int}
theorem sp_rdL_0 {g : Nat → Nat → Int} {n : Int} (kq : Q 1 (fI n) g) : fx W r 34 270 23 [1186, fI 1, fI 0, fI n] [] g Q := by
  refine fx_li 2 24 (by decide +kernel) rfl ?_
  refine fx_zeq 144 27 (by decide +kernel) (by unfold fR; omega) (fun _ => ?_) (fun hc => absurd hc (by decide))
  refine fx_li 3 145 (by decide +kernel) rfl ?_
  refine fx_ret (by decide +kernel) ?_
  exact kq
/-- a wrong byte was told: the end -/
theorem sp_rdL_f {g gs : Nat → Nat → Int} {n q B : Int} (hR : RT T E gs) (h : rwF gs g q B 0) (kq : ∀ g', rX g g' → g' 148 12 = q → Q 1 (fI (n + 1)) g') : fx W r 34 270 80 [1186, fI 1, fI 1, fI n] [] g Q := by
  obtain ⟨h1, h2, h3, h4, h5, h6⟩ := h
  have hRg := RT_rX hR h3
  refine fx_inc 3 83 (1) (by decide +kernel) rfl (Or.inr (fI_n4 _)) rfl ?_
  dsimp only [List.set]
  refine fx_la 0 84 (v := 1186) (by decide +kernel) rfl (by decide +kernel) ?_
  refine fx_c1 271 21 87 1 [] (by decide +kernel) (by decide) rfl (by first | decide | omega) ?_
  refine sp_skip hRg h4 (fK0 ?_)
  refine fx_la 0 88 (v := 1186) (by decide +kernel) rfl (by decide +kernel) ?_
  refine fx_gi 1186 148 12 91 (by decide +kernel) ?_
  try simp only [fu_app, fcy_app, Nat.reduceEqDiff, and_true, and_false, false_and, true_and, if_true, if_false, ite_true, ite_false, reduceIte, Int.reduceToNat, fx_simp0]
  refine fx_rg (fun hg => ?_)
  have rf := hg 148 12 (by decide) (by decide +kernel) (by decide +kernel)
  rw [fu_nj (by decide)] at rf
  unfold fR at rf
  refine fx_cn (-1) 92 (by decide +kernel) (fun v91 c91 => ?_)
  refine fx_ine 106 95 (by decide +kernel) (by unfold fR; omega) (by unfold fR; omega) (fun h92 => ?_) (fun h92 => ?_)
  · refine fx_ci (0) 107 (by decide +kernel) ?_
    refine fx_si 2 108 (by decide +kernel) (Or.inr (fI_n4 _)) rfl ?_
    dsimp only [List.set]
    refine fx_go 23 (by decide +kernel) ?_
    exact sp_rdL_0 (kq _ (rX.a rX.rf) (by rw [fu_nj (by decide)]; exact h1))
  · exfalso; omega
theorem sp_rdL {F : Nat → Int} : ∀ (left n : Nat) (f : Int) (gs g : Nat → Nat → Int), n + left = 12 → fF gs = F → (gs 148 15 = 0 ∨ gs 148 15 = 1) → (gs 148 16 = 0 ∨ gs 148 16 = 1) → rwS T E gs g f 0 →
    (∀ segs, pSeg T E left f = Sum.inr segs → ∀ g', rX (fSg F segs gs) g' → g' 148 12 = -1 → Q 1 (fI ((n : Int) + segs.length)) g') →
    (∀ q, pSeg T E left f = Sum.inl q → ∀ v g', rY gs g' → g' 148 12 = q → 0 ≤ q → Q 1 (fI v) g') → fx W r 34 270 23 [1186, fI 1, fI 1, fI (n : Int)] [] g Q
  | left, n, f, gs, g, hn, hF, hP, hT, h, k1, k2 => by
    have ok := h.ok
    have ok1 := ok.1
    have ok2 := ok.2.1
    have hE := h.1.2.2.1
    have hf := h.2.2.2.2.1
    have hR0 : RT T E gs := RT_rX h.1 (fun c j a => (h.2.2.2.2.2.2 c j a).symm)
    refine fx_li 2 24 (by decide +kernel) rfl ?_
    refine fx_zeq 144 27 (by decide +kernel) (by unfold fR; omega) (fun hc => absurd hc (by decide)) (fun _ => ?_)
    refine fx_la 0 28 (v := 1186) (by decide +kernel) rfl (by decide +kernel) ?_
    refine fx_gi 1186 148 12 31 (by decide +kernel) ?_
    refine fx_cn (-1) 32 (by decide +kernel) (fun v31 c31 => ?_)
    refine fx_ine 144 35 (by decide +kernel) (by first | exact hg 148 12 (by decide) (by decide +kernel) (by decide +kernel) | (unfold fR; omega)) (by unfold fR; omega) (fun h32 => ?_) (fun h32 => ?_)
    · exfalso; omega
    · refine fx_la 0 36 (v := 1186) (by decide +kernel) rfl (by decide +kernel) ?_
      refine fx_c1 271 21 39 1 [] (by decide +kernel) (by decide) rfl (by first | decide | omega) ?_
      refine sp_skip h.1 h.2.1 (fK0 ?_)
      rw [h.2.2.2.1]
      refine fx_li 3 40 (by decide +kernel) rfl ?_
      refine fx_li 1 41 (by decide +kernel) rfl ?_
      refine fx_zeq 49 44 (by decide +kernel) (by unfold fR; omega) (fun hc => absurd hc (by decide)) (fun _ => ?_)
      refine fx_ci (12) 46 (by decide +kernel) ?_
      refine fx_go 51 (by decide +kernel) ?_
      refine fx_ine 65 54 (by decide +kernel) (by unfold fR; omega) (by unfold fR; omega) (fun h51 => ?_) (fun h51 => ?_)
      · refine fx_li 1 66 (by decide +kernel) rfl ?_
        refine fx_zeq 76 69 (by decide +kernel) (by unfold fR; omega) (fun hc => absurd hc (by decide)) (fun _ => ?_)
        refine fx_la 0 70 (v := 1186) (by decide +kernel) rfl (by decide +kernel) ?_
        refine fx_c1 274 21 73 33 [7, 7, 7] (by decide +kernel) (by decide) rfl (by first | decide | omega) ?_
        have e : ∃ l, left = l + 1 := ⟨left - 1, by omega⟩
        obtain ⟨l, rfl⟩ := e
        refine sp_mlawLine hP hT h.id (fun f1 d kd am b g1 p1 pb s1 => fK0 ?_) (fun q g1 p1 s1 => fK0 ?_)
        have eR1 : pSeg T E (l + 1) f = if f1 = E then Sum.inr [(d, kd, am)] else if T f1 = 59 then bS (pSeg T E l (pSk T E (f1 + 1))) (fun r => Sum.inr ((d, kd, am) :: r)) else Sum.inl f1 := by
          show bS (pLL T E f []) _ = _
          rw [p1, bS_r]
        have o := pLL_ok p1 ok (by show (0 : Int) ≤ f; exact ok1)
        have o1 := o.1.1
        have o2 := o.1.2.1
        have s1e := s1.2.2.2.1
        have s1f := s1.2.2.2.2.1
        have s1E := s1.1.1
        rw [hF] at pb
        subst pb
        · refine fx_go 80 (by decide +kernel) ?_
          refine fx_inc 3 83 (1) (by decide +kernel) rfl (Or.inr (fI_n4 _)) rfl ?_
          dsimp only [List.set]
          refine fx_la 0 84 (v := 1186) (by decide +kernel) rfl (by decide +kernel) ?_
          refine fx_c1 271 21 87 1 [] (by decide +kernel) (by decide) rfl (by first | decide | omega) ?_
          refine sp_skip s1.1 s1.2.1 (fK0 ?_)
          rw [s1e]
          have s2 := s1.id
          refine fx_la 0 88 (v := 1186) (by decide +kernel) rfl (by decide +kernel) ?_
          refine fx_gi 1186 148 12 91 (by decide +kernel) ?_
          try simp only [fu_app, fcy_app, Nat.reduceEqDiff, and_true, and_false, false_and, true_and, if_true, if_false, ite_true, ite_false, reduceIte, Int.reduceToNat, fx_simp0]
          rw [s1f]
          refine fx_ci (-1) 92 (by decide +kernel) ?_
          refine fx_ine 106 95 (by decide +kernel) (by unfold fR; omega) (by unfold fR; omega) (fun h92 => ?_) (fun h92 => ?_)
          · exfalso; omega
          · refine fx_la 0 96 (v := 1186) (by decide +kernel) rfl (by decide +kernel) ?_
            refine fx_gi 1186 148 11 99 (by decide +kernel) ?_
            try simp only [fu_app, fcy_app, Nat.reduceEqDiff, and_true, and_false, false_and, true_and, if_true, if_false, ite_true, ite_false, reduceIte, Int.reduceToNat, fx_simp0]
            refine fx_la 0 100 (v := 1186) (by decide +kernel) rfl (by decide +kernel) ?_
            refine fx_gi 1186 148 10 103 (by decide +kernel) ?_
            try simp only [fu_app, fcy_app, Nat.reduceEqDiff, and_true, and_false, false_and, true_and, if_true, if_false, ite_true, ite_false, reduceIte, Int.reduceToNat, fx_simp0]
            refine fx_ine 111 106 (by decide +kernel) (by unfold fR; omega) (by unfold fR; omega) (fun h103 => ?_) (fun h103 => ?_)
            · refine fx_la 0 112 (v := 1186) (by decide +kernel) rfl (by decide +kernel) ?_
              refine fx_ci (59) 114 (by decide +kernel) ?_
              refine fx_c2 281 21 117 2 [] (by decide +kernel) (by decide) (by decide) (fI_n4 _) rfl (by first | decide | omega) ?_
              refine sp_rsign s2 (by unfold fR; omega) (fun t g3 s3 a3 => fK1 ?_) (fun t g3 s3 a3 => fK1 ?_)
              · refine fx_zeq 133 120 (by decide +kernel) (by unfold fR; omega) (fun hc => absurd hc (by decide)) (fun _ => ?_)
                refine fx_la 0 121 (v := 1186) (by decide +kernel) rfl (by decide +kernel) ?_
                refine fx_dup 122 (by decide +kernel) rfl (by decide) ?_
                refine fx_gi 1186 148 11 125 (by decide +kernel) ?_
                try simp only [fu_app, fcy_app, Nat.reduceEqDiff, and_true, and_false, false_and, true_and, if_true, if_false, ite_true, ite_false, reduceIte, Int.reduceToNat, fx_simp0]
                rw [a3]
                refine fx_ci (1) 126 (by decide +kernel) ?_
                refine fx_add 127 (by decide +kernel) rfl ?_
                refine fx_pi 1186 148 11 130 (by decide +kernel) (by unfold fR; omega) ?_
                refine fx_go 23 (by decide +kernel) ?_
                rw [if_neg (by omega), if_pos t.2] at eR1
                have fE := t.1
                have s4 := s3.to (a := f1 + 1) (by omega) (by omega)
                refine sp_rdL (F := F) l (n + 1) (pSk T E (f1 + 1)) (fLn kd am (lnV F d) gs) _ (by omega) (by rw [fLn_F]; exact hF) (by rw [fLn_x (by decide)]; exact hP) (by rw [fLn_x (by decide)]; exact hT) s4 (fun segs p g' x1 x2 => ?_) (fun q p v g' x1 x2 x3 => ?_)
                · rw [p, bS_r] at eR1
                  have kk := k1 _ eR1 g' x1 x2
                  rw [show ((n : Int) + (((d, kd, am) :: segs).length : Nat)) = ((n + 1 : Nat) : Int) + (segs.length : Nat) by rw [List.length_cons] <;> omega] at kk
                  exact kk
                · rw [p, bS_l] at eR1
                  exact k2 q eR1 v g' (rY.ln.tr x1) x2 x3
              · refine fx_zeq 133 120 (by decide +kernel) (by unfold fR; omega) (fun _ => ?_) (fun hc => absurd hc (by decide))
                refine fx_la 0 134 (v := 1186) (by decide +kernel) rfl (by decide +kernel) ?_
                refine fx_la 0 135 (v := 1186) (by decide +kernel) rfl (by decide +kernel) ?_
                refine fx_gi 1186 148 11 138 (by decide +kernel) ?_
                try simp only [fu_app, fcy_app, Nat.reduceEqDiff, and_true, and_false, false_and, true_and, if_true, if_false, ite_true, ite_false, reduceIte, Int.reduceToNat, fx_simp0]
                rw [a3]
                refine fx_c2 273 21 141 0 [] (by decide +kernel) (by decide) (by decide) (fI_n4 _) rfl (by first | decide | omega) ?_
                refine sp_wrong s3.2.2.2.2.1 (by unfold fR; omega) (fK0 ?_)
                refine fx_go 23 (by decide +kernel) ?_
                rw [if_neg (by omega), if_neg (fun u => t ⟨by omega, u⟩)] at eR1
                refine fx_rg (fun hg => ?_)
                refine fx_li 2 24 (by decide +kernel) rfl ?_
                refine fx_zeq 144 27 (by decide +kernel) (by unfold fR; omega) (fun hc => absurd hc (by decide)) (fun _ => ?_)
                refine fx_la 0 28 (v := 1186) (by decide +kernel) rfl (by decide +kernel) ?_
                refine fx_gi 1186 148 12 31 (by decide +kernel) ?_
                refine fx_cn (-1) 32 (by decide +kernel) (fun v31 c31 => ?_)
                refine fx_ine 144 35 (by decide +kernel) (by first | exact hg 148 12 (by decide) (by decide +kernel) (by decide +kernel) | (unfold fR; omega)) (by unfold fR; omega) (fun h32 => ?_) (fun h32 => ?_)
                · refine fx_li 3 145 (by decide +kernel) rfl ?_
                  refine fx_ret (by decide +kernel) ?_
                  exact k2 f1 eR1 _ _ ((rY.ln.x s3.2.2.2.2.2.2).x (rX.f rX.rf)) (fu_eq _ _ _ _) o1
                · rw [fu_eq] at h32
                  exfalso; omega
            · refine fx_ci (0) 107 (by decide +kernel) ?_
              refine fx_si 2 108 (by decide +kernel) (Or.inr (fI_n4 _)) rfl ?_
              dsimp only [List.set]
              refine fx_go 23 (by decide +kernel) ?_
              rw [if_pos (by omega)] at eR1
              refine sp_rdL_0 ?_
              have kk := k1 _ eR1 (fu g1 148 11 f1) (s1.2.2.2.2.2.2.a) (by rw [fu_nj (by decide)]; exact s1f)
              exact kk
        · refine fx_go 80 (by decide +kernel) ?_
          refine sp_rdL_f hR0 s1 (fun g' x1 x2 => ?_)
          exact k2 q (by show bS (pLL T E f []) _ = _; rw [p1, bS_l]) _ g' ((rY.rf.x s1.2.2.1).x x1) x2 s1.2.1
      · refine fx_la 0 55 (v := 1186) (by decide +kernel) rfl (by decide +kernel) ?_
        refine fx_la 0 56 (v := 1186) (by decide +kernel) rfl (by decide +kernel) ?_
        refine fx_gi 1186 148 11 59 (by decide +kernel) ?_
        try simp only [fu_app, fcy_app, Nat.reduceEqDiff, and_true, and_false, false_and, true_and, if_true, if_false, ite_true, ite_false, reduceIte, Int.reduceToNat, fx_simp0]
        refine fx_c2 273 21 62 0 [] (by decide +kernel) (by decide) (by decide) (fI_n4 _) rfl (by first | decide | omega) ?_
        refine sp_wrong (by rw [fu_nj (by decide)]; exact hf) (by unfold fR; omega) (fK0 ?_)
        refine fx_go 80 (by decide +kernel) ?_
        have e : left = 0 := by omega
        subst e
        refine sp_rdL_f hR0 (q := f) (B := 400) ⟨fu_eq _ _ _ _, ok1, h.id.2.2.2.2.2.2.f, by rw [fu_nj (by decide), fu_eq]; exact ok1, by rw [fu_nj (by decide), fu_eq]; omega, by rw [fu_nj (by decide)]; exact h.id.2.2.2.2.2.1⟩ (fun g' x1 x2 => ?_)
        exact k2 f rfl _ g' ((rY.rf.x h.id.2.2.2.2.2.2.f).x x1) x2 ok1
end G5M
