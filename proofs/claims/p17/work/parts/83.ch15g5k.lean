/-! fx: the reference reads the law: lines -/
theorem fx_ineg {W : ax_W} {r d mi pc : Nat} {L S : List Nat} {g : Nat → Nat → Int} {Q : Nat → Nat → (Nat → Nat → Int) → Prop} (pc' : Nat) {z : Int} (q : (fq mi pc 32 && Nat.beq (sx_wa (fw mi pc)) 0) = true) (hp : pc + 1 = pc') (k : fx W r d mi pc' L (fI (-z) :: S) g Q) : fx W r d mi pc L (fI z :: S) g Q := by
  subst hp
  obtain ⟨q1, q2⟩ := f_and q
  obtain ⟨o1, o2⟩ := fq_ok q1
  refine fx_s o2 (fun ih D h cs ss _ => ?_) k
  rw [cx_b32 o1]
  unfold sx_oUn
  rw [fcp1, sx_fo_eq, show sx_wa (sx_ft (sx_mt mi).1 pc) = 0 from sx_beq q2, sx_beq_e (by decide), sx_if_f, fI_eq, cx_nm, ax_tg_i, sx_beq_t rfl, sx_if_t, sx_fo_eq, sx_if_t, ax_on_pl]
  have e : sx_i (-Int32.ofInt z) = fI (-z) := by rw [fI_eq, Int32.ofInt_neg]
  rw [e]
section SH
variable {T : Int → Int} {E : Int}
/-- the steps c ahead of those that are told -/
noncomputable def shL (c : List Int) (x : Int ⊕ (Int × List Int)) : Int ⊕ (Int × List Int) := bS x (fun a => Sum.inr (a.1, c ++ a.2))
theorem shL_l {c : List Int} {q : Int} : shL c (Sum.inl q) = Sum.inl q := rfl
theorem shL_r {c : List Int} {f : Int} {d : List Int} : shL c (Sum.inr (f, d)) = Sum.inr (f, c ++ d) := rfl
theorem shL_cif {c : List Int} {P : Prop} {a b : Int ⊕ (Int × List Int)} : shL c (cif P a b) = cif P (shL c a) (shL c b) := by
  by_cases h : P
  · rw [cif_t h, cif_t h]
  · rw [cif_f h, cif_f h]
theorem shL_bS {c : List Int} {x : Int ⊕ (Int × List Int)} {k : Int × List Int → Int ⊕ (Int × List Int)} (h : ∀ f d, shL c (k (f, d)) = k (f, c ++ d)) : shL c (bS x k) = bS (shL c x) k := by
  cases x with
  | inl q => rfl
  | inr a => exact h a.1 a.2
theorem pSum_sh (c : List Int) : ∀ (n : Nat) (f : Int) (d : List Int) (j : Bool), pSum T E n f (c ++ d) j = shL c (pSum T E n f d j)
  | 0, f, d, j => rfl
  | n + 1, f, d, j => by
    show bS (pPart T E f) _ = shL c (bS (pPart T E f) _)
    cases h : pPart T E f with
    | inl q => rfl
    | inr a =>
      rw [bS_r, bS_r, shL_cif, shL_r, ← pSum_sh c n, List.append_assoc]
theorem pCmp_sh (c d : List Int) (f : Int) : pCmp T E f (c ++ d) = shL c (pCmp T E f d) := by
  unfold pCmp
  have ap : ∀ (x : Int) (f : Int) (e : List Int), shL c ((fun b : Int × List Int => (Sum.inr (b.1, b.2 ++ [x]) : Int ⊕ (Int × List Int))) (f, e)) = (fun b : Int × List Int => (Sum.inr (b.1, b.2 ++ [x]) : Int ⊕ (Int × List Int))) (f, c ++ e) := fun x f e => by
    show (Sum.inr (f, c ++ (e ++ [x])) : Int ⊕ (Int × List Int)) = Sum.inr (f, (c ++ e) ++ [x])
    rw [List.append_assoc]
  rw [pSum_sh, shL_bS]
  intro f2 d2
  show shL c (cif _ _ _) = cif _ _ _
  rw [shL_cif, shL_cif, shL_bS (ap 2001), shL_bS (ap 2002), ← pSum_sh]
  rfl
theorem pCd_sh (c : List Int) : ∀ (n k : Nat) (dp f : Int) (d : List Int) (j : Bool), pCd T E n k dp f (c ++ d) j = shL c (pCd T E n k dp f d j)
  | 0, _, _, _, _, _ => rfl
  | n + 1, 0, dp, f, d, j => by
    by_cases s0 : pSg T E 40 f
    · by_cases d6 : 6 ≤ dp
      · rw [pA_p6 s0 d6, pA_p6 s0 d6]; rfl
      · rw [pA_p s0 d6, pA_p s0 d6, pCd_sh c n, shL_bS]
        intro f2 d2
        show shL c (cif _ _ _) = cif _ _ _
        rw [shL_cif]
        rfl
    · by_cases w1 : pWd T E [110, 111, 116] f
      · by_cases d6 : 6 ≤ dp
        · rw [pA_n6 s0 w1 d6, pA_n6 s0 w1 d6]; rfl
        · rw [pA_n s0 w1 d6, pA_n s0 w1 d6, pCd_sh c n, shL_bS]
          intro f2 d2
          show (Sum.inr (f2, c ++ (d2 ++ [2003])) : Int ⊕ (Int × List Int)) = Sum.inr (f2, (c ++ d2) ++ [2003])
          rw [List.append_assoc]
      · by_cases w2 : pWd T E [112, 114, 111, 109, 105, 115, 101, 100] f
        · rw [pA_pr s0 w1 w2, pA_pr s0 w1 w2, List.append_assoc]; rfl
        · by_cases w3 : pWd T E [116, 104, 114, 101, 101] f
          · rw [pA_th s0 w1 w2 w3, pA_th s0 w1 w2 w3, List.append_assoc]; rfl
          · rw [pA_s s0 w1 w2 w3, pA_s s0 w1 w2 w3, pCmp_sh]
  | n + 1, 1, dp, f, d, j => by
    rw [pCd_1, pCd_1, pCd_sh c n, shL_bS]
    intro f2 d2
    show shL c (rE T E dp n f2 (d2 ++ cond j [2004] [])) = rE T E dp n f2 ((c ++ d2) ++ cond j [2004] [])
    unfold rE
    rw [shL_cif, ← pCd_sh c n, List.append_assoc]
    rfl
  | n + 1, k + 2, dp, f, d, j => by
    show bS (pCd T E n 1 dp f (c ++ d) false) _ = shL c (bS (pCd T E n 1 dp f d false) _)
    rw [pCd_sh c n, shL_bS]
    intro f2 d2
    show shL c (rO T E dp n f2 (d2 ++ cond j [2005] [])) = rO T E dp n f2 ((c ++ d2) ++ cond j [2005] [])
    unfold rO
    rw [shL_cif, ← pCd_sh c n, List.append_assoc]
    rfl
end SH
/-- what a line does to what is asked -/
noncomputable def fLn (kd am b : Int) (g : Nat → Nat → Int) : Nat → Nat → Int := if b = 0 then fu g 148 18 (if g 148 18 ≠ 0 ∨ kd = 2 then 1 else 0) else fu (fu (fu g 148 18 (if g 148 18 ≠ 0 ∨ kd = 2 then 1 else 0)) 148 19 (if g 148 19 ≠ 0 ∨ kd = 2 then 1 else 0)) 148 17 (fop 0 (g 148 17) (if kd = 0 then am else if kd = 1 then -am else 0))
theorem fLn_x {kd am b : Int} {g : Nat → Nat → Int} {c j : Nat} (h : ¬ (c = 148 ∧ (j = 18 ∨ j = 19 ∨ j = 17))) : fLn kd am b g c j = g c j := by
  unfold fLn
  split
  · rw [fu_ne (by omega)]
  · rw [fu_ne (by omega), fu_ne (by omega), fu_ne (by omega)]
theorem fLn_rX {kd am b : Int} {g0 g : Nat → Nat → Int} (h : rX g0 g) : rX (fLn kd am b g0) (fLn kd am b g) := fun c j a => by
  have e1 := h 148 18 (by decide)
  have e2 := h 148 19 (by decide)
  have e3 := h 148 17 (by decide)
  have e4 := h c j a
  unfold fLn
  rw [e1, e2, e3]
  split
  · simp only [fu_app, e4]
  · simp only [fu_app, e4]
theorem fLn_F {kd am b : Int} {g : Nat → Nat → Int} : fF (fLn kd am b g) = fF g := by
  funext k
  unfold fF
  rw [fLn_x (fun t => absurd t.1 (by decide)), fLn_x (by decide), fLn_x (by decide)]
section G5K
variable {W : ax_W} {r : Nat} {g g0 : Nat → Nat → Int} {Q : Nat → Nat → (Nat → Nat → Int) → Prop} {T : Int → Int} {E f : Int}
theorem rwS.ln {kd am b dp : Int} (h : rwS T E g0 g f dp) : rwS T E (fLn kd am b g0) (fLn kd am b g) f dp := by
  obtain ⟨⟨a1, a2, a3, a4, a5⟩, h1, h2, h3, h4, h5, h6⟩ := h
  have fl : ∀ k, flt (fLn kd am b g) k = flt g k := fun k => by
    unfold flt
    rw [fLn_x (by decide), fLn_x (fun t => absurd t.1 (by decide)), fLn_x (fun t => absurd t.1 (by decide))]
  refine ⟨⟨by rw [fLn_x (by decide)]; exact a1, a2, a3, by rw [fLn_x (by decide)]; exact a4, fun k k0 k1 => by rw [fl]; exact a5 k k0 k1⟩, by rw [fLn_x (by decide)]; exact h1, by rw [fLn_x (by decide)]; exact h2, by rw [fLn_x (by decide)]; exact h3, by rw [fLn_x (by decide)]; exact h4, by rw [fLn_x (by decide)]; exact h5, fLn_rX h6⟩
theorem sp_mll_3 {kd am b : Int} (hk : kd = 0 ∨ kd = 1 ∨ kd = 2) (ha : 0 ≤ am ∧ am ≤ 999) (hb : b = 0 ∨ b = 1) (kq : Q 0 0 (fLn kd am b g)) : fx W r 33 274 112 [1186, fI kd, fI am, fI b] [] g Q := by
  refine fx_rg (fun hg => ?_)
  have r1 := hg 148 18 (by decide) (by decide +kernel) (by decide +kernel)
  have r2 := hg 148 19 (by decide) (by decide +kernel) (by decide +kernel)
  unfold fR at r1 r2
  unfold fLn at kq
  refine fx_la 0 113 (v := 1186) (by decide +kernel) rfl (by decide +kernel) ?_
  refine fx_la 0 114 (v := 1186) (by decide +kernel) rfl (by decide +kernel) ?_
  refine fx_gi 1186 148 18 117 (by decide +kernel) ?_
  refine fx_zne 125 120 (by decide +kernel) (by first | exact hg 148 18 (by decide) (by decide +kernel) (by decide +kernel) | (unfold fR; omega)) (fun h117 => ?_) (fun h117 => ?_)
  · refine fx_ci (1) 126 (by decide +kernel) ?_
    refine fx_go 130 (by decide +kernel) ?_
    refine fx_pb 1186 148 18 133 (by decide +kernel) (by first | exact Or.inl rfl | exact Or.inr rfl | omega) ?_
    refine fx_li 3 134 (by decide +kernel) rfl ?_
    refine fx_zne 138 137 (by decide +kernel) (by unfold fR; omega) (fun h134 => ?_) (fun h134 => ?_)
    · refine fx_la 0 139 (v := 1186) (by decide +kernel) rfl (by decide +kernel) ?_
      refine fx_la 0 140 (v := 1186) (by decide +kernel) rfl (by decide +kernel) ?_
      refine fx_gi 1186 148 19 143 (by decide +kernel) ?_
      try simp only [fu_app, fcy_app, Nat.reduceEqDiff, and_true, and_false, false_and, true_and, if_true, if_false, ite_true, ite_false, reduceIte, Int.reduceToNat, fx_simp0]
      refine fx_zne 151 146 (by decide +kernel) (by unfold fR; omega) (fun h143 => ?_) (fun h143 => ?_)
      · refine fx_ci (1) 152 (by decide +kernel) ?_
        refine fx_go 156 (by decide +kernel) ?_
        refine fx_pb 1186 148 19 159 (by decide +kernel) (by first | exact Or.inl rfl | exact Or.inr rfl | omega) ?_
        refine fx_la 0 160 (v := 1186) (by decide +kernel) rfl (by decide +kernel) ?_
        refine fx_dup 161 (by decide +kernel) rfl (by decide) ?_
        refine fx_gi 1186 148 17 164 (by decide +kernel) ?_
        try simp only [fu_app, fcy_app, Nat.reduceEqDiff, and_true, and_false, false_and, true_and, if_true, if_false, ite_true, ite_false, reduceIte, Int.reduceToNat, fx_simp0]
        refine fx_li 1 165 (by decide +kernel) rfl ?_
        refine fx_zne 172 168 (by decide +kernel) (by unfold fR; omega) (fun h165 => ?_) (fun h165 => ?_)
        · refine fx_li 1 173 (by decide +kernel) rfl ?_
          refine fx_ci (1) 174 (by decide +kernel) ?_
          refine fx_ine 182 177 (by decide +kernel) (by unfold fR; omega) (by unfold fR; omega) (fun h174 => ?_) (fun h174 => ?_)
          · refine fx_ci (0) 183 (by decide +kernel) ?_
            refine fx_add 184 (by decide +kernel) rfl ?_
            rw [← fI_add]
            have rm := fop_R 0 (g 148 17) 0
            unfold fR at rm
            refine fx_pi 1186 148 17 187 (by decide +kernel) (by unfold fR; omega) ?_
            refine fx_vret (by decide +kernel) ?_
            first
              | (exfalso; omega)
              | (rw [if_neg (by omega)] at kq
                 first
                   | rw [if_pos (show g 148 18 ≠ 0 ∨ kd = 2 by omega)] at kq
                   | rw [if_neg (show ¬ (g 148 18 ≠ 0 ∨ kd = 2) by omega)] at kq
                 first
                   | rw [if_pos (show g 148 19 ≠ 0 ∨ kd = 2 by omega)] at kq
                   | rw [if_neg (show ¬ (g 148 19 ≠ 0 ∨ kd = 2) by omega)] at kq
                 first
                   | rw [if_pos (show kd = 0 by omega)] at kq
                   | rw [if_neg (show ¬ kd = 0 by omega), if_pos (show kd = 1 by omega)] at kq
                   | rw [if_neg (show ¬ kd = 0 by omega), if_neg (show ¬ kd = 1 by omega)] at kq
                 exact kq)
          · refine fx_li 2 178 (by decide +kernel) rfl ?_
            refine fx_ineg 179 (by decide +kernel) rfl ?_
            refine fx_go 183 (by decide +kernel) ?_
            refine fx_add 184 (by decide +kernel) rfl ?_
            rw [← fI_add]
            have rm := fop_R 0 (g 148 17) (-am)
            unfold fR at rm
            refine fx_pi 1186 148 17 187 (by decide +kernel) (by unfold fR; omega) ?_
            refine fx_vret (by decide +kernel) ?_
            first
              | (exfalso; omega)
              | (rw [if_neg (by omega)] at kq
                 first
                   | rw [if_pos (show g 148 18 ≠ 0 ∨ kd = 2 by omega)] at kq
                   | rw [if_neg (show ¬ (g 148 18 ≠ 0 ∨ kd = 2) by omega)] at kq
                 first
                   | rw [if_pos (show g 148 19 ≠ 0 ∨ kd = 2 by omega)] at kq
                   | rw [if_neg (show ¬ (g 148 19 ≠ 0 ∨ kd = 2) by omega)] at kq
                 first
                   | rw [if_pos (show kd = 0 by omega)] at kq
                   | rw [if_neg (show ¬ kd = 0 by omega), if_pos (show kd = 1 by omega)] at kq
                   | rw [if_neg (show ¬ kd = 0 by omega), if_neg (show ¬ kd = 1 by omega)] at kq
                 exact kq)
        · refine fx_li 2 169 (by decide +kernel) rfl ?_
          refine fx_go 183 (by decide +kernel) ?_
          refine fx_add 184 (by decide +kernel) rfl ?_
          rw [← fI_add]
          have rm := fop_R 0 (g 148 17) am
          unfold fR at rm
          refine fx_pi 1186 148 17 187 (by decide +kernel) (by unfold fR; omega) ?_
          refine fx_vret (by decide +kernel) ?_
          first
            | (exfalso; omega)
            | (rw [if_neg (by omega)] at kq
               first
                 | rw [if_pos (show g 148 18 ≠ 0 ∨ kd = 2 by omega)] at kq
                 | rw [if_neg (show ¬ (g 148 18 ≠ 0 ∨ kd = 2) by omega)] at kq
               first
                 | rw [if_pos (show g 148 19 ≠ 0 ∨ kd = 2 by omega)] at kq
                 | rw [if_neg (show ¬ (g 148 19 ≠ 0 ∨ kd = 2) by omega)] at kq
               first
                 | rw [if_pos (show kd = 0 by omega)] at kq
                 | rw [if_neg (show ¬ kd = 0 by omega), if_pos (show kd = 1 by omega)] at kq
                 | rw [if_neg (show ¬ kd = 0 by omega), if_neg (show ¬ kd = 1 by omega)] at kq
               exact kq)
      · refine fx_li 1 147 (by decide +kernel) rfl ?_
        refine fx_ci (2) 148 (by decide +kernel) ?_
        refine fx_ine 155 151 (by decide +kernel) (by unfold fR; omega) (by unfold fR; omega) (fun h148 => ?_) (fun h148 => ?_)
        · refine fx_ci (0) 156 (by decide +kernel) ?_
          refine fx_pb 1186 148 19 159 (by decide +kernel) (by first | exact Or.inl rfl | exact Or.inr rfl | omega) ?_
          refine fx_la 0 160 (v := 1186) (by decide +kernel) rfl (by decide +kernel) ?_
          refine fx_dup 161 (by decide +kernel) rfl (by decide) ?_
          refine fx_gi 1186 148 17 164 (by decide +kernel) ?_
          try simp only [fu_app, fcy_app, Nat.reduceEqDiff, and_true, and_false, false_and, true_and, if_true, if_false, ite_true, ite_false, reduceIte, Int.reduceToNat, fx_simp0]
          refine fx_li 1 165 (by decide +kernel) rfl ?_
          refine fx_zne 172 168 (by decide +kernel) (by unfold fR; omega) (fun h165 => ?_) (fun h165 => ?_)
          · refine fx_li 1 173 (by decide +kernel) rfl ?_
            refine fx_ci (1) 174 (by decide +kernel) ?_
            refine fx_ine 182 177 (by decide +kernel) (by unfold fR; omega) (by unfold fR; omega) (fun h174 => ?_) (fun h174 => ?_)
            · refine fx_ci (0) 183 (by decide +kernel) ?_
              refine fx_add 184 (by decide +kernel) rfl ?_
              rw [← fI_add]
              have rm := fop_R 0 (g 148 17) 0
              unfold fR at rm
              refine fx_pi 1186 148 17 187 (by decide +kernel) (by unfold fR; omega) ?_
              refine fx_vret (by decide +kernel) ?_
              first
                | (exfalso; omega)
                | (rw [if_neg (by omega)] at kq
                   first
                     | rw [if_pos (show g 148 18 ≠ 0 ∨ kd = 2 by omega)] at kq
                     | rw [if_neg (show ¬ (g 148 18 ≠ 0 ∨ kd = 2) by omega)] at kq
                   first
                     | rw [if_pos (show g 148 19 ≠ 0 ∨ kd = 2 by omega)] at kq
                     | rw [if_neg (show ¬ (g 148 19 ≠ 0 ∨ kd = 2) by omega)] at kq
                   first
                     | rw [if_pos (show kd = 0 by omega)] at kq
                     | rw [if_neg (show ¬ kd = 0 by omega), if_pos (show kd = 1 by omega)] at kq
                     | rw [if_neg (show ¬ kd = 0 by omega), if_neg (show ¬ kd = 1 by omega)] at kq
                   exact kq)
            · refine fx_li 2 178 (by decide +kernel) rfl ?_
              refine fx_ineg 179 (by decide +kernel) rfl ?_
              refine fx_go 183 (by decide +kernel) ?_
              refine fx_add 184 (by decide +kernel) rfl ?_
              rw [← fI_add]
              have rm := fop_R 0 (g 148 17) (-am)
              unfold fR at rm
              refine fx_pi 1186 148 17 187 (by decide +kernel) (by unfold fR; omega) ?_
              refine fx_vret (by decide +kernel) ?_
              first
                | (exfalso; omega)
                | (rw [if_neg (by omega)] at kq
                   first
                     | rw [if_pos (show g 148 18 ≠ 0 ∨ kd = 2 by omega)] at kq
                     | rw [if_neg (show ¬ (g 148 18 ≠ 0 ∨ kd = 2) by omega)] at kq
                   first
                     | rw [if_pos (show g 148 19 ≠ 0 ∨ kd = 2 by omega)] at kq
                     | rw [if_neg (show ¬ (g 148 19 ≠ 0 ∨ kd = 2) by omega)] at kq
                   first
                     | rw [if_pos (show kd = 0 by omega)] at kq
                     | rw [if_neg (show ¬ kd = 0 by omega), if_pos (show kd = 1 by omega)] at kq
                     | rw [if_neg (show ¬ kd = 0 by omega), if_neg (show ¬ kd = 1 by omega)] at kq
                   exact kq)
          · refine fx_li 2 169 (by decide +kernel) rfl ?_
            refine fx_go 183 (by decide +kernel) ?_
            refine fx_add 184 (by decide +kernel) rfl ?_
            rw [← fI_add]
            have rm := fop_R 0 (g 148 17) am
            unfold fR at rm
            refine fx_pi 1186 148 17 187 (by decide +kernel) (by unfold fR; omega) ?_
            refine fx_vret (by decide +kernel) ?_
            first
              | (exfalso; omega)
              | (rw [if_neg (by omega)] at kq
                 first
                   | rw [if_pos (show g 148 18 ≠ 0 ∨ kd = 2 by omega)] at kq
                   | rw [if_neg (show ¬ (g 148 18 ≠ 0 ∨ kd = 2) by omega)] at kq
                 first
                   | rw [if_pos (show g 148 19 ≠ 0 ∨ kd = 2 by omega)] at kq
                   | rw [if_neg (show ¬ (g 148 19 ≠ 0 ∨ kd = 2) by omega)] at kq
                 first
                   | rw [if_pos (show kd = 0 by omega)] at kq
                   | rw [if_neg (show ¬ kd = 0 by omega), if_pos (show kd = 1 by omega)] at kq
                   | rw [if_neg (show ¬ kd = 0 by omega), if_neg (show ¬ kd = 1 by omega)] at kq
                 exact kq)
        · refine fx_ci (1) 152 (by decide +kernel) ?_
          refine fx_go 156 (by decide +kernel) ?_
          refine fx_pb 1186 148 19 159 (by decide +kernel) (by first | exact Or.inl rfl | exact Or.inr rfl | omega) ?_
          refine fx_la 0 160 (v := 1186) (by decide +kernel) rfl (by decide +kernel) ?_
          refine fx_dup 161 (by decide +kernel) rfl (by decide) ?_
          refine fx_gi 1186 148 17 164 (by decide +kernel) ?_
          try simp only [fu_app, fcy_app, Nat.reduceEqDiff, and_true, and_false, false_and, true_and, if_true, if_false, ite_true, ite_false, reduceIte, Int.reduceToNat, fx_simp0]
          refine fx_li 1 165 (by decide +kernel) rfl ?_
          refine fx_zne 172 168 (by decide +kernel) (by unfold fR; omega) (fun h165 => ?_) (fun h165 => ?_)
          · refine fx_li 1 173 (by decide +kernel) rfl ?_
            refine fx_ci (1) 174 (by decide +kernel) ?_
            refine fx_ine 182 177 (by decide +kernel) (by unfold fR; omega) (by unfold fR; omega) (fun h174 => ?_) (fun h174 => ?_)
            · refine fx_ci (0) 183 (by decide +kernel) ?_
              refine fx_add 184 (by decide +kernel) rfl ?_
              rw [← fI_add]
              have rm := fop_R 0 (g 148 17) 0
              unfold fR at rm
              refine fx_pi 1186 148 17 187 (by decide +kernel) (by unfold fR; omega) ?_
              refine fx_vret (by decide +kernel) ?_
              first
                | (exfalso; omega)
                | (rw [if_neg (by omega)] at kq
                   first
                     | rw [if_pos (show g 148 18 ≠ 0 ∨ kd = 2 by omega)] at kq
                     | rw [if_neg (show ¬ (g 148 18 ≠ 0 ∨ kd = 2) by omega)] at kq
                   first
                     | rw [if_pos (show g 148 19 ≠ 0 ∨ kd = 2 by omega)] at kq
                     | rw [if_neg (show ¬ (g 148 19 ≠ 0 ∨ kd = 2) by omega)] at kq
                   first
                     | rw [if_pos (show kd = 0 by omega)] at kq
                     | rw [if_neg (show ¬ kd = 0 by omega), if_pos (show kd = 1 by omega)] at kq
                     | rw [if_neg (show ¬ kd = 0 by omega), if_neg (show ¬ kd = 1 by omega)] at kq
                   exact kq)
            · refine fx_li 2 178 (by decide +kernel) rfl ?_
              refine fx_ineg 179 (by decide +kernel) rfl ?_
              refine fx_go 183 (by decide +kernel) ?_
              refine fx_add 184 (by decide +kernel) rfl ?_
              rw [← fI_add]
              have rm := fop_R 0 (g 148 17) (-am)
              unfold fR at rm
              refine fx_pi 1186 148 17 187 (by decide +kernel) (by unfold fR; omega) ?_
              refine fx_vret (by decide +kernel) ?_
              first
                | (exfalso; omega)
                | (rw [if_neg (by omega)] at kq
                   first
                     | rw [if_pos (show g 148 18 ≠ 0 ∨ kd = 2 by omega)] at kq
                     | rw [if_neg (show ¬ (g 148 18 ≠ 0 ∨ kd = 2) by omega)] at kq
                   first
                     | rw [if_pos (show g 148 19 ≠ 0 ∨ kd = 2 by omega)] at kq
                     | rw [if_neg (show ¬ (g 148 19 ≠ 0 ∨ kd = 2) by omega)] at kq
                   first
                     | rw [if_pos (show kd = 0 by omega)] at kq
                     | rw [if_neg (show ¬ kd = 0 by omega), if_pos (show kd = 1 by omega)] at kq
                     | rw [if_neg (show ¬ kd = 0 by omega), if_neg (show ¬ kd = 1 by omega)] at kq
                   exact kq)
          · refine fx_li 2 169 (by decide +kernel) rfl ?_
            refine fx_go 183 (by decide +kernel) ?_
            refine fx_add 184 (by decide +kernel) rfl ?_
            rw [← fI_add]
            have rm := fop_R 0 (g 148 17) am
            unfold fR at rm
            refine fx_pi 1186 148 17 187 (by decide +kernel) (by unfold fR; omega) ?_
            refine fx_vret (by decide +kernel) ?_
            first
              | (exfalso; omega)
              | (rw [if_neg (by omega)] at kq
                 first
                   | rw [if_pos (show g 148 18 ≠ 0 ∨ kd = 2 by omega)] at kq
                   | rw [if_neg (show ¬ (g 148 18 ≠ 0 ∨ kd = 2) by omega)] at kq
                 first
                   | rw [if_pos (show g 148 19 ≠ 0 ∨ kd = 2 by omega)] at kq
                   | rw [if_neg (show ¬ (g 148 19 ≠ 0 ∨ kd = 2) by omega)] at kq
                 first
                   | rw [if_pos (show kd = 0 by omega)] at kq
                   | rw [if_neg (show ¬ kd = 0 by omega), if_pos (show kd = 1 by omega)] at kq
                   | rw [if_neg (show ¬ kd = 0 by omega), if_neg (show ¬ kd = 1 by omega)] at kq
                 exact kq)
    · refine fx_vret (by decide +kernel) ?_
      rw [if_pos (by omega), if_pos (Or.inl (by omega))] at kq; exact kq
  · refine fx_li 1 121 (by decide +kernel) rfl ?_
    refine fx_ci (2) 122 (by decide +kernel) ?_
    refine fx_ine 129 125 (by decide +kernel) (by unfold fR; omega) (by unfold fR; omega) (fun h122 => ?_) (fun h122 => ?_)
    · refine fx_ci (0) 130 (by decide +kernel) ?_
      refine fx_pb 1186 148 18 133 (by decide +kernel) (by first | exact Or.inl rfl | exact Or.inr rfl | omega) ?_
      refine fx_li 3 134 (by decide +kernel) rfl ?_
      refine fx_zne 138 137 (by decide +kernel) (by unfold fR; omega) (fun h134 => ?_) (fun h134 => ?_)
      · refine fx_la 0 139 (v := 1186) (by decide +kernel) rfl (by decide +kernel) ?_
        refine fx_la 0 140 (v := 1186) (by decide +kernel) rfl (by decide +kernel) ?_
        refine fx_gi 1186 148 19 143 (by decide +kernel) ?_
        try simp only [fu_app, fcy_app, Nat.reduceEqDiff, and_true, and_false, false_and, true_and, if_true, if_false, ite_true, ite_false, reduceIte, Int.reduceToNat, fx_simp0]
        refine fx_zne 151 146 (by decide +kernel) (by unfold fR; omega) (fun h143 => ?_) (fun h143 => ?_)
        · refine fx_ci (1) 152 (by decide +kernel) ?_
          refine fx_go 156 (by decide +kernel) ?_
          refine fx_pb 1186 148 19 159 (by decide +kernel) (by first | exact Or.inl rfl | exact Or.inr rfl | omega) ?_
          refine fx_la 0 160 (v := 1186) (by decide +kernel) rfl (by decide +kernel) ?_
          refine fx_dup 161 (by decide +kernel) rfl (by decide) ?_
          refine fx_gi 1186 148 17 164 (by decide +kernel) ?_
          try simp only [fu_app, fcy_app, Nat.reduceEqDiff, and_true, and_false, false_and, true_and, if_true, if_false, ite_true, ite_false, reduceIte, Int.reduceToNat, fx_simp0]
          refine fx_li 1 165 (by decide +kernel) rfl ?_
          refine fx_zne 172 168 (by decide +kernel) (by unfold fR; omega) (fun h165 => ?_) (fun h165 => ?_)
          · refine fx_li 1 173 (by decide +kernel) rfl ?_
            refine fx_ci (1) 174 (by decide +kernel) ?_
            refine fx_ine 182 177 (by decide +kernel) (by unfold fR; omega) (by unfold fR; omega) (fun h174 => ?_) (fun h174 => ?_)
            · refine fx_ci (0) 183 (by decide +kernel) ?_
              refine fx_add 184 (by decide +kernel) rfl ?_
              rw [← fI_add]
              have rm := fop_R 0 (g 148 17) 0
              unfold fR at rm
              refine fx_pi 1186 148 17 187 (by decide +kernel) (by unfold fR; omega) ?_
              refine fx_vret (by decide +kernel) ?_
              first
                | (exfalso; omega)
                | (rw [if_neg (by omega)] at kq
                   first
                     | rw [if_pos (show g 148 18 ≠ 0 ∨ kd = 2 by omega)] at kq
                     | rw [if_neg (show ¬ (g 148 18 ≠ 0 ∨ kd = 2) by omega)] at kq
                   first
                     | rw [if_pos (show g 148 19 ≠ 0 ∨ kd = 2 by omega)] at kq
                     | rw [if_neg (show ¬ (g 148 19 ≠ 0 ∨ kd = 2) by omega)] at kq
                   first
                     | rw [if_pos (show kd = 0 by omega)] at kq
                     | rw [if_neg (show ¬ kd = 0 by omega), if_pos (show kd = 1 by omega)] at kq
                     | rw [if_neg (show ¬ kd = 0 by omega), if_neg (show ¬ kd = 1 by omega)] at kq
                   exact kq)
            · refine fx_li 2 178 (by decide +kernel) rfl ?_
              refine fx_ineg 179 (by decide +kernel) rfl ?_
              refine fx_go 183 (by decide +kernel) ?_
              refine fx_add 184 (by decide +kernel) rfl ?_
              rw [← fI_add]
              have rm := fop_R 0 (g 148 17) (-am)
              unfold fR at rm
              refine fx_pi 1186 148 17 187 (by decide +kernel) (by unfold fR; omega) ?_
              refine fx_vret (by decide +kernel) ?_
              first
                | (exfalso; omega)
                | (rw [if_neg (by omega)] at kq
                   first
                     | rw [if_pos (show g 148 18 ≠ 0 ∨ kd = 2 by omega)] at kq
                     | rw [if_neg (show ¬ (g 148 18 ≠ 0 ∨ kd = 2) by omega)] at kq
                   first
                     | rw [if_pos (show g 148 19 ≠ 0 ∨ kd = 2 by omega)] at kq
                     | rw [if_neg (show ¬ (g 148 19 ≠ 0 ∨ kd = 2) by omega)] at kq
                   first
                     | rw [if_pos (show kd = 0 by omega)] at kq
                     | rw [if_neg (show ¬ kd = 0 by omega), if_pos (show kd = 1 by omega)] at kq
                     | rw [if_neg (show ¬ kd = 0 by omega), if_neg (show ¬ kd = 1 by omega)] at kq
                   exact kq)
          · refine fx_li 2 169 (by decide +kernel) rfl ?_
            refine fx_go 183 (by decide +kernel) ?_
            refine fx_add 184 (by decide +kernel) rfl ?_
            rw [← fI_add]
            have rm := fop_R 0 (g 148 17) am
            unfold fR at rm
            refine fx_pi 1186 148 17 187 (by decide +kernel) (by unfold fR; omega) ?_
            refine fx_vret (by decide +kernel) ?_
            first
              | (exfalso; omega)
              | (rw [if_neg (by omega)] at kq
                 first
                   | rw [if_pos (show g 148 18 ≠ 0 ∨ kd = 2 by omega)] at kq
                   | rw [if_neg (show ¬ (g 148 18 ≠ 0 ∨ kd = 2) by omega)] at kq
                 first
                   | rw [if_pos (show g 148 19 ≠ 0 ∨ kd = 2 by omega)] at kq
                   | rw [if_neg (show ¬ (g 148 19 ≠ 0 ∨ kd = 2) by omega)] at kq
                 first
                   | rw [if_pos (show kd = 0 by omega)] at kq
                   | rw [if_neg (show ¬ kd = 0 by omega), if_pos (show kd = 1 by omega)] at kq
                   | rw [if_neg (show ¬ kd = 0 by omega), if_neg (show ¬ kd = 1 by omega)] at kq
                 exact kq)
        · refine fx_li 1 147 (by decide +kernel) rfl ?_
          refine fx_ci (2) 148 (by decide +kernel) ?_
          refine fx_ine 155 151 (by decide +kernel) (by unfold fR; omega) (by unfold fR; omega) (fun h148 => ?_) (fun h148 => ?_)
          · refine fx_ci (0) 156 (by decide +kernel) ?_
            refine fx_pb 1186 148 19 159 (by decide +kernel) (by first | exact Or.inl rfl | exact Or.inr rfl | omega) ?_
            refine fx_la 0 160 (v := 1186) (by decide +kernel) rfl (by decide +kernel) ?_
            refine fx_dup 161 (by decide +kernel) rfl (by decide) ?_
            refine fx_gi 1186 148 17 164 (by decide +kernel) ?_
            try simp only [fu_app, fcy_app, Nat.reduceEqDiff, and_true, and_false, false_and, true_and, if_true, if_false, ite_true, ite_false, reduceIte, Int.reduceToNat, fx_simp0]
            refine fx_li 1 165 (by decide +kernel) rfl ?_
            refine fx_zne 172 168 (by decide +kernel) (by unfold fR; omega) (fun h165 => ?_) (fun h165 => ?_)
            · refine fx_li 1 173 (by decide +kernel) rfl ?_
              refine fx_ci (1) 174 (by decide +kernel) ?_
              refine fx_ine 182 177 (by decide +kernel) (by unfold fR; omega) (by unfold fR; omega) (fun h174 => ?_) (fun h174 => ?_)
              · refine fx_ci (0) 183 (by decide +kernel) ?_
                refine fx_add 184 (by decide +kernel) rfl ?_
                rw [← fI_add]
                have rm := fop_R 0 (g 148 17) 0
                unfold fR at rm
                refine fx_pi 1186 148 17 187 (by decide +kernel) (by unfold fR; omega) ?_
                refine fx_vret (by decide +kernel) ?_
                first
                  | (exfalso; omega)
                  | (rw [if_neg (by omega)] at kq
                     first
                       | rw [if_pos (show g 148 18 ≠ 0 ∨ kd = 2 by omega)] at kq
                       | rw [if_neg (show ¬ (g 148 18 ≠ 0 ∨ kd = 2) by omega)] at kq
                     first
                       | rw [if_pos (show g 148 19 ≠ 0 ∨ kd = 2 by omega)] at kq
                       | rw [if_neg (show ¬ (g 148 19 ≠ 0 ∨ kd = 2) by omega)] at kq
                     first
                       | rw [if_pos (show kd = 0 by omega)] at kq
                       | rw [if_neg (show ¬ kd = 0 by omega), if_pos (show kd = 1 by omega)] at kq
                       | rw [if_neg (show ¬ kd = 0 by omega), if_neg (show ¬ kd = 1 by omega)] at kq
                     exact kq)
              · refine fx_li 2 178 (by decide +kernel) rfl ?_
                refine fx_ineg 179 (by decide +kernel) rfl ?_
                refine fx_go 183 (by decide +kernel) ?_
                refine fx_add 184 (by decide +kernel) rfl ?_
                rw [← fI_add]
                have rm := fop_R 0 (g 148 17) (-am)
                unfold fR at rm
                refine fx_pi 1186 148 17 187 (by decide +kernel) (by unfold fR; omega) ?_
                refine fx_vret (by decide +kernel) ?_
                first
                  | (exfalso; omega)
                  | (rw [if_neg (by omega)] at kq
                     first
                       | rw [if_pos (show g 148 18 ≠ 0 ∨ kd = 2 by omega)] at kq
                       | rw [if_neg (show ¬ (g 148 18 ≠ 0 ∨ kd = 2) by omega)] at kq
                     first
                       | rw [if_pos (show g 148 19 ≠ 0 ∨ kd = 2 by omega)] at kq
                       | rw [if_neg (show ¬ (g 148 19 ≠ 0 ∨ kd = 2) by omega)] at kq
                     first
                       | rw [if_pos (show kd = 0 by omega)] at kq
                       | rw [if_neg (show ¬ kd = 0 by omega), if_pos (show kd = 1 by omega)] at kq
                       | rw [if_neg (show ¬ kd = 0 by omega), if_neg (show ¬ kd = 1 by omega)] at kq
                     exact kq)
            · refine fx_li 2 169 (by decide +kernel) rfl ?_
              refine fx_go 183 (by decide +kernel) ?_
              refine fx_add 184 (by decide +kernel) rfl ?_
              rw [← fI_add]
              have rm := fop_R 0 (g 148 17) am
              unfold fR at rm
              refine fx_pi 1186 148 17 187 (by decide +kernel) (by unfold fR; omega) ?_
              refine fx_vret (by decide +kernel) ?_
              first
                | (exfalso; omega)
                | (rw [if_neg (by omega)] at kq
                   first
                     | rw [if_pos (show g 148 18 ≠ 0 ∨ kd = 2 by omega)] at kq
                     | rw [if_neg (show ¬ (g 148 18 ≠ 0 ∨ kd = 2) by omega)] at kq
                   first
                     | rw [if_pos (show g 148 19 ≠ 0 ∨ kd = 2 by omega)] at kq
                     | rw [if_neg (show ¬ (g 148 19 ≠ 0 ∨ kd = 2) by omega)] at kq
                   first
                     | rw [if_pos (show kd = 0 by omega)] at kq
                     | rw [if_neg (show ¬ kd = 0 by omega), if_pos (show kd = 1 by omega)] at kq
                     | rw [if_neg (show ¬ kd = 0 by omega), if_neg (show ¬ kd = 1 by omega)] at kq
                   exact kq)
          · refine fx_ci (1) 152 (by decide +kernel) ?_
            refine fx_go 156 (by decide +kernel) ?_
            refine fx_pb 1186 148 19 159 (by decide +kernel) (by first | exact Or.inl rfl | exact Or.inr rfl | omega) ?_
            refine fx_la 0 160 (v := 1186) (by decide +kernel) rfl (by decide +kernel) ?_
            refine fx_dup 161 (by decide +kernel) rfl (by decide) ?_
            refine fx_gi 1186 148 17 164 (by decide +kernel) ?_
            try simp only [fu_app, fcy_app, Nat.reduceEqDiff, and_true, and_false, false_and, true_and, if_true, if_false, ite_true, ite_false, reduceIte, Int.reduceToNat, fx_simp0]
            refine fx_li 1 165 (by decide +kernel) rfl ?_
            refine fx_zne 172 168 (by decide +kernel) (by unfold fR; omega) (fun h165 => ?_) (fun h165 => ?_)
            · refine fx_li 1 173 (by decide +kernel) rfl ?_
              refine fx_ci (1) 174 (by decide +kernel) ?_
              refine fx_ine 182 177 (by decide +kernel) (by unfold fR; omega) (by unfold fR; omega) (fun h174 => ?_) (fun h174 => ?_)
              · refine fx_ci (0) 183 (by decide +kernel) ?_
                refine fx_add 184 (by decide +kernel) rfl ?_
                rw [← fI_add]
                have rm := fop_R 0 (g 148 17) 0
                unfold fR at rm
                refine fx_pi 1186 148 17 187 (by decide +kernel) (by unfold fR; omega) ?_
                refine fx_vret (by decide +kernel) ?_
                first
                  | (exfalso; omega)
                  | (rw [if_neg (by omega)] at kq
                     first
                       | rw [if_pos (show g 148 18 ≠ 0 ∨ kd = 2 by omega)] at kq
                       | rw [if_neg (show ¬ (g 148 18 ≠ 0 ∨ kd = 2) by omega)] at kq
                     first
                       | rw [if_pos (show g 148 19 ≠ 0 ∨ kd = 2 by omega)] at kq
                       | rw [if_neg (show ¬ (g 148 19 ≠ 0 ∨ kd = 2) by omega)] at kq
                     first
                       | rw [if_pos (show kd = 0 by omega)] at kq
                       | rw [if_neg (show ¬ kd = 0 by omega), if_pos (show kd = 1 by omega)] at kq
                       | rw [if_neg (show ¬ kd = 0 by omega), if_neg (show ¬ kd = 1 by omega)] at kq
                     exact kq)
              · refine fx_li 2 178 (by decide +kernel) rfl ?_
                refine fx_ineg 179 (by decide +kernel) rfl ?_
                refine fx_go 183 (by decide +kernel) ?_
                refine fx_add 184 (by decide +kernel) rfl ?_
                rw [← fI_add]
                have rm := fop_R 0 (g 148 17) (-am)
                unfold fR at rm
                refine fx_pi 1186 148 17 187 (by decide +kernel) (by unfold fR; omega) ?_
                refine fx_vret (by decide +kernel) ?_
                first
                  | (exfalso; omega)
                  | (rw [if_neg (by omega)] at kq
                     first
                       | rw [if_pos (show g 148 18 ≠ 0 ∨ kd = 2 by omega)] at kq
                       | rw [if_neg (show ¬ (g 148 18 ≠ 0 ∨ kd = 2) by omega)] at kq
                     first
                       | rw [if_pos (show g 148 19 ≠ 0 ∨ kd = 2 by omega)] at kq
                       | rw [if_neg (show ¬ (g 148 19 ≠ 0 ∨ kd = 2) by omega)] at kq
                     first
                       | rw [if_pos (show kd = 0 by omega)] at kq
                       | rw [if_neg (show ¬ kd = 0 by omega), if_pos (show kd = 1 by omega)] at kq
                       | rw [if_neg (show ¬ kd = 0 by omega), if_neg (show ¬ kd = 1 by omega)] at kq
                     exact kq)
            · refine fx_li 2 169 (by decide +kernel) rfl ?_
              refine fx_go 183 (by decide +kernel) ?_
              refine fx_add 184 (by decide +kernel) rfl ?_
              rw [← fI_add]
              have rm := fop_R 0 (g 148 17) am
              unfold fR at rm
              refine fx_pi 1186 148 17 187 (by decide +kernel) (by unfold fR; omega) ?_
              refine fx_vret (by decide +kernel) ?_
              first
                | (exfalso; omega)
                | (rw [if_neg (by omega)] at kq
                   first
                     | rw [if_pos (show g 148 18 ≠ 0 ∨ kd = 2 by omega)] at kq
                     | rw [if_neg (show ¬ (g 148 18 ≠ 0 ∨ kd = 2) by omega)] at kq
                   first
                     | rw [if_pos (show g 148 19 ≠ 0 ∨ kd = 2 by omega)] at kq
                     | rw [if_neg (show ¬ (g 148 19 ≠ 0 ∨ kd = 2) by omega)] at kq
                   first
                     | rw [if_pos (show kd = 0 by omega)] at kq
                     | rw [if_neg (show ¬ kd = 0 by omega), if_pos (show kd = 1 by omega)] at kq
                     | rw [if_neg (show ¬ kd = 0 by omega), if_neg (show ¬ kd = 1 by omega)] at kq
                   exact kq)
      · refine fx_vret (by decide +kernel) ?_
        rw [if_pos (by omega), if_neg (by omega)] at kq; exact kq
    · refine fx_ci (1) 126 (by decide +kernel) ?_
      refine fx_go 130 (by decide +kernel) ?_
      refine fx_pb 1186 148 18 133 (by decide +kernel) (by first | exact Or.inl rfl | exact Or.inr rfl | omega) ?_
      refine fx_li 3 134 (by decide +kernel) rfl ?_
      refine fx_zne 138 137 (by decide +kernel) (by unfold fR; omega) (fun h134 => ?_) (fun h134 => ?_)
      · refine fx_la 0 139 (v := 1186) (by decide +kernel) rfl (by decide +kernel) ?_
        refine fx_la 0 140 (v := 1186) (by decide +kernel) rfl (by decide +kernel) ?_
        refine fx_gi 1186 148 19 143 (by decide +kernel) ?_
        try simp only [fu_app, fcy_app, Nat.reduceEqDiff, and_true, and_false, false_and, true_and, if_true, if_false, ite_true, ite_false, reduceIte, Int.reduceToNat, fx_simp0]
        refine fx_zne 151 146 (by decide +kernel) (by unfold fR; omega) (fun h143 => ?_) (fun h143 => ?_)
        · refine fx_ci (1) 152 (by decide +kernel) ?_
          refine fx_go 156 (by decide +kernel) ?_
          refine fx_pb 1186 148 19 159 (by decide +kernel) (by first | exact Or.inl rfl | exact Or.inr rfl | omega) ?_
          refine fx_la 0 160 (v := 1186) (by decide +kernel) rfl (by decide +kernel) ?_
          refine fx_dup 161 (by decide +kernel) rfl (by decide) ?_
          refine fx_gi 1186 148 17 164 (by decide +kernel) ?_
          try simp only [fu_app, fcy_app, Nat.reduceEqDiff, and_true, and_false, false_and, true_and, if_true, if_false, ite_true, ite_false, reduceIte, Int.reduceToNat, fx_simp0]
          refine fx_li 1 165 (by decide +kernel) rfl ?_
          refine fx_zne 172 168 (by decide +kernel) (by unfold fR; omega) (fun h165 => ?_) (fun h165 => ?_)
          · refine fx_li 1 173 (by decide +kernel) rfl ?_
            refine fx_ci (1) 174 (by decide +kernel) ?_
            refine fx_ine 182 177 (by decide +kernel) (by unfold fR; omega) (by unfold fR; omega) (fun h174 => ?_) (fun h174 => ?_)
            · refine fx_ci (0) 183 (by decide +kernel) ?_
              refine fx_add 184 (by decide +kernel) rfl ?_
              rw [← fI_add]
              have rm := fop_R 0 (g 148 17) 0
              unfold fR at rm
              refine fx_pi 1186 148 17 187 (by decide +kernel) (by unfold fR; omega) ?_
              refine fx_vret (by decide +kernel) ?_
              first
                | (exfalso; omega)
                | (rw [if_neg (by omega)] at kq
                   first
                     | rw [if_pos (show g 148 18 ≠ 0 ∨ kd = 2 by omega)] at kq
                     | rw [if_neg (show ¬ (g 148 18 ≠ 0 ∨ kd = 2) by omega)] at kq
                   first
                     | rw [if_pos (show g 148 19 ≠ 0 ∨ kd = 2 by omega)] at kq
                     | rw [if_neg (show ¬ (g 148 19 ≠ 0 ∨ kd = 2) by omega)] at kq
                   first
                     | rw [if_pos (show kd = 0 by omega)] at kq
                     | rw [if_neg (show ¬ kd = 0 by omega), if_pos (show kd = 1 by omega)] at kq
                     | rw [if_neg (show ¬ kd = 0 by omega), if_neg (show ¬ kd = 1 by omega)] at kq
                   exact kq)
            · refine fx_li 2 178 (by decide +kernel) rfl ?_
              refine fx_ineg 179 (by decide +kernel) rfl ?_
              refine fx_go 183 (by decide +kernel) ?_
              refine fx_add 184 (by decide +kernel) rfl ?_
              rw [← fI_add]
              have rm := fop_R 0 (g 148 17) (-am)
              unfold fR at rm
              refine fx_pi 1186 148 17 187 (by decide +kernel) (by unfold fR; omega) ?_
              refine fx_vret (by decide +kernel) ?_
              first
                | (exfalso; omega)
                | (rw [if_neg (by omega)] at kq
                   first
                     | rw [if_pos (show g 148 18 ≠ 0 ∨ kd = 2 by omega)] at kq
                     | rw [if_neg (show ¬ (g 148 18 ≠ 0 ∨ kd = 2) by omega)] at kq
                   first
                     | rw [if_pos (show g 148 19 ≠ 0 ∨ kd = 2 by omega)] at kq
                     | rw [if_neg (show ¬ (g 148 19 ≠ 0 ∨ kd = 2) by omega)] at kq
                   first
                     | rw [if_pos (show kd = 0 by omega)] at kq
                     | rw [if_neg (show ¬ kd = 0 by omega), if_pos (show kd = 1 by omega)] at kq
                     | rw [if_neg (show ¬ kd = 0 by omega), if_neg (show ¬ kd = 1 by omega)] at kq
                   exact kq)
          · refine fx_li 2 169 (by decide +kernel) rfl ?_
            refine fx_go 183 (by decide +kernel) ?_
            refine fx_add 184 (by decide +kernel) rfl ?_
            rw [← fI_add]
            have rm := fop_R 0 (g 148 17) am
            unfold fR at rm
            refine fx_pi 1186 148 17 187 (by decide +kernel) (by unfold fR; omega) ?_
            refine fx_vret (by decide +kernel) ?_
            first
              | (exfalso; omega)
              | (rw [if_neg (by omega)] at kq
                 first
                   | rw [if_pos (show g 148 18 ≠ 0 ∨ kd = 2 by omega)] at kq
                   | rw [if_neg (show ¬ (g 148 18 ≠ 0 ∨ kd = 2) by omega)] at kq
                 first
                   | rw [if_pos (show g 148 19 ≠ 0 ∨ kd = 2 by omega)] at kq
                   | rw [if_neg (show ¬ (g 148 19 ≠ 0 ∨ kd = 2) by omega)] at kq
                 first
                   | rw [if_pos (show kd = 0 by omega)] at kq
                   | rw [if_neg (show ¬ kd = 0 by omega), if_pos (show kd = 1 by omega)] at kq
                   | rw [if_neg (show ¬ kd = 0 by omega), if_neg (show ¬ kd = 1 by omega)] at kq
                 exact kq)
        · refine fx_li 1 147 (by decide +kernel) rfl ?_
          refine fx_ci (2) 148 (by decide +kernel) ?_
          refine fx_ine 155 151 (by decide +kernel) (by unfold fR; omega) (by unfold fR; omega) (fun h148 => ?_) (fun h148 => ?_)
          · refine fx_ci (0) 156 (by decide +kernel) ?_
            refine fx_pb 1186 148 19 159 (by decide +kernel) (by first | exact Or.inl rfl | exact Or.inr rfl | omega) ?_
            refine fx_la 0 160 (v := 1186) (by decide +kernel) rfl (by decide +kernel) ?_
            refine fx_dup 161 (by decide +kernel) rfl (by decide) ?_
            refine fx_gi 1186 148 17 164 (by decide +kernel) ?_
            try simp only [fu_app, fcy_app, Nat.reduceEqDiff, and_true, and_false, false_and, true_and, if_true, if_false, ite_true, ite_false, reduceIte, Int.reduceToNat, fx_simp0]
            refine fx_li 1 165 (by decide +kernel) rfl ?_
            refine fx_zne 172 168 (by decide +kernel) (by unfold fR; omega) (fun h165 => ?_) (fun h165 => ?_)
            · refine fx_li 1 173 (by decide +kernel) rfl ?_
              refine fx_ci (1) 174 (by decide +kernel) ?_
              refine fx_ine 182 177 (by decide +kernel) (by unfold fR; omega) (by unfold fR; omega) (fun h174 => ?_) (fun h174 => ?_)
              · refine fx_ci (0) 183 (by decide +kernel) ?_
                refine fx_add 184 (by decide +kernel) rfl ?_
                rw [← fI_add]
                have rm := fop_R 0 (g 148 17) 0
                unfold fR at rm
                refine fx_pi 1186 148 17 187 (by decide +kernel) (by unfold fR; omega) ?_
                refine fx_vret (by decide +kernel) ?_
                first
                  | (exfalso; omega)
                  | (rw [if_neg (by omega)] at kq
                     first
                       | rw [if_pos (show g 148 18 ≠ 0 ∨ kd = 2 by omega)] at kq
                       | rw [if_neg (show ¬ (g 148 18 ≠ 0 ∨ kd = 2) by omega)] at kq
                     first
                       | rw [if_pos (show g 148 19 ≠ 0 ∨ kd = 2 by omega)] at kq
                       | rw [if_neg (show ¬ (g 148 19 ≠ 0 ∨ kd = 2) by omega)] at kq
                     first
                       | rw [if_pos (show kd = 0 by omega)] at kq
                       | rw [if_neg (show ¬ kd = 0 by omega), if_pos (show kd = 1 by omega)] at kq
                       | rw [if_neg (show ¬ kd = 0 by omega), if_neg (show ¬ kd = 1 by omega)] at kq
                     exact kq)
              · refine fx_li 2 178 (by decide +kernel) rfl ?_
                refine fx_ineg 179 (by decide +kernel) rfl ?_
                refine fx_go 183 (by decide +kernel) ?_
                refine fx_add 184 (by decide +kernel) rfl ?_
                rw [← fI_add]
                have rm := fop_R 0 (g 148 17) (-am)
                unfold fR at rm
                refine fx_pi 1186 148 17 187 (by decide +kernel) (by unfold fR; omega) ?_
                refine fx_vret (by decide +kernel) ?_
                first
                  | (exfalso; omega)
                  | (rw [if_neg (by omega)] at kq
                     first
                       | rw [if_pos (show g 148 18 ≠ 0 ∨ kd = 2 by omega)] at kq
                       | rw [if_neg (show ¬ (g 148 18 ≠ 0 ∨ kd = 2) by omega)] at kq
                     first
                       | rw [if_pos (show g 148 19 ≠ 0 ∨ kd = 2 by omega)] at kq
                       | rw [if_neg (show ¬ (g 148 19 ≠ 0 ∨ kd = 2) by omega)] at kq
                     first
                       | rw [if_pos (show kd = 0 by omega)] at kq
                       | rw [if_neg (show ¬ kd = 0 by omega), if_pos (show kd = 1 by omega)] at kq
                       | rw [if_neg (show ¬ kd = 0 by omega), if_neg (show ¬ kd = 1 by omega)] at kq
                     exact kq)
            · refine fx_li 2 169 (by decide +kernel) rfl ?_
              refine fx_go 183 (by decide +kernel) ?_
              refine fx_add 184 (by decide +kernel) rfl ?_
              rw [← fI_add]
              have rm := fop_R 0 (g 148 17) am
              unfold fR at rm
              refine fx_pi 1186 148 17 187 (by decide +kernel) (by unfold fR; omega) ?_
              refine fx_vret (by decide +kernel) ?_
              first
                | (exfalso; omega)
                | (rw [if_neg (by omega)] at kq
                   first
                     | rw [if_pos (show g 148 18 ≠ 0 ∨ kd = 2 by omega)] at kq
                     | rw [if_neg (show ¬ (g 148 18 ≠ 0 ∨ kd = 2) by omega)] at kq
                   first
                     | rw [if_pos (show g 148 19 ≠ 0 ∨ kd = 2 by omega)] at kq
                     | rw [if_neg (show ¬ (g 148 19 ≠ 0 ∨ kd = 2) by omega)] at kq
                   first
                     | rw [if_pos (show kd = 0 by omega)] at kq
                     | rw [if_neg (show ¬ kd = 0 by omega), if_pos (show kd = 1 by omega)] at kq
                     | rw [if_neg (show ¬ kd = 0 by omega), if_neg (show ¬ kd = 1 by omega)] at kq
                   exact kq)
          · refine fx_ci (1) 152 (by decide +kernel) ?_
            refine fx_go 156 (by decide +kernel) ?_
            refine fx_pb 1186 148 19 159 (by decide +kernel) (by first | exact Or.inl rfl | exact Or.inr rfl | omega) ?_
            refine fx_la 0 160 (v := 1186) (by decide +kernel) rfl (by decide +kernel) ?_
            refine fx_dup 161 (by decide +kernel) rfl (by decide) ?_
            refine fx_gi 1186 148 17 164 (by decide +kernel) ?_
            try simp only [fu_app, fcy_app, Nat.reduceEqDiff, and_true, and_false, false_and, true_and, if_true, if_false, ite_true, ite_false, reduceIte, Int.reduceToNat, fx_simp0]
            refine fx_li 1 165 (by decide +kernel) rfl ?_
            refine fx_zne 172 168 (by decide +kernel) (by unfold fR; omega) (fun h165 => ?_) (fun h165 => ?_)
            · refine fx_li 1 173 (by decide +kernel) rfl ?_
              refine fx_ci (1) 174 (by decide +kernel) ?_
              refine fx_ine 182 177 (by decide +kernel) (by unfold fR; omega) (by unfold fR; omega) (fun h174 => ?_) (fun h174 => ?_)
              · refine fx_ci (0) 183 (by decide +kernel) ?_
                refine fx_add 184 (by decide +kernel) rfl ?_
                rw [← fI_add]
                have rm := fop_R 0 (g 148 17) 0
                unfold fR at rm
                refine fx_pi 1186 148 17 187 (by decide +kernel) (by unfold fR; omega) ?_
                refine fx_vret (by decide +kernel) ?_
                first
                  | (exfalso; omega)
                  | (rw [if_neg (by omega)] at kq
                     first
                       | rw [if_pos (show g 148 18 ≠ 0 ∨ kd = 2 by omega)] at kq
                       | rw [if_neg (show ¬ (g 148 18 ≠ 0 ∨ kd = 2) by omega)] at kq
                     first
                       | rw [if_pos (show g 148 19 ≠ 0 ∨ kd = 2 by omega)] at kq
                       | rw [if_neg (show ¬ (g 148 19 ≠ 0 ∨ kd = 2) by omega)] at kq
                     first
                       | rw [if_pos (show kd = 0 by omega)] at kq
                       | rw [if_neg (show ¬ kd = 0 by omega), if_pos (show kd = 1 by omega)] at kq
                       | rw [if_neg (show ¬ kd = 0 by omega), if_neg (show ¬ kd = 1 by omega)] at kq
                     exact kq)
              · refine fx_li 2 178 (by decide +kernel) rfl ?_
                refine fx_ineg 179 (by decide +kernel) rfl ?_
                refine fx_go 183 (by decide +kernel) ?_
                refine fx_add 184 (by decide +kernel) rfl ?_
                rw [← fI_add]
                have rm := fop_R 0 (g 148 17) (-am)
                unfold fR at rm
                refine fx_pi 1186 148 17 187 (by decide +kernel) (by unfold fR; omega) ?_
                refine fx_vret (by decide +kernel) ?_
                first
                  | (exfalso; omega)
                  | (rw [if_neg (by omega)] at kq
                     first
                       | rw [if_pos (show g 148 18 ≠ 0 ∨ kd = 2 by omega)] at kq
                       | rw [if_neg (show ¬ (g 148 18 ≠ 0 ∨ kd = 2) by omega)] at kq
                     first
                       | rw [if_pos (show g 148 19 ≠ 0 ∨ kd = 2 by omega)] at kq
                       | rw [if_neg (show ¬ (g 148 19 ≠ 0 ∨ kd = 2) by omega)] at kq
                     first
                       | rw [if_pos (show kd = 0 by omega)] at kq
                       | rw [if_neg (show ¬ kd = 0 by omega), if_pos (show kd = 1 by omega)] at kq
                       | rw [if_neg (show ¬ kd = 0 by omega), if_neg (show ¬ kd = 1 by omega)] at kq
                     exact kq)
            · refine fx_li 2 169 (by decide +kernel) rfl ?_
              refine fx_go 183 (by decide +kernel) ?_
              refine fx_add 184 (by decide +kernel) rfl ?_
              rw [← fI_add]
              have rm := fop_R 0 (g 148 17) am
              unfold fR at rm
              refine fx_pi 1186 148 17 187 (by decide +kernel) (by unfold fR; omega) ?_
              refine fx_vret (by decide +kernel) ?_
              first
                | (exfalso; omega)
                | (rw [if_neg (by omega)] at kq
                   first
                     | rw [if_pos (show g 148 18 ≠ 0 ∨ kd = 2 by omega)] at kq
                     | rw [if_neg (show ¬ (g 148 18 ≠ 0 ∨ kd = 2) by omega)] at kq
                   first
                     | rw [if_pos (show g 148 19 ≠ 0 ∨ kd = 2 by omega)] at kq
                     | rw [if_neg (show ¬ (g 148 19 ≠ 0 ∨ kd = 2) by omega)] at kq
                   first
                     | rw [if_pos (show kd = 0 by omega)] at kq
                     | rw [if_neg (show ¬ kd = 0 by omega), if_pos (show kd = 1 by omega)] at kq
                     | rw [if_neg (show ¬ kd = 0 by omega), if_neg (show ¬ kd = 1 by omega)] at kq
                   exact kq)
      · refine fx_vret (by decide +kernel) ?_
        rw [if_pos (by omega), if_pos (Or.inr (by omega))] at kq; exact kq
end G5K
