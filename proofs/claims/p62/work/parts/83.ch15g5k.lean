/-! joined: 83.ch15g5k 83.ch16g5l 83.ch17g5m 83.ch18g5n 83.ch19g5o_head 83.ch20ha 83.ch21hb 83.ch22hc 83.ch23hd -/
section
/-! fx: the reference reads the law: lines -/
theorem fx_ineg {W : ax_W} {r d mi pc : Nat} {L S : List Nat} {g : Nat → Nat → Int} {Q : Nat → Nat → (Nat → Nat → Int) → Prop} (pc' : Nat) {z : Int} (q : (fq mi pc 32 && Nat.beq (sx_wa (fw mi pc)) 0) = true) (hp : pc + 1 = pc') (k : fx W r d mi pc' L (fI (-z) :: S) g Q) : fx W r d mi pc L (fI z :: S) g Q := by
  subst hp
  obtain ⟨q1, q2⟩ := f_and q
  obtain ⟨o1, o2⟩ := fq_ok q1
  refine fx_s o2 (fun ih D h cs ss _ => ?_) k
  rw [cx_b32 o1]
  unfold sx_oUn
  rw [fcp1, sx_fo_eq, show sx_wa (sx_ft (sx_mt mi).1 pc) = 0 from sx_beq q2, sx_beq_e (by decide), sx_if_f, fI_eq, cx_nm, ax_tg_i, sx_beq_t rfl, sx_if_t, sx_fo_eq, sx_if_t, ax_on_pl]
  have e : sx_i (-Int32.ofInt z) = fI (-z) := by rw [fI_eq, Int32.ofInt_neg]
  rw [e]
section SH
variable {T : Int → Int} {E : Int}
/-- the steps c ahead of those that are told -/
noncomputable def shL (c : List Int) (x : Int ⊕ (Int × List Int)) : Int ⊕ (Int × List Int) := bS x (fun a => Sum.inr (a.1, c ++ a.2))
theorem shL_l {c : List Int} {q : Int} : shL c (Sum.inl q) = Sum.inl q := rfl
theorem shL_r {c : List Int} {f : Int} {d : List Int} : shL c (Sum.inr (f, d)) = Sum.inr (f, c ++ d) := rfl
theorem shL_cif {c : List Int} {P : Prop} {a b : Int ⊕ (Int × List Int)} : shL c (cif P a b) = cif P (shL c a) (shL c b) := by
  by_cases h : P
  · rw [cif_t h, cif_t h]
  · rw [cif_f h, cif_f h]
theorem shL_bS {c : List Int} {x : Int ⊕ (Int × List Int)} {k : Int × List Int → Int ⊕ (Int × List Int)} (h : ∀ f d, shL c (k (f, d)) = k (f, c ++ d)) : shL c (bS x k) = bS (shL c x) k := by
  cases x with
  | inl q => rfl
  | inr a => exact h a.1 a.2
theorem pSum_sh (c : List Int) : ∀ (n : Nat) (f : Int) (d : List Int) (j : Bool), pSum T E n f (c ++ d) j = shL c (pSum T E n f d j)
  | 0, f, d, j => rfl
  | n + 1, f, d, j => by
    show bS (pPart T E f) _ = shL c (bS (pPart T E f) _)
    cases h : pPart T E f with
    | inl q => rfl
    | inr a =>
      rw [bS_r, bS_r, shL_cif, shL_r, ← pSum_sh c n, List.append_assoc]
theorem pCmp_sh (c d : List Int) (f : Int) : pCmp T E f (c ++ d) = shL c (pCmp T E f d) := by
  unfold pCmp
  have ap : ∀ (x : Int) (f : Int) (e : List Int), shL c ((fun b : Int × List Int => (Sum.inr (b.1, b.2 ++ [x]) : Int ⊕ (Int × List Int))) (f, e)) = (fun b : Int × List Int => (Sum.inr (b.1, b.2 ++ [x]) : Int ⊕ (Int × List Int))) (f, c ++ e) := fun x f e => by
    show (Sum.inr (f, c ++ (e ++ [x])) : Int ⊕ (Int × List Int)) = Sum.inr (f, (c ++ e) ++ [x])
    rw [List.append_assoc]
  rw [pSum_sh, shL_bS]
  intro f2 d2
  show shL c (cif _ _ _) = cif _ _ _
  rw [shL_cif, shL_cif, shL_bS (ap 2001), shL_bS (ap 2002), ← pSum_sh]
  rfl
theorem pCd_sh (c : List Int) : ∀ (n k : Nat) (dp f : Int) (d : List Int) (j : Bool), pCd T E n k dp f (c ++ d) j = shL c (pCd T E n k dp f d j)
  | 0, _, _, _, _, _ => rfl
  | n + 1, 0, dp, f, d, j => by
    by_cases s0 : pSg T E 40 f
    · by_cases d6 : 6 ≤ dp
      · rw [pA_p6 s0 d6, pA_p6 s0 d6]; rfl
      · rw [pA_p s0 d6, pA_p s0 d6, pCd_sh c n, shL_bS]
        intro f2 d2
        show shL c (cif _ _ _) = cif _ _ _
        rw [shL_cif]
        rfl
    · by_cases w1 : pWd T E [110, 111, 116] f
      · by_cases d6 : 6 ≤ dp
        · rw [pA_n6 s0 w1 d6, pA_n6 s0 w1 d6]; rfl
        · rw [pA_n s0 w1 d6, pA_n s0 w1 d6, pCd_sh c n, shL_bS]
          intro f2 d2
          show (Sum.inr (f2, c ++ (d2 ++ [2003])) : Int ⊕ (Int × List Int)) = Sum.inr (f2, (c ++ d2) ++ [2003])
          rw [List.append_assoc]
      · by_cases w2 : pWd T E [112, 114, 111, 109, 105, 115, 101, 100] f
        · rw [pA_pr s0 w1 w2, pA_pr s0 w1 w2, List.append_assoc]; rfl
        · by_cases w3 : pWd T E [116, 104, 114, 101, 101] f
          · rw [pA_th s0 w1 w2 w3, pA_th s0 w1 w2 w3, List.append_assoc]; rfl
          · rw [pA_s s0 w1 w2 w3, pA_s s0 w1 w2 w3, pCmp_sh]
  | n + 1, 1, dp, f, d, j => by
    rw [pCd_1, pCd_1, pCd_sh c n, shL_bS]
    intro f2 d2
    show shL c (rE T E dp n f2 (d2 ++ cond j [2004] [])) = rE T E dp n f2 ((c ++ d2) ++ cond j [2004] [])
    unfold rE
    rw [shL_cif, ← pCd_sh c n, List.append_assoc]
    rfl
  | n + 1, k + 2, dp, f, d, j => by
    show bS (pCd T E n 1 dp f (c ++ d) false) _ = shL c (bS (pCd T E n 1 dp f d false) _)
    rw [pCd_sh c n, shL_bS]
    intro f2 d2
    show shL c (rO T E dp n f2 (d2 ++ cond j [2005] [])) = rO T E dp n f2 ((c ++ d2) ++ cond j [2005] [])
    unfold rO
    rw [shL_cif, ← pCd_sh c n, List.append_assoc]
    rfl
end SH
/-- what a line does to what is asked -/
noncomputable def fLn (kd am b : Int) (g : Nat → Nat → Int) : Nat → Nat → Int := if b = 0 then fu g 148 18 (if g 148 18 ≠ 0 ∨ kd = 2 then 1 else 0) else fu (fu (fu g 148 18 (if g 148 18 ≠ 0 ∨ kd = 2 then 1 else 0)) 148 19 (if g 148 19 ≠ 0 ∨ kd = 2 then 1 else 0)) 148 17 (fop 0 (g 148 17) (if kd = 0 then am else if kd = 1 then -am else 0))
theorem fLn_x {kd am b : Int} {g : Nat → Nat → Int} {c j : Nat} (h : ¬ (c = 148 ∧ (j = 18 ∨ j = 19 ∨ j = 17))) : fLn kd am b g c j = g c j := by
  unfold fLn
  split
  · rw [fu_ne (by omega)]
  · rw [fu_ne (by omega), fu_ne (by omega), fu_ne (by omega)]
theorem fLn_rX {kd am b : Int} {g0 g : Nat → Nat → Int} (h : rX g0 g) : rX (fLn kd am b g0) (fLn kd am b g) := fun c j a => by
  have e1 := h 148 18 (by decide)
  have e2 := h 148 19 (by decide)
  have e3 := h 148 17 (by decide)
  have e4 := h c j a
  unfold fLn
  rw [e1, e2, e3]
  split
  · simp only [fu_app, e4]
  · simp only [fu_app, e4]
theorem fLn_F {kd am b : Int} {g : Nat → Nat → Int} : fF (fLn kd am b g) = fF g := by
  funext k
  unfold fF
  rw [fLn_x (fun t => absurd t.1 (by decide)), fLn_x (by decide), fLn_x (by decide)]
section G5K
variable {W : ax_W} {r : Nat} {g g0 : Nat → Nat → Int} {Q : Nat → Nat → (Nat → Nat → Int) → Prop} {T : Int → Int} {E f : Int}
theorem rwS.ln {kd am b dp : Int} (h : rwS T E g0 g f dp) : rwS T E (fLn kd am b g0) (fLn kd am b g) f dp := by
  obtain ⟨⟨a1, a2, a3, a4, a5⟩, h1, h2, h3, h4, h5, h6⟩ := h
  have fl : ∀ k, flt (fLn kd am b g) k = flt g k := fun k => by
    unfold flt
    rw [fLn_x (by decide), fLn_x (fun t => absurd t.1 (by decide)), fLn_x (fun t => absurd t.1 (by decide))]
  refine ⟨⟨by rw [fLn_x (by decide)]; exact a1, a2, a3, by rw [fLn_x (by decide)]; exact a4, fun k k0 k1 => by rw [fl]; exact a5 k k0 k1⟩, by rw [fLn_x (by decide)]; exact h1, by rw [fLn_x (by decide)]; exact h2, by rw [fLn_x (by decide)]; exact h3, by rw [fLn_x (by decide)]; exact h4, by rw [fLn_x (by decide)]; exact h5, fLn_rX h6⟩
theorem sp_mll_3 {kd am b : Int} (hk : kd = 0 ∨ kd = 1 ∨ kd = 2) (ha : 0 ≤ am ∧ am ≤ 999) (hb : b = 0 ∨ b = 1) (kq : Q 0 0 (fLn kd am b g)) : fx W r 33 273 112 [1186, fI kd, fI am, fI b] [] g Q := by
  refine fx_rg (fun hg => ?_)
  have r1 := hg 148 18 (by decide) (by decide +kernel) (by decide +kernel)
  have r2 := hg 148 19 (by decide) (by decide +kernel) (by decide +kernel)
  unfold fR at r1 r2
  unfold fLn at kq
  refine fx_la 0 113 (v := 1186) (by decide +kernel) rfl (by decide +kernel) ?_
  refine fx_la 0 114 (v := 1186) (by decide +kernel) rfl (by decide +kernel) ?_
  refine fx_gi 1186 148 18 117 (by decide +kernel) ?_
  refine fx_zne 125 120 (by decide +kernel) (by first | exact hg 148 18 (by decide) (by decide +kernel) (by decide +kernel) | (unfold fR; omega)) (fun h117 => ?_) (fun h117 => ?_)
  · refine fx_ci (1) 126 (by decide +kernel) ?_
    refine fx_go 130 (by decide +kernel) ?_
    refine fx_pb 1186 148 18 133 (by decide +kernel) (by first | exact Or.inl rfl | exact Or.inr rfl | omega) ?_
    refine fx_li 3 134 (by decide +kernel) rfl ?_
    refine fx_zne 138 137 (by decide +kernel) (by unfold fR; omega) (fun h134 => ?_) (fun h134 => ?_)
    · refine fx_la 0 139 (v := 1186) (by decide +kernel) rfl (by decide +kernel) ?_
      refine fx_la 0 140 (v := 1186) (by decide +kernel) rfl (by decide +kernel) ?_
      refine fx_gi 1186 148 19 143 (by decide +kernel) ?_
      try simp only [fu_app, fcy_app, Nat.reduceEqDiff, and_true, and_false, false_and, true_and, if_true, if_false, ite_true, ite_false, reduceIte, Int.reduceToNat, fx_simp0]
      refine fx_zne 151 146 (by decide +kernel) (by unfold fR; omega) (fun h143 => ?_) (fun h143 => ?_)
      · refine fx_ci (1) 152 (by decide +kernel) ?_
        refine fx_go 156 (by decide +kernel) ?_
        refine fx_pb 1186 148 19 159 (by decide +kernel) (by first | exact Or.inl rfl | exact Or.inr rfl | omega) ?_
        refine fx_la 0 160 (v := 1186) (by decide +kernel) rfl (by decide +kernel) ?_
        refine fx_dup 161 (by decide +kernel) rfl (by decide) ?_
        refine fx_gi 1186 148 17 164 (by decide +kernel) ?_
        try simp only [fu_app, fcy_app, Nat.reduceEqDiff, and_true, and_false, false_and, true_and, if_true, if_false, ite_true, ite_false, reduceIte, Int.reduceToNat, fx_simp0]
        refine fx_li 1 165 (by decide +kernel) rfl ?_
        refine fx_zne 172 168 (by decide +kernel) (by unfold fR; omega) (fun h165 => ?_) (fun h165 => ?_)
        · refine fx_li 1 173 (by decide +kernel) rfl ?_
          refine fx_ci (1) 174 (by decide +kernel) ?_
          refine fx_ine 182 177 (by decide +kernel) (by unfold fR; omega) (by unfold fR; omega) (fun h174 => ?_) (fun h174 => ?_)
          · refine fx_ci (0) 183 (by decide +kernel) ?_
            refine fx_add 184 (by decide +kernel) rfl ?_
            rw [← fI_add]
            have rm := fop_R 0 (g 148 17) 0
            unfold fR at rm
            refine fx_pi 1186 148 17 187 (by decide +kernel) (by unfold fR; omega) ?_
            refine fx_vret (by decide +kernel) ?_
            first
              | (exfalso; omega)
              | (rw [if_neg (by omega)] at kq
                 first
                   | rw [if_pos (show g 148 18 ≠ 0 ∨ kd = 2 by omega)] at kq
                   | rw [if_neg (show ¬ (g 148 18 ≠ 0 ∨ kd = 2) by omega)] at kq
                 first
                   | rw [if_pos (show g 148 19 ≠ 0 ∨ kd = 2 by omega)] at kq
                   | rw [if_neg (show ¬ (g 148 19 ≠ 0 ∨ kd = 2) by omega)] at kq
                 first
                   | rw [if_pos (show kd = 0 by omega)] at kq
                   | rw [if_neg (show ¬ kd = 0 by omega), if_pos (show kd = 1 by omega)] at kq
                   | rw [if_neg (show ¬ kd = 0 by omega), if_neg (show ¬ kd = 1 by omega)] at kq
                 exact kq)
          · refine fx_li 2 178 (by decide +kernel) rfl ?_
            refine fx_ineg 179 (by decide +kernel) rfl ?_
            refine fx_go 183 (by decide +kernel) ?_
            refine fx_add 184 (by decide +kernel) rfl ?_
            rw [← fI_add]
            have rm := fop_R 0 (g 148 17) (-am)
            unfold fR at rm
            refine fx_pi 1186 148 17 187 (by decide +kernel) (by unfold fR; omega) ?_
            refine fx_vret (by decide +kernel) ?_
            first
              | (exfalso; omega)
              | (rw [if_neg (by omega)] at kq
                 first
                   | rw [if_pos (show g 148 18 ≠ 0 ∨ kd = 2 by omega)] at kq
                   | rw [if_neg (show ¬ (g 148 18 ≠ 0 ∨ kd = 2) by omega)] at kq
                 first
                   | rw [if_pos (show g 148 19 ≠ 0 ∨ kd = 2 by omega)] at kq
                   | rw [if_neg (show ¬ (g 148 19 ≠ 0 ∨ kd = 2) by omega)] at kq
                 first
                   | rw [if_pos (show kd = 0 by omega)] at kq
                   | rw [if_neg (show ¬ kd = 0 by omega), if_pos (show kd = 1 by omega)] at kq
                   | rw [if_neg (show ¬ kd = 0 by omega), if_neg (show ¬ kd = 1 by omega)] at kq
                 exact kq)
        · refine fx_li 2 169 (by decide +kernel) rfl ?_
          refine fx_go 183 (by decide +kernel) ?_
          refine fx_add 184 (by decide +kernel) rfl ?_
          rw [← fI_add]
          have rm := fop_R 0 (g 148 17) am
          unfold fR at rm
          refine fx_pi 1186 148 17 187 (by decide +kernel) (by unfold fR; omega) ?_
          refine fx_vret (by decide +kernel) ?_
          first
            | (exfalso; omega)
            | (rw [if_neg (by omega)] at kq
               first
                 | rw [if_pos (show g 148 18 ≠ 0 ∨ kd = 2 by omega)] at kq
                 | rw [if_neg (show ¬ (g 148 18 ≠ 0 ∨ kd = 2) by omega)] at kq
               first
                 | rw [if_pos (show g 148 19 ≠ 0 ∨ kd = 2 by omega)] at kq
                 | rw [if_neg (show ¬ (g 148 19 ≠ 0 ∨ kd = 2) by omega)] at kq
               first
                 | rw [if_pos (show kd = 0 by omega)] at kq
                 | rw [if_neg (show ¬ kd = 0 by omega), if_pos (show kd = 1 by omega)] at kq
                 | rw [if_neg (show ¬ kd = 0 by omega), if_neg (show ¬ kd = 1 by omega)] at kq
               exact kq)
      · refine fx_li 1 147 (by decide +kernel) rfl ?_
        refine fx_ci (2) 148 (by decide +kernel) ?_
        refine fx_ine 155 151 (by decide +kernel) (by unfold fR; omega) (by unfold fR; omega) (fun h148 => ?_) (fun h148 => ?_)
        · refine fx_ci (0) 156 (by decide +kernel) ?_
          refine fx_pb 1186 148 19 159 (by decide +kernel) (by first | exact Or.inl rfl | exact Or.inr rfl | omega) ?_
          refine fx_la 0 160 (v := 1186) (by decide +kernel) rfl (by decide +kernel) ?_
          refine fx_dup 161 (by decide +kernel) rfl (by decide) ?_
          refine fx_gi 1186 148 17 164 (by decide +kernel) ?_
          try simp only [fu_app, fcy_app, Nat.reduceEqDiff, and_true, and_false, false_and, true_and, if_true, if_false, ite_true, ite_false, reduceIte, Int.reduceToNat, fx_simp0]
          refine fx_li 1 165 (by decide +kernel) rfl ?_
          refine fx_zne 172 168 (by decide +kernel) (by unfold fR; omega) (fun h165 => ?_) (fun h165 => ?_)
          · refine fx_li 1 173 (by decide +kernel) rfl ?_
            refine fx_ci (1) 174 (by decide +kernel) ?_
            refine fx_ine 182 177 (by decide +kernel) (by unfold fR; omega) (by unfold fR; omega) (fun h174 => ?_) (fun h174 => ?_)
            · refine fx_ci (0) 183 (by decide +kernel) ?_
              refine fx_add 184 (by decide +kernel) rfl ?_
              rw [← fI_add]
              have rm := fop_R 0 (g 148 17) 0
              unfold fR at rm
              refine fx_pi 1186 148 17 187 (by decide +kernel) (by unfold fR; omega) ?_
              refine fx_vret (by decide +kernel) ?_
              first
                | (exfalso; omega)
                | (rw [if_neg (by omega)] at kq
                   first
                     | rw [if_pos (show g 148 18 ≠ 0 ∨ kd = 2 by omega)] at kq
                     | rw [if_neg (show ¬ (g 148 18 ≠ 0 ∨ kd = 2) by omega)] at kq
                   first
                     | rw [if_pos (show g 148 19 ≠ 0 ∨ kd = 2 by omega)] at kq
                     | rw [if_neg (show ¬ (g 148 19 ≠ 0 ∨ kd = 2) by omega)] at kq
                   first
                     | rw [if_pos (show kd = 0 by omega)] at kq
                     | rw [if_neg (show ¬ kd = 0 by omega), if_pos (show kd = 1 by omega)] at kq
                     | rw [if_neg (show ¬ kd = 0 by omega), if_neg (show ¬ kd = 1 by omega)] at kq
                   exact kq)
            · refine fx_li 2 178 (by decide +kernel) rfl ?_
              refine fx_ineg 179 (by decide +kernel) rfl ?_
              refine fx_go 183 (by decide +kernel) ?_
              refine fx_add 184 (by decide +kernel) rfl ?_
              rw [← fI_add]
              have rm := fop_R 0 (g 148 17) (-am)
              unfold fR at rm
              refine fx_pi 1186 148 17 187 (by decide +kernel) (by unfold fR; omega) ?_
              refine fx_vret (by decide +kernel) ?_
              first
                | (exfalso; omega)
                | (rw [if_neg (by omega)] at kq
                   first
                     | rw [if_pos (show g 148 18 ≠ 0 ∨ kd = 2 by omega)] at kq
                     | rw [if_neg (show ¬ (g 148 18 ≠ 0 ∨ kd = 2) by omega)] at kq
                   first
                     | rw [if_pos (show g 148 19 ≠ 0 ∨ kd = 2 by omega)] at kq
                     | rw [if_neg (show ¬ (g 148 19 ≠ 0 ∨ kd = 2) by omega)] at kq
                   first
                     | rw [if_pos (show kd = 0 by omega)] at kq
                     | rw [if_neg (show ¬ kd = 0 by omega), if_pos (show kd = 1 by omega)] at kq
                     | rw [if_neg (show ¬ kd = 0 by omega), if_neg (show ¬ kd = 1 by omega)] at kq
                   exact kq)
          · refine fx_li 2 169 (by decide +kernel) rfl ?_
            refine fx_go 183 (by decide +kernel) ?_
            refine fx_add 184 (by decide +kernel) rfl ?_
            rw [← fI_add]
            have rm := fop_R 0 (g 148 17) am
            unfold fR at rm
            refine fx_pi 1186 148 17 187 (by decide +kernel) (by unfold fR; omega) ?_
            refine fx_vret (by decide +kernel) ?_
            first
              | (exfalso; omega)
              | (rw [if_neg (by omega)] at kq
                 first
                   | rw [if_pos (show g 148 18 ≠ 0 ∨ kd = 2 by omega)] at kq
                   | rw [if_neg (show ¬ (g 148 18 ≠ 0 ∨ kd = 2) by omega)] at kq
                 first
                   | rw [if_pos (show g 148 19 ≠ 0 ∨ kd = 2 by omega)] at kq
                   | rw [if_neg (show ¬ (g 148 19 ≠ 0 ∨ kd = 2) by omega)] at kq
                 first
                   | rw [if_pos (show kd = 0 by omega)] at kq
                   | rw [if_neg (show ¬ kd = 0 by omega), if_pos (show kd = 1 by omega)] at kq
                   | rw [if_neg (show ¬ kd = 0 by omega), if_neg (show ¬ kd = 1 by omega)] at kq
                 exact kq)
        · refine fx_ci (1) 152 (by decide +kernel) ?_
          refine fx_go 156 (by decide +kernel) ?_
          refine fx_pb 1186 148 19 159 (by decide +kernel) (by first | exact Or.inl rfl | exact Or.inr rfl | omega) ?_
          refine fx_la 0 160 (v := 1186) (by decide +kernel) rfl (by decide +kernel) ?_
          refine fx_dup 161 (by decide +kernel) rfl (by decide) ?_
          refine fx_gi 1186 148 17 164 (by decide +kernel) ?_
          try simp only [fu_app, fcy_app, Nat.reduceEqDiff, and_true, and_false, false_and, true_and, if_true, if_false, ite_true, ite_false, reduceIte, Int.reduceToNat, fx_simp0]
          refine fx_li 1 165 (by decide +kernel) rfl ?_
          refine fx_zne 172 168 (by decide +kernel) (by unfold fR; omega) (fun h165 => ?_) (fun h165 => ?_)
          · refine fx_li 1 173 (by decide +kernel) rfl ?_
            refine fx_ci (1) 174 (by decide +kernel) ?_
            refine fx_ine 182 177 (by decide +kernel) (by unfold fR; omega) (by unfold fR; omega) (fun h174 => ?_) (fun h174 => ?_)
            · refine fx_ci (0) 183 (by decide +kernel) ?_
              refine fx_add 184 (by decide +kernel) rfl ?_
              rw [← fI_add]
              have rm := fop_R 0 (g 148 17) 0
              unfold fR at rm
              refine fx_pi 1186 148 17 187 (by decide +kernel) (by unfold fR; omega) ?_
              refine fx_vret (by decide +kernel) ?_
              first
                | (exfalso; omega)
                | (rw [if_neg (by omega)] at kq
                   first
                     | rw [if_pos (show g 148 18 ≠ 0 ∨ kd = 2 by omega)] at kq
                     | rw [if_neg (show ¬ (g 148 18 ≠ 0 ∨ kd = 2) by omega)] at kq
                   first
                     | rw [if_pos (show g 148 19 ≠ 0 ∨ kd = 2 by omega)] at kq
                     | rw [if_neg (show ¬ (g 148 19 ≠ 0 ∨ kd = 2) by omega)] at kq
                   first
                     | rw [if_pos (show kd = 0 by omega)] at kq
                     | rw [if_neg (show ¬ kd = 0 by omega), if_pos (show kd = 1 by omega)] at kq
                     | rw [if_neg (show ¬ kd = 0 by omega), if_neg (show ¬ kd = 1 by omega)] at kq
                   exact kq)
            · refine fx_li 2 178 (by decide +kernel) rfl ?_
              refine fx_ineg 179 (by decide +kernel) rfl ?_
              refine fx_go 183 (by decide +kernel) ?_
              refine fx_add 184 (by decide +kernel) rfl ?_
              rw [← fI_add]
              have rm := fop_R 0 (g 148 17) (-am)
              unfold fR at rm
              refine fx_pi 1186 148 17 187 (by decide +kernel) (by unfold fR; omega) ?_
              refine fx_vret (by decide +kernel) ?_
              first
                | (exfalso; omega)
                | (rw [if_neg (by omega)] at kq
                   first
                     | rw [if_pos (show g 148 18 ≠ 0 ∨ kd = 2 by omega)] at kq
                     | rw [if_neg (show ¬ (g 148 18 ≠ 0 ∨ kd = 2) by omega)] at kq
                   first
                     | rw [if_pos (show g 148 19 ≠ 0 ∨ kd = 2 by omega)] at kq
                     | rw [if_neg (show ¬ (g 148 19 ≠ 0 ∨ kd = 2) by omega)] at kq
                   first
                     | rw [if_pos (show kd = 0 by omega)] at kq
                     | rw [if_neg (show ¬ kd = 0 by omega), if_pos (show kd = 1 by omega)] at kq
                     | rw [if_neg (show ¬ kd = 0 by omega), if_neg (show ¬ kd = 1 by omega)] at kq
                   exact kq)
          · refine fx_li 2 169 (by decide +kernel) rfl ?_
            refine fx_go 183 (by decide +kernel) ?_
            refine fx_add 184 (by decide +kernel) rfl ?_
            rw [← fI_add]
            have rm := fop_R 0 (g 148 17) am
            unfold fR at rm
            refine fx_pi 1186 148 17 187 (by decide +kernel) (by unfold fR; omega) ?_
            refine fx_vret (by decide +kernel) ?_
            first
              | (exfalso; omega)
              | (rw [if_neg (by omega)] at kq
                 first
                   | rw [if_pos (show g 148 18 ≠ 0 ∨ kd = 2 by omega)] at kq
                   | rw [if_neg (show ¬ (g 148 18 ≠ 0 ∨ kd = 2) by omega)] at kq
                 first
                   | rw [if_pos (show g 148 19 ≠ 0 ∨ kd = 2 by omega)] at kq
                   | rw [if_neg (show ¬ (g 148 19 ≠ 0 ∨ kd = 2) by omega)] at kq
                 first
                   | rw [if_pos (show kd = 0 by omega)] at kq
                   | rw [if_neg (show ¬ kd = 0 by omega), if_pos (show kd = 1 by omega)] at kq
                   | rw [if_neg (show ¬ kd = 0 by omega), if_neg (show ¬ kd = 1 by omega)] at kq
                 exact kq)
    · refine fx_vret (by decide +kernel) ?_
      rw [if_pos (by omega), if_pos (Or.inl (by omega))] at kq; exact kq
  · refine fx_li 1 121 (by decide +kernel) rfl ?_
    refine fx_ci (2) 122 (by decide +kernel) ?_
    refine fx_ine 129 125 (by decide +kernel) (by unfold fR; omega) (by unfold fR; omega) (fun h122 => ?_) (fun h122 => ?_)
    · refine fx_ci (0) 130 (by decide +kernel) ?_
      refine fx_pb 1186 148 18 133 (by decide +kernel) (by first | exact Or.inl rfl | exact Or.inr rfl | omega) ?_
      refine fx_li 3 134 (by decide +kernel) rfl ?_
      refine fx_zne 138 137 (by decide +kernel) (by unfold fR; omega) (fun h134 => ?_) (fun h134 => ?_)
      · refine fx_la 0 139 (v := 1186) (by decide +kernel) rfl (by decide +kernel) ?_
        refine fx_la 0 140 (v := 1186) (by decide +kernel) rfl (by decide +kernel) ?_
        refine fx_gi 1186 148 19 143 (by decide +kernel) ?_
        try simp only [fu_app, fcy_app, Nat.reduceEqDiff, and_true, and_false, false_and, true_and, if_true, if_false, ite_true, ite_false, reduceIte, Int.reduceToNat, fx_simp0]
        refine fx_zne 151 146 (by decide +kernel) (by unfold fR; omega) (fun h143 => ?_) (fun h143 => ?_)
        · refine fx_ci (1) 152 (by decide +kernel) ?_
          refine fx_go 156 (by decide +kernel) ?_
          refine fx_pb 1186 148 19 159 (by decide +kernel) (by first | exact Or.inl rfl | exact Or.inr rfl | omega) ?_
          refine fx_la 0 160 (v := 1186) (by decide +kernel) rfl (by decide +kernel) ?_
          refine fx_dup 161 (by decide +kernel) rfl (by decide) ?_
          refine fx_gi 1186 148 17 164 (by decide +kernel) ?_
          try simp only [fu_app, fcy_app, Nat.reduceEqDiff, and_true, and_false, false_and, true_and, if_true, if_false, ite_true, ite_false, reduceIte, Int.reduceToNat, fx_simp0]
          refine fx_li 1 165 (by decide +kernel) rfl ?_
          refine fx_zne 172 168 (by decide +kernel) (by unfold fR; omega) (fun h165 => ?_) (fun h165 => ?_)
          · refine fx_li 1 173 (by decide +kernel) rfl ?_
            refine fx_ci (1) 174 (by decide +kernel) ?_
            refine fx_ine 182 177 (by decide +kernel) (by unfold fR; omega) (by unfold fR; omega) (fun h174 => ?_) (fun h174 => ?_)
            · refine fx_ci (0) 183 (by decide +kernel) ?_
              refine fx_add 184 (by decide +kernel) rfl ?_
              rw [← fI_add]
              have rm := fop_R 0 (g 148 17) 0
              unfold fR at rm
              refine fx_pi 1186 148 17 187 (by decide +kernel) (by unfold fR; omega) ?_
              refine fx_vret (by decide +kernel) ?_
              first
                | (exfalso; omega)
                | (rw [if_neg (by omega)] at kq
                   first
                     | rw [if_pos (show g 148 18 ≠ 0 ∨ kd = 2 by omega)] at kq
                     | rw [if_neg (show ¬ (g 148 18 ≠ 0 ∨ kd = 2) by omega)] at kq
                   first
                     | rw [if_pos (show g 148 19 ≠ 0 ∨ kd = 2 by omega)] at kq
                     | rw [if_neg (show ¬ (g 148 19 ≠ 0 ∨ kd = 2) by omega)] at kq
                   first
                     | rw [if_pos (show kd = 0 by omega)] at kq
                     | rw [if_neg (show ¬ kd = 0 by omega), if_pos (show kd = 1 by omega)] at kq
                     | rw [if_neg (show ¬ kd = 0 by omega), if_neg (show ¬ kd = 1 by omega)] at kq
                   exact kq)
            · refine fx_li 2 178 (by decide +kernel) rfl ?_
              refine fx_ineg 179 (by decide +kernel) rfl ?_
              refine fx_go 183 (by decide +kernel) ?_
              refine fx_add 184 (by decide +kernel) rfl ?_
              rw [← fI_add]
              have rm := fop_R 0 (g 148 17) (-am)
              unfold fR at rm
              refine fx_pi 1186 148 17 187 (by decide +kernel) (by unfold fR; omega) ?_
              refine fx_vret (by decide +kernel) ?_
              first
                | (exfalso; omega)
                | (rw [if_neg (by omega)] at kq
                   first
                     | rw [if_pos (show g 148 18 ≠ 0 ∨ kd = 2 by omega)] at kq
                     | rw [if_neg (show ¬ (g 148 18 ≠ 0 ∨ kd = 2) by omega)] at kq
                   first
                     | rw [if_pos (show g 148 19 ≠ 0 ∨ kd = 2 by omega)] at kq
                     | rw [if_neg (show ¬ (g 148 19 ≠ 0 ∨ kd = 2) by omega)] at kq
                   first
                     | rw [if_pos (show kd = 0 by omega)] at kq
                     | rw [if_neg (show ¬ kd = 0 by omega), if_pos (show kd = 1 by omega)] at kq
                     | rw [if_neg (show ¬ kd = 0 by omega), if_neg (show ¬ kd = 1 by omega)] at kq
                   exact kq)
          · refine fx_li 2 169 (by decide +kernel) rfl ?_
            refine fx_go 183 (by decide +kernel) ?_
            refine fx_add 184 (by decide +kernel) rfl ?_
            rw [← fI_add]
            have rm := fop_R 0 (g 148 17) am
            unfold fR at rm
            refine fx_pi 1186 148 17 187 (by decide +kernel) (by unfold fR; omega) ?_
            refine fx_vret (by decide +kernel) ?_
            first
              | (exfalso; omega)
              | (rw [if_neg (by omega)] at kq
                 first
                   | rw [if_pos (show g 148 18 ≠ 0 ∨ kd = 2 by omega)] at kq
                   | rw [if_neg (show ¬ (g 148 18 ≠ 0 ∨ kd = 2) by omega)] at kq
                 first
                   | rw [if_pos (show g 148 19 ≠ 0 ∨ kd = 2 by omega)] at kq
                   | rw [if_neg (show ¬ (g 148 19 ≠ 0 ∨ kd = 2) by omega)] at kq
                 first
                   | rw [if_pos (show kd = 0 by omega)] at kq
                   | rw [if_neg (show ¬ kd = 0 by omega), if_pos (show kd = 1 by omega)] at kq
                   | rw [if_neg (show ¬ kd = 0 by omega), if_neg (show ¬ kd = 1 by omega)] at kq
                 exact kq)
        · refine fx_li 1 147 (by decide +kernel) rfl ?_
          refine fx_ci (2) 148 (by decide +kernel) ?_
          refine fx_ine 155 151 (by decide +kernel) (by unfold fR; omega) (by unfold fR; omega) (fun h148 => ?_) (fun h148 => ?_)
          · refine fx_ci (0) 156 (by decide +kernel) ?_
            refine fx_pb 1186 148 19 159 (by decide +kernel) (by first | exact Or.inl rfl | exact Or.inr rfl | omega) ?_
            refine fx_la 0 160 (v := 1186) (by decide +kernel) rfl (by decide +kernel) ?_
            refine fx_dup 161 (by decide +kernel) rfl (by decide) ?_
            refine fx_gi 1186 148 17 164 (by decide +kernel) ?_
            try simp only [fu_app, fcy_app, Nat.reduceEqDiff, and_true, and_false, false_and, true_and, if_true, if_false, ite_true, ite_false, reduceIte, Int.reduceToNat, fx_simp0]
            refine fx_li 1 165 (by decide +kernel) rfl ?_
            refine fx_zne 172 168 (by decide +kernel) (by unfold fR; omega) (fun h165 => ?_) (fun h165 => ?_)
            · refine fx_li 1 173 (by decide +kernel) rfl ?_
              refine fx_ci (1) 174 (by decide +kernel) ?_
              refine fx_ine 182 177 (by decide +kernel) (by unfold fR; omega) (by unfold fR; omega) (fun h174 => ?_) (fun h174 => ?_)
              · refine fx_ci (0) 183 (by decide +kernel) ?_
                refine fx_add 184 (by decide +kernel) rfl ?_
                rw [← fI_add]
                have rm := fop_R 0 (g 148 17) 0
                unfold fR at rm
                refine fx_pi 1186 148 17 187 (by decide +kernel) (by unfold fR; omega) ?_
                refine fx_vret (by decide +kernel) ?_
                first
                  | (exfalso; omega)
                  | (rw [if_neg (by omega)] at kq
                     first
                       | rw [if_pos (show g 148 18 ≠ 0 ∨ kd = 2 by omega)] at kq
                       | rw [if_neg (show ¬ (g 148 18 ≠ 0 ∨ kd = 2) by omega)] at kq
                     first
                       | rw [if_pos (show g 148 19 ≠ 0 ∨ kd = 2 by omega)] at kq
                       | rw [if_neg (show ¬ (g 148 19 ≠ 0 ∨ kd = 2) by omega)] at kq
                     first
                       | rw [if_pos (show kd = 0 by omega)] at kq
                       | rw [if_neg (show ¬ kd = 0 by omega), if_pos (show kd = 1 by omega)] at kq
                       | rw [if_neg (show ¬ kd = 0 by omega), if_neg (show ¬ kd = 1 by omega)] at kq
                     exact kq)
              · refine fx_li 2 178 (by decide +kernel) rfl ?_
                refine fx_ineg 179 (by decide +kernel) rfl ?_
                refine fx_go 183 (by decide +kernel) ?_
                refine fx_add 184 (by decide +kernel) rfl ?_
                rw [← fI_add]
                have rm := fop_R 0 (g 148 17) (-am)
                unfold fR at rm
                refine fx_pi 1186 148 17 187 (by decide +kernel) (by unfold fR; omega) ?_
                refine fx_vret (by decide +kernel) ?_
                first
                  | (exfalso; omega)
                  | (rw [if_neg (by omega)] at kq
                     first
                       | rw [if_pos (show g 148 18 ≠ 0 ∨ kd = 2 by omega)] at kq
                       | rw [if_neg (show ¬ (g 148 18 ≠ 0 ∨ kd = 2) by omega)] at kq
                     first
                       | rw [if_pos (show g 148 19 ≠ 0 ∨ kd = 2 by omega)] at kq
                       | rw [if_neg (show ¬ (g 148 19 ≠ 0 ∨ kd = 2) by omega)] at kq
                     first
                       | rw [if_pos (show kd = 0 by omega)] at kq
                       | rw [if_neg (show ¬ kd = 0 by omega), if_pos (show kd = 1 by omega)] at kq
                       | rw [if_neg (show ¬ kd = 0 by omega), if_neg (show ¬ kd = 1 by omega)] at kq
                     exact kq)
            · refine fx_li 2 169 (by decide +kernel) rfl ?_
              refine fx_go 183 (by decide +kernel) ?_
              refine fx_add 184 (by decide +kernel) rfl ?_
              rw [← fI_add]
              have rm := fop_R 0 (g 148 17) am
              unfold fR at rm
              refine fx_pi 1186 148 17 187 (by decide +kernel) (by unfold fR; omega) ?_
              refine fx_vret (by decide +kernel) ?_
              first
                | (exfalso; omega)
                | (rw [if_neg (by omega)] at kq
                   first
                     | rw [if_pos (show g 148 18 ≠ 0 ∨ kd = 2 by omega)] at kq
                     | rw [if_neg (show ¬ (g 148 18 ≠ 0 ∨ kd = 2) by omega)] at kq
                   first
                     | rw [if_pos (show g 148 19 ≠ 0 ∨ kd = 2 by omega)] at kq
                     | rw [if_neg (show ¬ (g 148 19 ≠ 0 ∨ kd = 2) by omega)] at kq
                   first
                     | rw [if_pos (show kd = 0 by omega)] at kq
                     | rw [if_neg (show ¬ kd = 0 by omega), if_pos (show kd = 1 by omega)] at kq
                     | rw [if_neg (show ¬ kd = 0 by omega), if_neg (show ¬ kd = 1 by omega)] at kq
                   exact kq)
          · refine fx_ci (1) 152 (by decide +kernel) ?_
            refine fx_go 156 (by decide +kernel) ?_
            refine fx_pb 1186 148 19 159 (by decide +kernel) (by first | exact Or.inl rfl | exact Or.inr rfl | omega) ?_
            refine fx_la 0 160 (v := 1186) (by decide +kernel) rfl (by decide +kernel) ?_
            refine fx_dup 161 (by decide +kernel) rfl (by decide) ?_
            refine fx_gi 1186 148 17 164 (by decide +kernel) ?_
            try simp only [fu_app, fcy_app, Nat.reduceEqDiff, and_true, and_false, false_and, true_and, if_true, if_false, ite_true, ite_false, reduceIte, Int.reduceToNat, fx_simp0]
            refine fx_li 1 165 (by decide +kernel) rfl ?_
            refine fx_zne 172 168 (by decide +kernel) (by unfold fR; omega) (fun h165 => ?_) (fun h165 => ?_)
            · refine fx_li 1 173 (by decide +kernel) rfl ?_
              refine fx_ci (1) 174 (by decide +kernel) ?_
              refine fx_ine 182 177 (by decide +kernel) (by unfold fR; omega) (by unfold fR; omega) (fun h174 => ?_) (fun h174 => ?_)
              · refine fx_ci (0) 183 (by decide +kernel) ?_
                refine fx_add 184 (by decide +kernel) rfl ?_
                rw [← fI_add]
                have rm := fop_R 0 (g 148 17) 0
                unfold fR at rm
                refine fx_pi 1186 148 17 187 (by decide +kernel) (by unfold fR; omega) ?_
                refine fx_vret (by decide +kernel) ?_
                first
                  | (exfalso; omega)
                  | (rw [if_neg (by omega)] at kq
                     first
                       | rw [if_pos (show g 148 18 ≠ 0 ∨ kd = 2 by omega)] at kq
                       | rw [if_neg (show ¬ (g 148 18 ≠ 0 ∨ kd = 2) by omega)] at kq
                     first
                       | rw [if_pos (show g 148 19 ≠ 0 ∨ kd = 2 by omega)] at kq
                       | rw [if_neg (show ¬ (g 148 19 ≠ 0 ∨ kd = 2) by omega)] at kq
                     first
                       | rw [if_pos (show kd = 0 by omega)] at kq
                       | rw [if_neg (show ¬ kd = 0 by omega), if_pos (show kd = 1 by omega)] at kq
                       | rw [if_neg (show ¬ kd = 0 by omega), if_neg (show ¬ kd = 1 by omega)] at kq
                     exact kq)
              · refine fx_li 2 178 (by decide +kernel) rfl ?_
                refine fx_ineg 179 (by decide +kernel) rfl ?_
                refine fx_go 183 (by decide +kernel) ?_
                refine fx_add 184 (by decide +kernel) rfl ?_
                rw [← fI_add]
                have rm := fop_R 0 (g 148 17) (-am)
                unfold fR at rm
                refine fx_pi 1186 148 17 187 (by decide +kernel) (by unfold fR; omega) ?_
                refine fx_vret (by decide +kernel) ?_
                first
                  | (exfalso; omega)
                  | (rw [if_neg (by omega)] at kq
                     first
                       | rw [if_pos (show g 148 18 ≠ 0 ∨ kd = 2 by omega)] at kq
                       | rw [if_neg (show ¬ (g 148 18 ≠ 0 ∨ kd = 2) by omega)] at kq
                     first
                       | rw [if_pos (show g 148 19 ≠ 0 ∨ kd = 2 by omega)] at kq
                       | rw [if_neg (show ¬ (g 148 19 ≠ 0 ∨ kd = 2) by omega)] at kq
                     first
                       | rw [if_pos (show kd = 0 by omega)] at kq
                       | rw [if_neg (show ¬ kd = 0 by omega), if_pos (show kd = 1 by omega)] at kq
                       | rw [if_neg (show ¬ kd = 0 by omega), if_neg (show ¬ kd = 1 by omega)] at kq
                     exact kq)
            · refine fx_li 2 169 (by decide +kernel) rfl ?_
              refine fx_go 183 (by decide +kernel) ?_
              refine fx_add 184 (by decide +kernel) rfl ?_
              rw [← fI_add]
              have rm := fop_R 0 (g 148 17) am
              unfold fR at rm
              refine fx_pi 1186 148 17 187 (by decide +kernel) (by unfold fR; omega) ?_
              refine fx_vret (by decide +kernel) ?_
              first
                | (exfalso; omega)
                | (rw [if_neg (by omega)] at kq
                   first
                     | rw [if_pos (show g 148 18 ≠ 0 ∨ kd = 2 by omega)] at kq
                     | rw [if_neg (show ¬ (g 148 18 ≠ 0 ∨ kd = 2) by omega)] at kq
                   first
                     | rw [if_pos (show g 148 19 ≠ 0 ∨ kd = 2 by omega)] at kq
                     | rw [if_neg (show ¬ (g 148 19 ≠ 0 ∨ kd = 2) by omega)] at kq
                   first
                     | rw [if_pos (show kd = 0 by omega)] at kq
                     | rw [if_neg (show ¬ kd = 0 by omega), if_pos (show kd = 1 by omega)] at kq
                     | rw [if_neg (show ¬ kd = 0 by omega), if_neg (show ¬ kd = 1 by omega)] at kq
                   exact kq)
      · refine fx_vret (by decide +kernel) ?_
        rw [if_pos (by omega), if_neg (by omega)] at kq; exact kq
    · refine fx_ci (1) 126 (by decide +kernel) ?_
      refine fx_go 130 (by decide +kernel) ?_
      refine fx_pb 1186 148 18 133 (by decide +kernel) (by first | exact Or.inl rfl | exact Or.inr rfl | omega) ?_
      refine fx_li 3 134 (by decide +kernel) rfl ?_
      refine fx_zne 138 137 (by decide +kernel) (by unfold fR; omega) (fun h134 => ?_) (fun h134 => ?_)
      · refine fx_la 0 139 (v := 1186) (by decide +kernel) rfl (by decide +kernel) ?_
        refine fx_la 0 140 (v := 1186) (by decide +kernel) rfl (by decide +kernel) ?_
        refine fx_gi 1186 148 19 143 (by decide +kernel) ?_
        try simp only [fu_app, fcy_app, Nat.reduceEqDiff, and_true, and_false, false_and, true_and, if_true, if_false, ite_true, ite_false, reduceIte, Int.reduceToNat, fx_simp0]
        refine fx_zne 151 146 (by decide +kernel) (by unfold fR; omega) (fun h143 => ?_) (fun h143 => ?_)
        · refine fx_ci (1) 152 (by decide +kernel) ?_
          refine fx_go 156 (by decide +kernel) ?_
          refine fx_pb 1186 148 19 159 (by decide +kernel) (by first | exact Or.inl rfl | exact Or.inr rfl | omega) ?_
          refine fx_la 0 160 (v := 1186) (by decide +kernel) rfl (by decide +kernel) ?_
          refine fx_dup 161 (by decide +kernel) rfl (by decide) ?_
          refine fx_gi 1186 148 17 164 (by decide +kernel) ?_
          try simp only [fu_app, fcy_app, Nat.reduceEqDiff, and_true, and_false, false_and, true_and, if_true, if_false, ite_true, ite_false, reduceIte, Int.reduceToNat, fx_simp0]
          refine fx_li 1 165 (by decide +kernel) rfl ?_
          refine fx_zne 172 168 (by decide +kernel) (by unfold fR; omega) (fun h165 => ?_) (fun h165 => ?_)
          · refine fx_li 1 173 (by decide +kernel) rfl ?_
            refine fx_ci (1) 174 (by decide +kernel) ?_
            refine fx_ine 182 177 (by decide +kernel) (by unfold fR; omega) (by unfold fR; omega) (fun h174 => ?_) (fun h174 => ?_)
            · refine fx_ci (0) 183 (by decide +kernel) ?_
              refine fx_add 184 (by decide +kernel) rfl ?_
              rw [← fI_add]
              have rm := fop_R 0 (g 148 17) 0
              unfold fR at rm
              refine fx_pi 1186 148 17 187 (by decide +kernel) (by unfold fR; omega) ?_
              refine fx_vret (by decide +kernel) ?_
              first
                | (exfalso; omega)
                | (rw [if_neg (by omega)] at kq
                   first
                     | rw [if_pos (show g 148 18 ≠ 0 ∨ kd = 2 by omega)] at kq
                     | rw [if_neg (show ¬ (g 148 18 ≠ 0 ∨ kd = 2) by omega)] at kq
                   first
                     | rw [if_pos (show g 148 19 ≠ 0 ∨ kd = 2 by omega)] at kq
                     | rw [if_neg (show ¬ (g 148 19 ≠ 0 ∨ kd = 2) by omega)] at kq
                   first
                     | rw [if_pos (show kd = 0 by omega)] at kq
                     | rw [if_neg (show ¬ kd = 0 by omega), if_pos (show kd = 1 by omega)] at kq
                     | rw [if_neg (show ¬ kd = 0 by omega), if_neg (show ¬ kd = 1 by omega)] at kq
                   exact kq)
            · refine fx_li 2 178 (by decide +kernel) rfl ?_
              refine fx_ineg 179 (by decide +kernel) rfl ?_
              refine fx_go 183 (by decide +kernel) ?_
              refine fx_add 184 (by decide +kernel) rfl ?_
              rw [← fI_add]
              have rm := fop_R 0 (g 148 17) (-am)
              unfold fR at rm
              refine fx_pi 1186 148 17 187 (by decide +kernel) (by unfold fR; omega) ?_
              refine fx_vret (by decide +kernel) ?_
              first
                | (exfalso; omega)
                | (rw [if_neg (by omega)] at kq
                   first
                     | rw [if_pos (show g 148 18 ≠ 0 ∨ kd = 2 by omega)] at kq
                     | rw [if_neg (show ¬ (g 148 18 ≠ 0 ∨ kd = 2) by omega)] at kq
                   first
                     | rw [if_pos (show g 148 19 ≠ 0 ∨ kd = 2 by omega)] at kq
                     | rw [if_neg (show ¬ (g 148 19 ≠ 0 ∨ kd = 2) by omega)] at kq
                   first
                     | rw [if_pos (show kd = 0 by omega)] at kq
                     | rw [if_neg (show ¬ kd = 0 by omega), if_pos (show kd = 1 by omega)] at kq
                     | rw [if_neg (show ¬ kd = 0 by omega), if_neg (show ¬ kd = 1 by omega)] at kq
                   exact kq)
          · refine fx_li 2 169 (by decide +kernel) rfl ?_
            refine fx_go 183 (by decide +kernel) ?_
            refine fx_add 184 (by decide +kernel) rfl ?_
            rw [← fI_add]
            have rm := fop_R 0 (g 148 17) am
            unfold fR at rm
            refine fx_pi 1186 148 17 187 (by decide +kernel) (by unfold fR; omega) ?_
            refine fx_vret (by decide +kernel) ?_
            first
              | (exfalso; omega)
              | (rw [if_neg (by omega)] at kq
                 first
                   | rw [if_pos (show g 148 18 ≠ 0 ∨ kd = 2 by omega)] at kq
                   | rw [if_neg (show ¬ (g 148 18 ≠ 0 ∨ kd = 2) by omega)] at kq
                 first
                   | rw [if_pos (show g 148 19 ≠ 0 ∨ kd = 2 by omega)] at kq
                   | rw [if_neg (show ¬ (g 148 19 ≠ 0 ∨ kd = 2) by omega)] at kq
                 first
                   | rw [if_pos (show kd = 0 by omega)] at kq
                   | rw [if_neg (show ¬ kd = 0 by omega), if_pos (show kd = 1 by omega)] at kq
                   | rw [if_neg (show ¬ kd = 0 by omega), if_neg (show ¬ kd = 1 by omega)] at kq
                 exact kq)
        · refine fx_li 1 147 (by decide +kernel) rfl ?_
          refine fx_ci (2) 148 (by decide +kernel) ?_
          refine fx_ine 155 151 (by decide +kernel) (by unfold fR; omega) (by unfold fR; omega) (fun h148 => ?_) (fun h148 => ?_)
          · refine fx_ci (0) 156 (by decide +kernel) ?_
            refine fx_pb 1186 148 19 159 (by decide +kernel) (by first | exact Or.inl rfl | exact Or.inr rfl | omega) ?_
            refine fx_la 0 160 (v := 1186) (by decide +kernel) rfl (by decide +kernel) ?_
            refine fx_dup 161 (by decide +kernel) rfl (by decide) ?_
            refine fx_gi 1186 148 17 164 (by decide +kernel) ?_
            try simp only [fu_app, fcy_app, Nat.reduceEqDiff, and_true, and_false, false_and, true_and, if_true, if_false, ite_true, ite_false, reduceIte, Int.reduceToNat, fx_simp0]
            refine fx_li 1 165 (by decide +kernel) rfl ?_
            refine fx_zne 172 168 (by decide +kernel) (by unfold fR; omega) (fun h165 => ?_) (fun h165 => ?_)
            · refine fx_li 1 173 (by decide +kernel) rfl ?_
              refine fx_ci (1) 174 (by decide +kernel) ?_
              refine fx_ine 182 177 (by decide +kernel) (by unfold fR; omega) (by unfold fR; omega) (fun h174 => ?_) (fun h174 => ?_)
              · refine fx_ci (0) 183 (by decide +kernel) ?_
                refine fx_add 184 (by decide +kernel) rfl ?_
                rw [← fI_add]
                have rm := fop_R 0 (g 148 17) 0
                unfold fR at rm
                refine fx_pi 1186 148 17 187 (by decide +kernel) (by unfold fR; omega) ?_
                refine fx_vret (by decide +kernel) ?_
                first
                  | (exfalso; omega)
                  | (rw [if_neg (by omega)] at kq
                     first
                       | rw [if_pos (show g 148 18 ≠ 0 ∨ kd = 2 by omega)] at kq
                       | rw [if_neg (show ¬ (g 148 18 ≠ 0 ∨ kd = 2) by omega)] at kq
                     first
                       | rw [if_pos (show g 148 19 ≠ 0 ∨ kd = 2 by omega)] at kq
                       | rw [if_neg (show ¬ (g 148 19 ≠ 0 ∨ kd = 2) by omega)] at kq
                     first
                       | rw [if_pos (show kd = 0 by omega)] at kq
                       | rw [if_neg (show ¬ kd = 0 by omega), if_pos (show kd = 1 by omega)] at kq
                       | rw [if_neg (show ¬ kd = 0 by omega), if_neg (show ¬ kd = 1 by omega)] at kq
                     exact kq)
              · refine fx_li 2 178 (by decide +kernel) rfl ?_
                refine fx_ineg 179 (by decide +kernel) rfl ?_
                refine fx_go 183 (by decide +kernel) ?_
                refine fx_add 184 (by decide +kernel) rfl ?_
                rw [← fI_add]
                have rm := fop_R 0 (g 148 17) (-am)
                unfold fR at rm
                refine fx_pi 1186 148 17 187 (by decide +kernel) (by unfold fR; omega) ?_
                refine fx_vret (by decide +kernel) ?_
                first
                  | (exfalso; omega)
                  | (rw [if_neg (by omega)] at kq
                     first
                       | rw [if_pos (show g 148 18 ≠ 0 ∨ kd = 2 by omega)] at kq
                       | rw [if_neg (show ¬ (g 148 18 ≠ 0 ∨ kd = 2) by omega)] at kq
                     first
                       | rw [if_pos (show g 148 19 ≠ 0 ∨ kd = 2 by omega)] at kq
                       | rw [if_neg (show ¬ (g 148 19 ≠ 0 ∨ kd = 2) by omega)] at kq
                     first
                       | rw [if_pos (show kd = 0 by omega)] at kq
                       | rw [if_neg (show ¬ kd = 0 by omega), if_pos (show kd = 1 by omega)] at kq
                       | rw [if_neg (show ¬ kd = 0 by omega), if_neg (show ¬ kd = 1 by omega)] at kq
                     exact kq)
            · refine fx_li 2 169 (by decide +kernel) rfl ?_
              refine fx_go 183 (by decide +kernel) ?_
              refine fx_add 184 (by decide +kernel) rfl ?_
              rw [← fI_add]
              have rm := fop_R 0 (g 148 17) am
              unfold fR at rm
              refine fx_pi 1186 148 17 187 (by decide +kernel) (by unfold fR; omega) ?_
              refine fx_vret (by decide +kernel) ?_
              first
                | (exfalso; omega)
                | (rw [if_neg (by omega)] at kq
                   first
                     | rw [if_pos (show g 148 18 ≠ 0 ∨ kd = 2 by omega)] at kq
                     | rw [if_neg (show ¬ (g 148 18 ≠ 0 ∨ kd = 2) by omega)] at kq
                   first
                     | rw [if_pos (show g 148 19 ≠ 0 ∨ kd = 2 by omega)] at kq
                     | rw [if_neg (show ¬ (g 148 19 ≠ 0 ∨ kd = 2) by omega)] at kq
                   first
                     | rw [if_pos (show kd = 0 by omega)] at kq
                     | rw [if_neg (show ¬ kd = 0 by omega), if_pos (show kd = 1 by omega)] at kq
                     | rw [if_neg (show ¬ kd = 0 by omega), if_neg (show ¬ kd = 1 by omega)] at kq
                   exact kq)
          · refine fx_ci (1) 152 (by decide +kernel) ?_
            refine fx_go 156 (by decide +kernel) ?_
            refine fx_pb 1186 148 19 159 (by decide +kernel) (by first | exact Or.inl rfl | exact Or.inr rfl | omega) ?_
            refine fx_la 0 160 (v := 1186) (by decide +kernel) rfl (by decide +kernel) ?_
            refine fx_dup 161 (by decide +kernel) rfl (by decide) ?_
            refine fx_gi 1186 148 17 164 (by decide +kernel) ?_
            try simp only [fu_app, fcy_app, Nat.reduceEqDiff, and_true, and_false, false_and, true_and, if_true, if_false, ite_true, ite_false, reduceIte, Int.reduceToNat, fx_simp0]
            refine fx_li 1 165 (by decide +kernel) rfl ?_
            refine fx_zne 172 168 (by decide +kernel) (by unfold fR; omega) (fun h165 => ?_) (fun h165 => ?_)
            · refine fx_li 1 173 (by decide +kernel) rfl ?_
              refine fx_ci (1) 174 (by decide +kernel) ?_
              refine fx_ine 182 177 (by decide +kernel) (by unfold fR; omega) (by unfold fR; omega) (fun h174 => ?_) (fun h174 => ?_)
              · refine fx_ci (0) 183 (by decide +kernel) ?_
                refine fx_add 184 (by decide +kernel) rfl ?_
                rw [← fI_add]
                have rm := fop_R 0 (g 148 17) 0
                unfold fR at rm
                refine fx_pi 1186 148 17 187 (by decide +kernel) (by unfold fR; omega) ?_
                refine fx_vret (by decide +kernel) ?_
                first
                  | (exfalso; omega)
                  | (rw [if_neg (by omega)] at kq
                     first
                       | rw [if_pos (show g 148 18 ≠ 0 ∨ kd = 2 by omega)] at kq
                       | rw [if_neg (show ¬ (g 148 18 ≠ 0 ∨ kd = 2) by omega)] at kq
                     first
                       | rw [if_pos (show g 148 19 ≠ 0 ∨ kd = 2 by omega)] at kq
                       | rw [if_neg (show ¬ (g 148 19 ≠ 0 ∨ kd = 2) by omega)] at kq
                     first
                       | rw [if_pos (show kd = 0 by omega)] at kq
                       | rw [if_neg (show ¬ kd = 0 by omega), if_pos (show kd = 1 by omega)] at kq
                       | rw [if_neg (show ¬ kd = 0 by omega), if_neg (show ¬ kd = 1 by omega)] at kq
                     exact kq)
              · refine fx_li 2 178 (by decide +kernel) rfl ?_
                refine fx_ineg 179 (by decide +kernel) rfl ?_
                refine fx_go 183 (by decide +kernel) ?_
                refine fx_add 184 (by decide +kernel) rfl ?_
                rw [← fI_add]
                have rm := fop_R 0 (g 148 17) (-am)
                unfold fR at rm
                refine fx_pi 1186 148 17 187 (by decide +kernel) (by unfold fR; omega) ?_
                refine fx_vret (by decide +kernel) ?_
                first
                  | (exfalso; omega)
                  | (rw [if_neg (by omega)] at kq
                     first
                       | rw [if_pos (show g 148 18 ≠ 0 ∨ kd = 2 by omega)] at kq
                       | rw [if_neg (show ¬ (g 148 18 ≠ 0 ∨ kd = 2) by omega)] at kq
                     first
                       | rw [if_pos (show g 148 19 ≠ 0 ∨ kd = 2 by omega)] at kq
                       | rw [if_neg (show ¬ (g 148 19 ≠ 0 ∨ kd = 2) by omega)] at kq
                     first
                       | rw [if_pos (show kd = 0 by omega)] at kq
                       | rw [if_neg (show ¬ kd = 0 by omega), if_pos (show kd = 1 by omega)] at kq
                       | rw [if_neg (show ¬ kd = 0 by omega), if_neg (show ¬ kd = 1 by omega)] at kq
                     exact kq)
            · refine fx_li 2 169 (by decide +kernel) rfl ?_
              refine fx_go 183 (by decide +kernel) ?_
              refine fx_add 184 (by decide +kernel) rfl ?_
              rw [← fI_add]
              have rm := fop_R 0 (g 148 17) am
              unfold fR at rm
              refine fx_pi 1186 148 17 187 (by decide +kernel) (by unfold fR; omega) ?_
              refine fx_vret (by decide +kernel) ?_
              first
                | (exfalso; omega)
                | (rw [if_neg (by omega)] at kq
                   first
                     | rw [if_pos (show g 148 18 ≠ 0 ∨ kd = 2 by omega)] at kq
                     | rw [if_neg (show ¬ (g 148 18 ≠ 0 ∨ kd = 2) by omega)] at kq
                   first
                     | rw [if_pos (show g 148 19 ≠ 0 ∨ kd = 2 by omega)] at kq
                     | rw [if_neg (show ¬ (g 148 19 ≠ 0 ∨ kd = 2) by omega)] at kq
                   first
                     | rw [if_pos (show kd = 0 by omega)] at kq
                     | rw [if_neg (show ¬ kd = 0 by omega), if_pos (show kd = 1 by omega)] at kq
                     | rw [if_neg (show ¬ kd = 0 by omega), if_neg (show ¬ kd = 1 by omega)] at kq
                   exact kq)
      · refine fx_vret (by decide +kernel) ?_
        rw [if_pos (by omega), if_pos (Or.inr (by omega))] at kq; exact kq
end G5K
end
section
/-! fx: the reference reads the law: the text -/
/-- whether a line holds, by its own steps -/
noncomputable def lnV (F : Nat → Int) (d : List Int) : Int := if d = [] then 1 else (evS F d).getD 0 0
/-- all lines: the steps of each, kind, amount -/
noncomputable def pSeg (T : Int → Int) (E : Int) : Nat → Int → Int ⊕ List (List Int × Int × Int)
  | 0, f => Sum.inl f
  | n + 1, f => bS (pLL T E f []) (fun a => if a.1 = E then Sum.inr [a.2] else if T a.1 = 59 then bS (pSeg T E n (pSk T E (a.1 + 1))) (fun r => Sum.inr (a.2 :: r)) else Sum.inl a.1)
noncomputable def pLawR (T : Int → Int) (E : Int) : Int ⊕ List (List Int × Int × Int) := if pSk T E 0 = E then Sum.inr [] else pSeg T E 12 (pSk T E 0)
noncomputable def fSg (F : Nat → Int) (segs : List (List Int × Int × Int)) (g : Nat → Nat → Int) : Nat → Nat → Int := segs.foldl (fun g s => fLn s.2.1 s.2.2 (lnV F s.1) g) g
def rY (g0 g : Nat → Nat → Int) : Prop := ∀ c j, ¬ (c = 148 ∧ (j = 11 ∨ j = 12 ∨ j = 13 ∨ j = 17 ∨ j = 18 ∨ j = 19)) → g c j = g0 c j
theorem rY.rf {g : Nat → Nat → Int} : rY g g := fun _ _ _ => rfl
theorem rY.x {g0 g g' : Nat → Nat → Int} (h : rY g0 g) (h2 : rX g g') : rY g0 g' := fun c j a => by rw [h2 c j (by omega)]; exact h c j a
theorem rY.tr {g0 g g' : Nat → Nat → Int} (h : rY g0 g) (h2 : rY g g') : rY g0 g' := fun c j a => by rw [h2 c j a]; exact h c j a
theorem rY.ln {kd am b : Int} {g : Nat → Nat → Int} : rY g (fLn kd am b g) := fun c j a => fLn_x (by omega)
theorem RT_rX {T : Int → Int} {E : Int} {g0 g : Nat → Nat → Int} (h : RT T E g0) (hX : rX g0 g) : RT T E g := by
  obtain ⟨a1, a2, a3, a4, a5⟩ := h
  have fl : ∀ k, flt g k = flt g0 k := fun k => by
    unfold flt
    rw [hX 148 9 (by decide), hX 153 _ (fun t => absurd t.1 (by decide)), hX 149 _ (fun t => absurd t.1 (by decide))]
  exact ⟨by rw [hX 148 10 (by decide)]; exact a1, a2, a3, by rw [hX 148 9 (by decide)]; exact a4, fun k k0 k1 => by rw [fl]; exact a5 k k0 k1⟩
section G5L
variable {W : ax_W} {r : Nat} {g g0 : Nat → Nat → Int} {Q : Nat → Nat → (Nat → Nat → Int) → Prop} {T : Int → Int} {E f : Int}
theorem sp_rfig {lo hi dp : Int} (h : rwS T E g0 g f dp) (hlo : fR lo) (hhi : fR hi) (k1 : pN T E lo hi f → ∀ g', rwS T E g0 g' (pSk T E (pDg T E f)) dp → Q 1 (fI (pNu T E f)) g') (k2 : ¬ pN T E lo hi f → ∀ v g', rwF g0 g' f 400 dp → fR v → Q 1 (fI v) g') : fx W r 3 275 0 [1186, fI lo, fI hi, 7, 7] [] g Q := by
  have ok := h.ok
  have ok1 := ok.1
  have e := h.2.2.2.1
  have hE := h.1.2.2.1
  refine sp_figures h.1 h.2.2.2.2.1 h.2.1 h.2.2.1 hlo hhi (fun n => ?_) (fun n a v a0 aE rv => ?_)
  · rw [e] at n ⊢
    have w1 := pDg_ge T E f
    exact k1 n _ (h.to (by omega) (pDg_le ok.2.1))
  · rw [e] at n ⊢
    exact k2 n v _ ⟨fu_eq _ _ _ _, ok1, (h.2.2.2.2.2.2.a).f, by rw [fu_nj (by decide), fu_eq]; exact a0, by rw [fu_nj (by decide), fu_eq]; omega, by rw [fu_nj (by decide), fu_nj (by decide)]; exact h.2.2.2.2.2.1⟩ rv
theorem sp_mll_2 {kd am : Int} {R : Int ⊕ (Int × List Int × Int × Int)} (hP : g0 148 15 = 0 ∨ g0 148 15 = 1) (hT : g0 148 16 = 0 ∨ g0 148 16 = 1) (h : rwS T E g0 g f 0) (hk : kd = 0 ∨ kd = 1 ∨ kd = 2) (ha : 0 ≤ am ∧ am ≤ 999) (eR : pIf T E f [] kd am = R)
    (kq : ∀ f1 d b g', R = Sum.inr (f1, d, kd, am) → b = lnV (fF g0) d → rwS T E (fLn kd am b g0) g' f1 0 → Q 0 0 g') (kf : ∀ q g', R = Sum.inl q → rwF g0 g' q 408 0 → Q 0 0 g') : fx W r 33 273 81 [1186, fI kd, fI am, 7] [] g Q := by
  have ok := h.ok
  have ok2 := ok.2.1
  have hE := h.1.2.2.1
  unfold pIf at eR
  refine fx_la 0 82 (v := 1186) (by decide +kernel) rfl (by decide +kernel) ?_
  refine fx_lds 421 84 (by decide +kernel) ?_
  refine fx_c2 274 21 87 4 [7, 7] (by decide +kernel) (by decide) (by decide) (by decide) rfl (by first | decide | omega) ?_
  refine sp_rhas [105, 102] (by decide +kernel) h (fun t g1 s1 => fK1 ?_) (fun t g1 s1 _ => fK1 ?_)
  · refine fx_zeq 97 90 (by decide +kernel) (by unfold fR; omega) (fun hc => absurd hc (by decide)) (fun _ => ?_)
    refine fx_la 0 91 (v := 1186) (by decide +kernel) rfl (by decide +kernel) ?_
    refine fx_c1 277 21 94 32 [7, 7] (by decide +kernel) (by decide) rfl (by first | decide | omega) ?_
    rw [cif_t t] at eR
    have w := pOk_we ok
    have w1 := w.1
    have w2 := w.2.1
    refine sp_rS0 _ _ _ g0 _ _ [] 1300 hP hT s1 (by omega) (fun f3 d3 b g3 p3 s3 v3 b3 => fK1 ?_) (fun q b g3 p3 s3 b3 => fK1 ?_)
    have dn : lnV (fF g0) d3 = b := by
      have v4 : evS (fF g0) d3 = b :: [] := v3
      unfold lnV
      rw [if_neg (fun t => by rw [t] at v4; cases v4), v4]
      rfl
    · refine fx_zeq 101 97 (by decide +kernel) (by unfold fR; omega) (fun h94 => ?_) (fun h94 => ?_)
      · refine fx_ci (0) 102 (by decide +kernel) ?_
        refine fx_si 3 103 (by decide +kernel) (Or.inr (fI_n4 _)) rfl ?_
        dsimp only [List.set]
        refine fx_la 0 104 (v := 1186) (by decide +kernel) rfl (by decide +kernel) ?_
        refine fx_gi 1186 148 12 107 (by decide +kernel) ?_
        try simp only [fu_app, fcy_app, Nat.reduceEqDiff, and_true, and_false, false_and, true_and, if_true, if_false, ite_true, ite_false, reduceIte, Int.reduceToNat, fx_simp0]
        refine fx_rg (fun hg => ?_)
        have rf := hg 148 12 (by decide) (by decide +kernel) (by decide +kernel)
        unfold fR at rf
        refine fx_cn (-1) 108 (by decide +kernel) (fun v107 c107 => ?_)
        refine fx_ieq 112 111 (by decide +kernel) (by unfold fR; omega) (by unfold fR; omega) (fun h108 => ?_) (fun h108 => ?_)
        · rw [p3, bS_r] at eR
          first
            | exact sp_mll_3 hk ha (Or.inl rfl) (kq f3 d3 0 _ eR.symm (by omega) s3.ln)
            | exact sp_mll_3 hk ha (Or.inr rfl) (kq f3 d3 1 _ eR.symm (by omega) s3.ln)
        · refine fx_vret (by decide +kernel) ?_
          have q1 := s3.2.2.2.2.1
          exfalso; omega
      · refine fx_ci (1) 98 (by decide +kernel) ?_
        refine fx_go 102 (by decide +kernel) ?_
        refine fx_si 3 103 (by decide +kernel) (Or.inr (fI_n4 _)) rfl ?_
        dsimp only [List.set]
        refine fx_la 0 104 (v := 1186) (by decide +kernel) rfl (by decide +kernel) ?_
        refine fx_gi 1186 148 12 107 (by decide +kernel) ?_
        try simp only [fu_app, fcy_app, Nat.reduceEqDiff, and_true, and_false, false_and, true_and, if_true, if_false, ite_true, ite_false, reduceIte, Int.reduceToNat, fx_simp0]
        refine fx_rg (fun hg => ?_)
        have rf := hg 148 12 (by decide) (by decide +kernel) (by decide +kernel)
        unfold fR at rf
        refine fx_cn (-1) 108 (by decide +kernel) (fun v107 c107 => ?_)
        refine fx_ieq 112 111 (by decide +kernel) (by unfold fR; omega) (by unfold fR; omega) (fun h108 => ?_) (fun h108 => ?_)
        · rw [p3, bS_r] at eR
          first
            | exact sp_mll_3 hk ha (Or.inl rfl) (kq f3 d3 0 _ eR.symm (by omega) s3.ln)
            | exact sp_mll_3 hk ha (Or.inr rfl) (kq f3 d3 1 _ eR.symm (by omega) s3.ln)
        · refine fx_vret (by decide +kernel) ?_
          have q1 := s3.2.2.2.2.1
          exfalso; omega
    · refine fx_zeq 101 97 (by decide +kernel) (by unfold fR; omega) (fun h94 => ?_) (fun h94 => ?_)
      · refine fx_ci (0) 102 (by decide +kernel) ?_
        refine fx_si 3 103 (by decide +kernel) (Or.inr (fI_n4 _)) rfl ?_
        dsimp only [List.set]
        refine fx_la 0 104 (v := 1186) (by decide +kernel) rfl (by decide +kernel) ?_
        refine fx_gi 1186 148 12 107 (by decide +kernel) ?_
        try simp only [fu_app, fcy_app, Nat.reduceEqDiff, and_true, and_false, false_and, true_and, if_true, if_false, ite_true, ite_false, reduceIte, Int.reduceToNat, fx_simp0]
        refine fx_rg (fun hg => ?_)
        have rf := hg 148 12 (by decide) (by decide +kernel) (by decide +kernel)
        unfold fR at rf
        refine fx_cn (-1) 108 (by decide +kernel) (fun v107 c107 => ?_)
        refine fx_ieq 112 111 (by decide +kernel) (by unfold fR; omega) (by unfold fR; omega) (fun h108 => ?_) (fun h108 => ?_)
        · have q1 := s3.1
          have q2 := s3.2.1
          exfalso; omega
        · refine fx_vret (by decide +kernel) ?_
          exact kf q g3 (by rw [← eR, p3, bS_l]) s3
      · refine fx_ci (1) 98 (by decide +kernel) ?_
        refine fx_go 102 (by decide +kernel) ?_
        refine fx_si 3 103 (by decide +kernel) (Or.inr (fI_n4 _)) rfl ?_
        dsimp only [List.set]
        refine fx_la 0 104 (v := 1186) (by decide +kernel) rfl (by decide +kernel) ?_
        refine fx_gi 1186 148 12 107 (by decide +kernel) ?_
        try simp only [fu_app, fcy_app, Nat.reduceEqDiff, and_true, and_false, false_and, true_and, if_true, if_false, ite_true, ite_false, reduceIte, Int.reduceToNat, fx_simp0]
        refine fx_rg (fun hg => ?_)
        have rf := hg 148 12 (by decide) (by decide +kernel) (by decide +kernel)
        unfold fR at rf
        refine fx_cn (-1) 108 (by decide +kernel) (fun v107 c107 => ?_)
        refine fx_ieq 112 111 (by decide +kernel) (by unfold fR; omega) (by unfold fR; omega) (fun h108 => ?_) (fun h108 => ?_)
        · have q1 := s3.1
          have q2 := s3.2.1
          exfalso; omega
        · refine fx_vret (by decide +kernel) ?_
          exact kf q g3 (by rw [← eR, p3, bS_l]) s3
  · refine fx_zeq 97 90 (by decide +kernel) (by unfold fR; omega) (fun _ => ?_) (fun hc => absurd hc (by decide))
    refine fx_ci (1) 98 (by decide +kernel) ?_
    refine fx_go 102 (by decide +kernel) ?_
    refine fx_si 3 103 (by decide +kernel) (Or.inr (fI_n4 _)) rfl ?_
    dsimp only [List.set]
    refine fx_la 0 104 (v := 1186) (by decide +kernel) rfl (by decide +kernel) ?_
    refine fx_gi 1186 148 12 107 (by decide +kernel) ?_
    try simp only [fu_app, fcy_app, Nat.reduceEqDiff, and_true, and_false, false_and, true_and, if_true, if_false, ite_true, ite_false, reduceIte, Int.reduceToNat, fx_simp0]
    refine fx_rg (fun hg => ?_)
    have rf := hg 148 12 (by decide) (by decide +kernel) (by decide +kernel)
    unfold fR at rf
    refine fx_cn (-1) 108 (by decide +kernel) (fun v107 c107 => ?_)
    refine fx_ieq 112 111 (by decide +kernel) (by unfold fR; omega) (by unfold fR; omega) (fun h108 => ?_) (fun h108 => ?_)
    · rw [cif_f t] at eR
      exact sp_mll_3 hk ha (Or.inr rfl) (kq f [] 1 _ eR.symm (by unfold lnV; rw [if_pos rfl]) s1.ln)
    · refine fx_vret (by decide +kernel) ?_
      have q1 := s1.2.2.2.2.1
      exfalso; omega
theorem sp_mlawLine (hP : g0 148 15 = 0 ∨ g0 148 15 = 1) (hT : g0 148 16 = 0 ∨ g0 148 16 = 1) (h : rwS T E g0 g f 0)
    (kq : ∀ f1 d kd am b g', pLL T E f [] = Sum.inr (f1, d, kd, am) → b = lnV (fF g0) d → rwS T E (fLn kd am b g0) g' f1 0 → Q 0 0 g') (kf : ∀ q g', pLL T E f [] = Sum.inl q → rwF g0 g' q 408 0 → Q 0 0 g') : fx W r 33 273 0 [1186, 7, 7, 7] [] g Q := by
  have ok := h.ok
  have ok1 := ok.1
  have ok2 := ok.2.1
  have hE := h.1.2.2.1
  have num : ∀ k : Int, pKind T E f = k → k ≠ -1 → k ≠ 2 → pN T E 0 30 (pSk T E (pWe T E f)) → pLL T E f [] = pIf T E (pSk T E (pDg T E (pSk T E (pWe T E f)))) [] k (pNu T E (pSk T E (pWe T E f))) := fun k e n1 n2 t => by
    unfold pLL
    rw [cif_f (by omega), cif_f (by omega), cif_t t, e]
  have nof : ∀ k : Int, pKind T E f = k → k ≠ -1 → k ≠ 2 → ¬ pN T E 0 30 (pSk T E (pWe T E f)) → pLL T E f [] = Sum.inl (pSk T E (pWe T E f)) := fun k e n1 n2 t => by
    unfold pLL
    rw [cif_f (by omega), cif_f (by omega), cif_f t]
  refine fx_la 0 1 (v := 1186) (by decide +kernel) rfl (by decide +kernel) ?_
  refine fx_lds 397 3 (by decide +kernel) ?_
  refine fx_c2 274 21 6 4 [7, 7] (by decide +kernel) (by decide) (by decide) (by decide) rfl (by first | decide | omega) ?_
  refine sp_rhas [109, 111, 114, 101] (by decide +kernel) h (fun t1 g1 s1 => fK1 ?_) (fun t1 g1 s1 _ => fK1 ?_)
  · have eK : pKind T E f = 0 := cif_t t1
    refine fx_zeq 13 9 (by decide +kernel) (by unfold fR; omega) (fun hc => absurd hc (by decide)) (fun _ => ?_)
    refine fx_ci (0) 10 (by decide +kernel) ?_
    refine fx_go 40 (by decide +kernel) ?_
    refine fx_si 1 41 (by decide +kernel) (Or.inr (f_n4p (v := 1186) rfl (by decide))) rfl ?_
    dsimp only [List.set]
    refine fx_li 1 42 (by decide +kernel) rfl ?_
    refine fx_ci (-1) 43 (by decide +kernel) ?_
    refine fx_ine 55 46 (by decide +kernel) (by unfold fR; omega) (by unfold fR; omega) (fun _ => ?_) (fun hc => absurd hc (by decide))
    refine fx_li 1 56 (by decide +kernel) rfl ?_
    refine fx_ci (2) 57 (by decide +kernel) ?_
    refine fx_ine 64 60 (by decide +kernel) (by unfold fR; omega) (by unfold fR; omega) (fun _ => ?_) (fun hc => absurd hc (by decide))
    refine fx_la 0 65 (v := 1186) (by decide +kernel) rfl (by decide +kernel) ?_
    refine fx_ci (0) 66 (by decide +kernel) ?_
    refine fx_ci (30) 68 (by decide +kernel) ?_
    refine fx_c3 275 21 71 3 [7, 7] (by decide +kernel) (by decide) (by decide) (fI_n4 _) (fI_n4 _) rfl (by first | decide | omega) ?_
    refine sp_rfig s1 (by unfold fR; omega) (by unfold fR; omega) (fun t g5 s5 => fK1 ?_) (fun t v g5 s5 rv => fK1 ?_)
    have nb : 0 ≤ pNu T E (pSk T E (pWe T E f)) ∧ pNu T E (pSk T E (pWe T E f)) ≤ 30 := ⟨t.2.2.1, t.2.2.2⟩
    · refine fx_si 2 72 (by decide +kernel) (Or.inr (fI_n4 _)) rfl ?_
      dsimp only [List.set]
      refine fx_la 0 73 (v := 1186) (by decide +kernel) rfl (by decide +kernel) ?_
      refine fx_gi 1186 148 12 76 (by decide +kernel) ?_
      try simp only [fu_app, fcy_app, Nat.reduceEqDiff, and_true, and_false, false_and, true_and, if_true, if_false, ite_true, ite_false, reduceIte, Int.reduceToNat, fx_simp0]
      refine fx_rg (fun hg => ?_)
      have rf := hg 148 12 (by decide) (by decide +kernel) (by decide +kernel)
      unfold fR at rf
      refine fx_cn (-1) 77 (by decide +kernel) (fun v76 c76 => ?_)
      refine fx_ieq 81 80 (by decide +kernel) (by unfold fR; omega) (by unfold fR; omega) (fun h77 => ?_) (fun h77 => ?_)
      · exact sp_mll_2 hP hT s5 (by first | exact Or.inl rfl | exact Or.inr (Or.inl rfl)) (by omega) (num _ eK (by decide) (by decide) t).symm (fun f1 d b g' p1 p2 p3 => kq f1 d _ _ b g' p1 p2 p3) (fun q g' p1 p2 => kf q g' p1 p2)
      · refine fx_vret (by decide +kernel) ?_
        have q1 := s5.2.2.2.2.1
        exfalso; omega
    · refine fx_si 2 72 (by decide +kernel) (Or.inr (fI_n4 _)) rfl ?_
      dsimp only [List.set]
      refine fx_la 0 73 (v := 1186) (by decide +kernel) rfl (by decide +kernel) ?_
      refine fx_gi 1186 148 12 76 (by decide +kernel) ?_
      try simp only [fu_app, fcy_app, Nat.reduceEqDiff, and_true, and_false, false_and, true_and, if_true, if_false, ite_true, ite_false, reduceIte, Int.reduceToNat, fx_simp0]
      refine fx_rg (fun hg => ?_)
      have rf := hg 148 12 (by decide) (by decide +kernel) (by decide +kernel)
      unfold fR at rf
      refine fx_cn (-1) 77 (by decide +kernel) (fun v76 c76 => ?_)
      refine fx_ieq 81 80 (by decide +kernel) (by unfold fR; omega) (by unfold fR; omega) (fun h77 => ?_) (fun h77 => ?_)
      · have q1 := s5.1
        have q2 := s5.2.1
        exfalso; omega
      · refine fx_vret (by decide +kernel) ?_
        exact kf _ g5 (nof _ eK (by decide) (by decide) t) ⟨s5.1, s5.2.1, s5.2.2.1, s5.2.2.2.1, by have := s5.2.2.2.2.1; omega, s5.2.2.2.2.2⟩
  · refine fx_zeq 13 9 (by decide +kernel) (by unfold fR; omega) (fun _ => ?_) (fun hc => absurd hc (by decide))
    refine fx_la 0 14 (v := 1186) (by decide +kernel) rfl (by decide +kernel) ?_
    refine fx_lds 405 16 (by decide +kernel) ?_
    refine fx_c2 274 21 19 4 [7, 7] (by decide +kernel) (by decide) (by decide) (by decide) rfl (by first | decide | omega) ?_
    refine sp_rhas [108, 101, 115, 115] (by decide +kernel) s1 (fun t2 g2 s2 => fK1 ?_) (fun t2 g2 s2 _ => fK1 ?_)
    · have eK : pKind T E f = 1 := (cif_f t1).trans (cif_t t2)
      refine fx_zeq 26 22 (by decide +kernel) (by unfold fR; omega) (fun hc => absurd hc (by decide)) (fun _ => ?_)
      refine fx_ci (1) 23 (by decide +kernel) ?_
      refine fx_go 40 (by decide +kernel) ?_
      refine fx_si 1 41 (by decide +kernel) (Or.inr (f_n4p (v := 1186) rfl (by decide))) rfl ?_
      dsimp only [List.set]
      refine fx_li 1 42 (by decide +kernel) rfl ?_
      refine fx_ci (-1) 43 (by decide +kernel) ?_
      refine fx_ine 55 46 (by decide +kernel) (by unfold fR; omega) (by unfold fR; omega) (fun _ => ?_) (fun hc => absurd hc (by decide))
      refine fx_li 1 56 (by decide +kernel) rfl ?_
      refine fx_ci (2) 57 (by decide +kernel) ?_
      refine fx_ine 64 60 (by decide +kernel) (by unfold fR; omega) (by unfold fR; omega) (fun _ => ?_) (fun hc => absurd hc (by decide))
      refine fx_la 0 65 (v := 1186) (by decide +kernel) rfl (by decide +kernel) ?_
      refine fx_ci (0) 66 (by decide +kernel) ?_
      refine fx_ci (30) 68 (by decide +kernel) ?_
      refine fx_c3 275 21 71 3 [7, 7] (by decide +kernel) (by decide) (by decide) (fI_n4 _) (fI_n4 _) rfl (by first | decide | omega) ?_
      refine sp_rfig s2 (by unfold fR; omega) (by unfold fR; omega) (fun t g5 s5 => fK1 ?_) (fun t v g5 s5 rv => fK1 ?_)
      have nb : 0 ≤ pNu T E (pSk T E (pWe T E f)) ∧ pNu T E (pSk T E (pWe T E f)) ≤ 30 := ⟨t.2.2.1, t.2.2.2⟩
      · refine fx_si 2 72 (by decide +kernel) (Or.inr (fI_n4 _)) rfl ?_
        dsimp only [List.set]
        refine fx_la 0 73 (v := 1186) (by decide +kernel) rfl (by decide +kernel) ?_
        refine fx_gi 1186 148 12 76 (by decide +kernel) ?_
        try simp only [fu_app, fcy_app, Nat.reduceEqDiff, and_true, and_false, false_and, true_and, if_true, if_false, ite_true, ite_false, reduceIte, Int.reduceToNat, fx_simp0]
        refine fx_rg (fun hg => ?_)
        have rf := hg 148 12 (by decide) (by decide +kernel) (by decide +kernel)
        unfold fR at rf
        refine fx_cn (-1) 77 (by decide +kernel) (fun v76 c76 => ?_)
        refine fx_ieq 81 80 (by decide +kernel) (by unfold fR; omega) (by unfold fR; omega) (fun h77 => ?_) (fun h77 => ?_)
        · exact sp_mll_2 hP hT s5 (by first | exact Or.inl rfl | exact Or.inr (Or.inl rfl)) (by omega) (num _ eK (by decide) (by decide) t).symm (fun f1 d b g' p1 p2 p3 => kq f1 d _ _ b g' p1 p2 p3) (fun q g' p1 p2 => kf q g' p1 p2)
        · refine fx_vret (by decide +kernel) ?_
          have q1 := s5.2.2.2.2.1
          exfalso; omega
      · refine fx_si 2 72 (by decide +kernel) (Or.inr (fI_n4 _)) rfl ?_
        dsimp only [List.set]
        refine fx_la 0 73 (v := 1186) (by decide +kernel) rfl (by decide +kernel) ?_
        refine fx_gi 1186 148 12 76 (by decide +kernel) ?_
        try simp only [fu_app, fcy_app, Nat.reduceEqDiff, and_true, and_false, false_and, true_and, if_true, if_false, ite_true, ite_false, reduceIte, Int.reduceToNat, fx_simp0]
        refine fx_rg (fun hg => ?_)
        have rf := hg 148 12 (by decide) (by decide +kernel) (by decide +kernel)
        unfold fR at rf
        refine fx_cn (-1) 77 (by decide +kernel) (fun v76 c76 => ?_)
        refine fx_ieq 81 80 (by decide +kernel) (by unfold fR; omega) (by unfold fR; omega) (fun h77 => ?_) (fun h77 => ?_)
        · have q1 := s5.1
          have q2 := s5.2.1
          exfalso; omega
        · refine fx_vret (by decide +kernel) ?_
          exact kf _ g5 (nof _ eK (by decide) (by decide) t) ⟨s5.1, s5.2.1, s5.2.2.1, s5.2.2.2.1, by have := s5.2.2.2.2.1; omega, s5.2.2.2.2.2⟩
    · refine fx_zeq 26 22 (by decide +kernel) (by unfold fR; omega) (fun _ => ?_) (fun hc => absurd hc (by decide))
      refine fx_la 0 27 (v := 1186) (by decide +kernel) rfl (by decide +kernel) ?_
      refine fx_lds 413 29 (by decide +kernel) ?_
      refine fx_c2 274 21 32 4 [7, 7] (by decide +kernel) (by decide) (by decide) (by decide) rfl (by first | decide | omega) ?_
      refine sp_rhas [111, 102, 102] (by decide +kernel) s2 (fun t3 g3 s3 => fK1 ?_) (fun t3 g3 s3 a3 => fK1 ?_)
      · have eK : pKind T E f = 2 := (cif_f t1).trans ((cif_f t2).trans (cif_t t3))
        refine fx_zeq 39 35 (by decide +kernel) (by unfold fR; omega) (fun hc => absurd hc (by decide)) (fun _ => ?_)
        refine fx_ci (2) 36 (by decide +kernel) ?_
        refine fx_go 40 (by decide +kernel) ?_
        refine fx_si 1 41 (by decide +kernel) (Or.inr (f_n4p (v := 1186) rfl (by decide))) rfl ?_
        dsimp only [List.set]
        refine fx_li 1 42 (by decide +kernel) rfl ?_
        refine fx_ci (-1) 43 (by decide +kernel) ?_
        refine fx_ine 55 46 (by decide +kernel) (by unfold fR; omega) (by unfold fR; omega) (fun _ => ?_) (fun hc => absurd hc (by decide))
        refine fx_li 1 56 (by decide +kernel) rfl ?_
        refine fx_ci (2) 57 (by decide +kernel) ?_
        refine fx_ine 64 60 (by decide +kernel) (by unfold fR; omega) (by unfold fR; omega) (fun hc => absurd hc (by decide)) (fun _ => ?_)
        refine fx_ci (0) 61 (by decide +kernel) ?_
        refine fx_go 71 (by decide +kernel) ?_
        refine fx_si 2 72 (by decide +kernel) (Or.inr (fI_n4 _)) rfl ?_
        dsimp only [List.set]
        refine fx_la 0 73 (v := 1186) (by decide +kernel) rfl (by decide +kernel) ?_
        refine fx_gi 1186 148 12 76 (by decide +kernel) ?_
        try simp only [fu_app, fcy_app, Nat.reduceEqDiff, and_true, and_false, false_and, true_and, if_true, if_false, ite_true, ite_false, reduceIte, Int.reduceToNat, fx_simp0]
        refine fx_rg (fun hg => ?_)
        have rf := hg 148 12 (by decide) (by decide +kernel) (by decide +kernel)
        unfold fR at rf
        refine fx_cn (-1) 77 (by decide +kernel) (fun v76 c76 => ?_)
        refine fx_ieq 81 80 (by decide +kernel) (by unfold fR; omega) (by unfold fR; omega) (fun h77 => ?_) (fun h77 => ?_)
        · exact sp_mll_2 hP hT s3 (Or.inr (Or.inr rfl)) (by omega) (show pIf T E (pSk T E (pWe T E f)) [] 2 0 = pLL T E f [] by unfold pLL; rw [cif_f (by omega), cif_t eK]) (fun f1 d b g' p1 p2 p3 => kq f1 d _ _ b g' p1 p2 p3) (fun q g' p1 p2 => kf q g' p1 p2)
        · refine fx_vret (by decide +kernel) ?_
          have q1 := s3.2.2.2.2.1
          exfalso; omega
      · refine fx_zeq 39 35 (by decide +kernel) (by unfold fR; omega) (fun _ => ?_) (fun hc => absurd hc (by decide))
        refine fx_cn (-1) 40 (by decide +kernel) (fun v39 c39 => ?_)
        refine fx_si 1 41 (by decide +kernel) (Or.inr (f_n4p (v := 1186) rfl (by decide))) rfl ?_
        dsimp only [List.set]
        refine fx_li 1 42 (by decide +kernel) rfl ?_
        refine fx_ci (-1) 43 (by decide +kernel) ?_
        refine fx_ine 55 46 (by decide +kernel) (by unfold fR; omega) (by unfold fR; omega) (fun h43 => ?_) (fun h43 => ?_)
        · exfalso; omega
        · refine fx_la 0 47 (v := 1186) (by decide +kernel) rfl (by decide +kernel) ?_
          refine fx_la 0 48 (v := 1186) (by decide +kernel) rfl (by decide +kernel) ?_
          refine fx_gi 1186 148 11 51 (by decide +kernel) ?_
          try simp only [fu_app, fcy_app, Nat.reduceEqDiff, and_true, and_false, false_and, true_and, if_true, if_false, ite_true, ite_false, reduceIte, Int.reduceToNat, fx_simp0]
          rw [a3]
          refine fx_c2 272 21 54 0 [] (by decide +kernel) (by decide) (by decide) (fI_n4 _) rfl (by first | decide | omega) ?_
          refine sp_wrong s3.2.2.2.2.1 (by unfold fR; omega) (fK0 ?_)
          refine fx_vret (by decide +kernel) ?_
          exact kf f _ (by unfold pLL pKind; rw [cif_t (by rw [cif_f t1, cif_f t2, cif_f t3])]) ⟨fu_eq _ _ _ _, ok1, s3.2.2.2.2.2.2.f, by rw [fu_nj (by decide), a3]; exact ok1, by rw [fu_nj (by decide), a3]; omega, by rw [fu_nj (by decide)]; exact s3.2.2.2.2.2.1⟩
end G5L
end
section
/-! fx: the reference reads the law: all lines, law() -/
theorem pSk_hi {T : Int → Int} {E i : Int} (h : E ≤ i) : pSk T E i = i := by
  show prun _ E i = i
  unfold prun
  rw [show (E - i).toNat = 0 by omega]
  rfl
section G5M
variable {W : ax_W} {r : Nat} {Q : Nat → Nat → (Nat → Nat → Int) → Prop} {T : Int → Int} {E : Int}
theorem sp_rdL_0 {g : Nat → Nat → Int} {n : Int} (kq : Q 1 (fI n) g) : fx W r 34 269 23 [1186, fI 1, fI 0, fI n] [] g Q := by
  refine fx_li 2 24 (by decide +kernel) rfl ?_
  refine fx_zeq 144 27 (by decide +kernel) (by unfold fR; omega) (fun _ => ?_) (fun hc => absurd hc (by decide))
  refine fx_li 3 145 (by decide +kernel) rfl ?_
  refine fx_ret (by decide +kernel) ?_
  exact kq
/-- a wrong byte was told: the end -/
theorem sp_rdL_f {g gs : Nat → Nat → Int} {n q B : Int} (hR : RT T E gs) (h : rwF gs g q B 0) (kq : ∀ g', rX g g' → g' 148 12 = q → Q 1 (fI (n + 1)) g') : fx W r 34 269 80 [1186, fI 1, fI 1, fI n] [] g Q := by
  obtain ⟨h1, h2, h3, h4, h5, h6⟩ := h
  have hRg := RT_rX hR h3
  refine fx_inc 3 83 (1) (by decide +kernel) rfl (Or.inr (fI_n4 _)) rfl ?_
  dsimp only [List.set]
  refine fx_la 0 84 (v := 1186) (by decide +kernel) rfl (by decide +kernel) ?_
  refine fx_c1 270 21 87 1 [] (by decide +kernel) (by decide) rfl (by first | decide | omega) ?_
  refine sp_skip hRg h4 (fK0 ?_)
  refine fx_la 0 88 (v := 1186) (by decide +kernel) rfl (by decide +kernel) ?_
  refine fx_gi 1186 148 12 91 (by decide +kernel) ?_
  try simp only [fu_app, fcy_app, Nat.reduceEqDiff, and_true, and_false, false_and, true_and, if_true, if_false, ite_true, ite_false, reduceIte, Int.reduceToNat, fx_simp0]
  refine fx_rg (fun hg => ?_)
  have rf := hg 148 12 (by decide) (by decide +kernel) (by decide +kernel)
  rw [fu_nj (by decide)] at rf
  unfold fR at rf
  refine fx_cn (-1) 92 (by decide +kernel) (fun v91 c91 => ?_)
  refine fx_ine 106 95 (by decide +kernel) (by unfold fR; omega) (by unfold fR; omega) (fun h92 => ?_) (fun h92 => ?_)
  · refine fx_ci (0) 107 (by decide +kernel) ?_
    refine fx_si 2 108 (by decide +kernel) (Or.inr (fI_n4 _)) rfl ?_
    dsimp only [List.set]
    refine fx_go 23 (by decide +kernel) ?_
    exact sp_rdL_0 (kq _ (rX.a rX.rf) (by rw [fu_nj (by decide)]; exact h1))
  · exfalso; omega
theorem sp_rdL {F : Nat → Int} : ∀ (left n : Nat) (f : Int) (gs g : Nat → Nat → Int), n + left = 12 → fF gs = F → (gs 148 15 = 0 ∨ gs 148 15 = 1) → (gs 148 16 = 0 ∨ gs 148 16 = 1) → rwS T E gs g f 0 →
    (∀ segs, pSeg T E left f = Sum.inr segs → ∀ g', rX (fSg F segs gs) g' → g' 148 12 = -1 → Q 1 (fI ((n : Int) + segs.length)) g') →
    (∀ q, pSeg T E left f = Sum.inl q → ∀ v g', rY gs g' → g' 148 12 = q → 0 ≤ q → Q 1 (fI v) g') → fx W r 34 269 23 [1186, fI 1, fI 1, fI (n : Int)] [] g Q
  | left, n, f, gs, g, hn, hF, hP, hT, h, k1, k2 => by
    have ok := h.ok
    have ok1 := ok.1
    have ok2 := ok.2.1
    have hE := h.1.2.2.1
    have hf := h.2.2.2.2.1
    have hR0 : RT T E gs := RT_rX h.1 (fun c j a => (h.2.2.2.2.2.2 c j a).symm)
    refine fx_li 2 24 (by decide +kernel) rfl ?_
    refine fx_zeq 144 27 (by decide +kernel) (by unfold fR; omega) (fun hc => absurd hc (by decide)) (fun _ => ?_)
    refine fx_la 0 28 (v := 1186) (by decide +kernel) rfl (by decide +kernel) ?_
    refine fx_gi 1186 148 12 31 (by decide +kernel) ?_
    refine fx_cn (-1) 32 (by decide +kernel) (fun v31 c31 => ?_)
    refine fx_ine 144 35 (by decide +kernel) (by first | exact hg 148 12 (by decide) (by decide +kernel) (by decide +kernel) | (unfold fR; omega)) (by unfold fR; omega) (fun h32 => ?_) (fun h32 => ?_)
    · exfalso; omega
    · refine fx_la 0 36 (v := 1186) (by decide +kernel) rfl (by decide +kernel) ?_
      refine fx_c1 270 21 39 1 [] (by decide +kernel) (by decide) rfl (by first | decide | omega) ?_
      refine sp_skip h.1 h.2.1 (fK0 ?_)
      rw [h.2.2.2.1]
      refine fx_li 3 40 (by decide +kernel) rfl ?_
      refine fx_li 1 41 (by decide +kernel) rfl ?_
      refine fx_zeq 49 44 (by decide +kernel) (by unfold fR; omega) (fun hc => absurd hc (by decide)) (fun _ => ?_)
      refine fx_ci (12) 46 (by decide +kernel) ?_
      refine fx_go 51 (by decide +kernel) ?_
      refine fx_ine 65 54 (by decide +kernel) (by unfold fR; omega) (by unfold fR; omega) (fun h51 => ?_) (fun h51 => ?_)
      · refine fx_li 1 66 (by decide +kernel) rfl ?_
        refine fx_zeq 76 69 (by decide +kernel) (by unfold fR; omega) (fun hc => absurd hc (by decide)) (fun _ => ?_)
        refine fx_la 0 70 (v := 1186) (by decide +kernel) rfl (by decide +kernel) ?_
        refine fx_c1 273 21 73 33 [7, 7, 7] (by decide +kernel) (by decide) rfl (by first | decide | omega) ?_
        have e : ∃ l, left = l + 1 := ⟨left - 1, by omega⟩
        obtain ⟨l, rfl⟩ := e
        refine sp_mlawLine hP hT h.id (fun f1 d kd am b g1 p1 pb s1 => fK0 ?_) (fun q g1 p1 s1 => fK0 ?_)
        have eR1 : pSeg T E (l + 1) f = if f1 = E then Sum.inr [(d, kd, am)] else if T f1 = 59 then bS (pSeg T E l (pSk T E (f1 + 1))) (fun r => Sum.inr ((d, kd, am) :: r)) else Sum.inl f1 := by
          show bS (pLL T E f []) _ = _
          rw [p1, bS_r]
        have o := pLL_ok p1 ok (by show (0 : Int) ≤ f; exact ok1)
        have o1 := o.1.1
        have o2 := o.1.2.1
        have s1e := s1.2.2.2.1
        have s1f := s1.2.2.2.2.1
        have s1E := s1.1.1
        rw [hF] at pb
        subst pb
        · refine fx_go 80 (by decide +kernel) ?_
          refine fx_inc 3 83 (1) (by decide +kernel) rfl (Or.inr (fI_n4 _)) rfl ?_
          dsimp only [List.set]
          refine fx_la 0 84 (v := 1186) (by decide +kernel) rfl (by decide +kernel) ?_
          refine fx_c1 270 21 87 1 [] (by decide +kernel) (by decide) rfl (by first | decide | omega) ?_
          refine sp_skip s1.1 s1.2.1 (fK0 ?_)
          rw [s1e]
          have s2 := s1.id
          refine fx_la 0 88 (v := 1186) (by decide +kernel) rfl (by decide +kernel) ?_
          refine fx_gi 1186 148 12 91 (by decide +kernel) ?_
          try simp only [fu_app, fcy_app, Nat.reduceEqDiff, and_true, and_false, false_and, true_and, if_true, if_false, ite_true, ite_false, reduceIte, Int.reduceToNat, fx_simp0]
          rw [s1f]
          refine fx_ci (-1) 92 (by decide +kernel) ?_
          refine fx_ine 106 95 (by decide +kernel) (by unfold fR; omega) (by unfold fR; omega) (fun h92 => ?_) (fun h92 => ?_)
          · exfalso; omega
          · refine fx_la 0 96 (v := 1186) (by decide +kernel) rfl (by decide +kernel) ?_
            refine fx_gi 1186 148 11 99 (by decide +kernel) ?_
            try simp only [fu_app, fcy_app, Nat.reduceEqDiff, and_true, and_false, false_and, true_and, if_true, if_false, ite_true, ite_false, reduceIte, Int.reduceToNat, fx_simp0]
            refine fx_la 0 100 (v := 1186) (by decide +kernel) rfl (by decide +kernel) ?_
            refine fx_gi 1186 148 10 103 (by decide +kernel) ?_
            try simp only [fu_app, fcy_app, Nat.reduceEqDiff, and_true, and_false, false_and, true_and, if_true, if_false, ite_true, ite_false, reduceIte, Int.reduceToNat, fx_simp0]
            refine fx_ine 111 106 (by decide +kernel) (by unfold fR; omega) (by unfold fR; omega) (fun h103 => ?_) (fun h103 => ?_)
            · refine fx_la 0 112 (v := 1186) (by decide +kernel) rfl (by decide +kernel) ?_
              refine fx_ci (59) 114 (by decide +kernel) ?_
              refine fx_c2 280 21 117 2 [] (by decide +kernel) (by decide) (by decide) (fI_n4 _) rfl (by first | decide | omega) ?_
              refine sp_rsign s2 (by unfold fR; omega) (fun t g3 s3 a3 => fK1 ?_) (fun t g3 s3 a3 => fK1 ?_)
              · refine fx_zeq 133 120 (by decide +kernel) (by unfold fR; omega) (fun hc => absurd hc (by decide)) (fun _ => ?_)
                refine fx_la 0 121 (v := 1186) (by decide +kernel) rfl (by decide +kernel) ?_
                refine fx_dup 122 (by decide +kernel) rfl (by decide) ?_
                refine fx_gi 1186 148 11 125 (by decide +kernel) ?_
                try simp only [fu_app, fcy_app, Nat.reduceEqDiff, and_true, and_false, false_and, true_and, if_true, if_false, ite_true, ite_false, reduceIte, Int.reduceToNat, fx_simp0]
                rw [a3]
                refine fx_ci (1) 126 (by decide +kernel) ?_
                refine fx_add 127 (by decide +kernel) rfl ?_
                refine fx_pi 1186 148 11 130 (by decide +kernel) (by unfold fR; omega) ?_
                refine fx_go 23 (by decide +kernel) ?_
                rw [if_neg (by omega), if_pos t.2] at eR1
                have fE := t.1
                have s4 := s3.to (a := f1 + 1) (by omega) (by omega)
                refine sp_rdL (F := F) l (n + 1) (pSk T E (f1 + 1)) (fLn kd am (lnV F d) gs) _ (by omega) (by rw [fLn_F]; exact hF) (by rw [fLn_x (by decide)]; exact hP) (by rw [fLn_x (by decide)]; exact hT) s4 (fun segs p g' x1 x2 => ?_) (fun q p v g' x1 x2 x3 => ?_)
                · rw [p, bS_r] at eR1
                  have kk := k1 _ eR1 g' x1 x2
                  rw [show ((n : Int) + (((d, kd, am) :: segs).length : Nat)) = ((n + 1 : Nat) : Int) + (segs.length : Nat) by rw [List.length_cons] <;> omega] at kk
                  exact kk
                · rw [p, bS_l] at eR1
                  exact k2 q eR1 v g' (rY.ln.tr x1) x2 x3
              · refine fx_zeq 133 120 (by decide +kernel) (by unfold fR; omega) (fun _ => ?_) (fun hc => absurd hc (by decide))
                refine fx_la 0 134 (v := 1186) (by decide +kernel) rfl (by decide +kernel) ?_
                refine fx_la 0 135 (v := 1186) (by decide +kernel) rfl (by decide +kernel) ?_
                refine fx_gi 1186 148 11 138 (by decide +kernel) ?_
                try simp only [fu_app, fcy_app, Nat.reduceEqDiff, and_true, and_false, false_and, true_and, if_true, if_false, ite_true, ite_false, reduceIte, Int.reduceToNat, fx_simp0]
                rw [a3]
                refine fx_c2 272 21 141 0 [] (by decide +kernel) (by decide) (by decide) (fI_n4 _) rfl (by first | decide | omega) ?_
                refine sp_wrong s3.2.2.2.2.1 (by unfold fR; omega) (fK0 ?_)
                refine fx_go 23 (by decide +kernel) ?_
                rw [if_neg (by omega), if_neg (fun u => t ⟨by omega, u⟩)] at eR1
                refine fx_rg (fun hg => ?_)
                refine fx_li 2 24 (by decide +kernel) rfl ?_
                refine fx_zeq 144 27 (by decide +kernel) (by unfold fR; omega) (fun hc => absurd hc (by decide)) (fun _ => ?_)
                refine fx_la 0 28 (v := 1186) (by decide +kernel) rfl (by decide +kernel) ?_
                refine fx_gi 1186 148 12 31 (by decide +kernel) ?_
                refine fx_cn (-1) 32 (by decide +kernel) (fun v31 c31 => ?_)
                refine fx_ine 144 35 (by decide +kernel) (by first | exact hg 148 12 (by decide) (by decide +kernel) (by decide +kernel) | (unfold fR; omega)) (by unfold fR; omega) (fun h32 => ?_) (fun h32 => ?_)
                · refine fx_li 3 145 (by decide +kernel) rfl ?_
                  refine fx_ret (by decide +kernel) ?_
                  exact k2 f1 eR1 _ _ ((rY.ln.x s3.2.2.2.2.2.2).x (rX.f rX.rf)) (fu_eq _ _ _ _) o1
                · rw [fu_eq] at h32
                  exfalso; omega
            · refine fx_ci (0) 107 (by decide +kernel) ?_
              refine fx_si 2 108 (by decide +kernel) (Or.inr (fI_n4 _)) rfl ?_
              dsimp only [List.set]
              refine fx_go 23 (by decide +kernel) ?_
              rw [if_pos (by omega)] at eR1
              refine sp_rdL_0 ?_
              have kk := k1 _ eR1 (fu g1 148 11 f1) (s1.2.2.2.2.2.2.a) (by rw [fu_nj (by decide)]; exact s1f)
              exact kk
        · refine fx_go 80 (by decide +kernel) ?_
          refine sp_rdL_f hR0 s1 (fun g' x1 x2 => ?_)
          exact k2 q (by show bS (pLL T E f []) _ = _; rw [p1, bS_l]) _ g' ((rY.rf.x s1.2.2.1).x x1) x2 s1.2.1
      · refine fx_la 0 55 (v := 1186) (by decide +kernel) rfl (by decide +kernel) ?_
        refine fx_la 0 56 (v := 1186) (by decide +kernel) rfl (by decide +kernel) ?_
        refine fx_gi 1186 148 11 59 (by decide +kernel) ?_
        try simp only [fu_app, fcy_app, Nat.reduceEqDiff, and_true, and_false, false_and, true_and, if_true, if_false, ite_true, ite_false, reduceIte, Int.reduceToNat, fx_simp0]
        refine fx_c2 272 21 62 0 [] (by decide +kernel) (by decide) (by decide) (fI_n4 _) rfl (by first | decide | omega) ?_
        refine sp_wrong (by rw [fu_nj (by decide)]; exact hf) (by unfold fR; omega) (fK0 ?_)
        refine fx_go 80 (by decide +kernel) ?_
        have e : left = 0 := by omega
        subst e
        refine sp_rdL_f hR0 (q := f) (B := 400) ⟨fu_eq _ _ _ _, ok1, h.id.2.2.2.2.2.2.f, by rw [fu_nj (by decide), fu_eq]; exact ok1, by rw [fu_nj (by decide), fu_eq]; omega, by rw [fu_nj (by decide)]; exact h.id.2.2.2.2.2.1⟩ (fun g' x1 x2 => ?_)
        exact k2 f rfl _ g' ((rY.rf.x h.id.2.2.2.2.2.2.f).x x1) x2 ok1
end G5M
end
section
/-! fx: the reference's law() -/
def rZ (g g' : Nat → Nat → Int) : Prop := ∀ c j, ¬ (c = 148 ∧ (j = 0 ∨ (8 ≤ j ∧ j ≤ 13) ∨ j = 17 ∨ j = 18 ∨ j = 19)) → g' c j = g c j
def rZR (g g' : Nat → Nat → Int) : Prop := ∀ c j, ¬ (c = 148 ∧ (j = 0 ∨ j = 6 ∨ (8 ≤ j ∧ j ≤ 13) ∨ j = 17 ∨ j = 18 ∨ j = 19)) → ¬ (c = 149 ∧ (j = 1 ∨ j = 2 ∨ 364 ≤ j)) → g' c j = g c j
section G5N
variable {W : ax_W} {r : Nat} {g : Nat → Nat → Int} {Q : Nat → Nat → (Nat → Nat → Int) → Prop} {T : Int → Int} {E : Int}
theorem fSg_Y {F : Nat → Int} : ∀ (segs : List (List Int × Int × Int)) (g : Nat → Nat → Int), rY g (fSg F segs g)
  | [], g => rY.rf
  | s :: segs, g => (rY.ln (g := g)).tr (fSg_Y segs _)
theorem pSeg_n : ∀ (n : Nat) (f : Int) (segs : List (List Int × Int × Int)), pSeg T E n f = Sum.inr segs → segs.length ≤ n
  | 0, f, segs, h => by cases h
  | n + 1, f, segs, h => by
    obtain ⟨⟨f1, a⟩, h1, h2⟩ := bS_inr h
    have h2 : (if f1 = E then Sum.inr [a] else if T f1 = 59 then bS (pSeg T E n (pSk T E (f1 + 1))) (fun r => Sum.inr (a :: r)) else Sum.inl f1) = Sum.inr segs := h2
    by_cases e : f1 = E
    · rw [if_pos e] at h2
      cases h2
      show 1 ≤ n + 1
      omega
    · rw [if_neg e] at h2
      by_cases e2 : T f1 = 59
      · rw [if_pos e2] at h2
        obtain ⟨r, h3, h4⟩ := bS_inr h2
        cases h4
        have := pSeg_n n _ r h3
        show r.length + 1 ≤ n + 1
        omega
      · rw [if_neg e2] at h2; cases h2
theorem pLawR_n {segs : List (List Int × Int × Int)} (h : pLawR T E = Sum.inr segs) : segs.length ≤ 12 := by
  unfold pLawR at h
  by_cases e : pSk T E 0 = E
  · rw [if_pos e] at h; cases h; decide
  · rw [if_neg e] at h
    exact pSeg_n 12 _ segs h
theorem sp_mreadL {gs : Nat → Nat → Int} (hP : gs 148 15 = 0 ∨ gs 148 15 = 1) (hT : gs 148 16 = 0 ∨ gs 148 16 = 1) (h : rwS T E gs g (pSk T E 0) 0)
    (k1 : ∀ segs, pLawR T E = Sum.inr segs → ∀ g', rX (fSg (fF gs) segs gs) g' → g' 148 12 = -1 → Q 1 (fI (segs.length : Int)) g')
    (k2 : ∀ q, pLawR T E = Sum.inl q → ∀ v g', rY gs g' → g' 148 12 = q → 0 ≤ q → Q 1 (fI v) g') : fx W r 34 269 0 [1186, fI 1, 7, 7] [] g Q := by
  have ok := h.ok
  have ok1 := ok.1
  have ok2 := ok.2.1
  have hE := h.1.2.2.1
  have s1 := h.id
  have eE := s1.1.1
  unfold pLawR at k1 k2
  refine fx_la 0 1 (v := 1186) (by decide +kernel) rfl (by decide +kernel) ?_
  refine fx_c1 270 21 4 1 [] (by decide +kernel) (by decide) rfl (by first | decide | omega) ?_
  refine sp_skip h.1 h.2.1 (fK0 ?_)
  rw [h.2.2.2.1]
  refine fx_la 0 5 (v := 1186) (by decide +kernel) rfl (by decide +kernel) ?_
  refine fx_gi 1186 148 11 8 (by decide +kernel) ?_
  try simp only [fu_app, fcy_app, Nat.reduceEqDiff, and_true, and_false, false_and, true_and, if_true, if_false, ite_true, ite_false, reduceIte, Int.reduceToNat, fx_simp0]
  refine fx_la 0 9 (v := 1186) (by decide +kernel) rfl (by decide +kernel) ?_
  refine fx_gi 1186 148 10 12 (by decide +kernel) ?_
  try simp only [fu_app, fcy_app, Nat.reduceEqDiff, and_true, and_false, false_and, true_and, if_true, if_false, ite_true, ite_false, reduceIte, Int.reduceToNat, fx_simp0]
  rw [show g 148 10 = E from h.1.1]
  refine fx_ige 19 15 (by decide +kernel) (by unfold fR; omega) (by unfold fR; omega) (fun h12 => ?_) (fun h12 => ?_)
  · refine fx_ci (0) 20 (by decide +kernel) ?_
    refine fx_si 2 21 (by decide +kernel) (Or.inr (fI_n4 _)) rfl ?_
    dsimp only [List.set]
    refine fx_ci (0) 22 (by decide +kernel) ?_
    refine fx_si 3 23 (by decide +kernel) (Or.inr (fI_n4 _)) rfl ?_
    dsimp only [List.set]
    rw [if_pos (by omega)] at k1
    refine sp_rdL_0 ?_
    have kk := k1 [] rfl _ (s1.2.2.2.2.2.2) s1.2.2.2.2.1
    exact kk
  · refine fx_ci (1) 16 (by decide +kernel) ?_
    refine fx_go 20 (by decide +kernel) ?_
    refine fx_si 2 21 (by decide +kernel) (Or.inr (fI_n4 _)) rfl ?_
    dsimp only [List.set]
    refine fx_ci (0) 22 (by decide +kernel) ?_
    refine fx_si 3 23 (by decide +kernel) (Or.inr (fI_n4 _)) rfl ?_
    dsimp only [List.set]
    rw [if_neg (by omega)] at k1 k2
    exact sp_rdL (F := fF gs) 12 0 (pSk T E 0) gs _ rfl rfl hP hT s1 (fun segs p g' x1 x2 => by rw [show ((0 : Nat) : Int) + (segs.length : Nat) = (segs.length : Int) by omega]; exact k1 segs p g' x1 x2) k2
theorem sp_mlaw_1 {n : Int} {N : Nat} (hE : g 148 10 = (N : Int)) (hN : N ≤ 400) (kq : ∀ g', (∀ c j, ¬ (c = 149 ∧ 364 ≤ j ∧ j < 764) → g' c j = g c j) → (∀ j, j < N → g' 149 (364 + j) = g 153 j) → fx W r 35 294 85 [1186, fI n, fI (N : Int)] [] g' Q) : ∀ (l k : Nat) (g' : Nat → Nat → Int), k + l = N → (∀ c j, ¬ (c = 149 ∧ 364 ≤ j ∧ j < 764) → g' c j = g c j) → (∀ j, j < k → g' 149 (364 + j) = g 153 j) → fx W r 35 294 55 [1186, fI n, fI (k : Int)] [] g' Q
  | l, k, g', hk, hx, hi => by
    refine fx_rg (fun hg => ?_)
    have eE : g' 148 10 = (N : Int) := by rw [hx _ _ (by decide)]; exact hE
    have rt := hgA hg 400 (c := 153) (j := k)
    refine fx_li 2 56 (by decide +kernel) rfl ?_
    refine fx_la 0 57 (v := 1186) (by decide +kernel) rfl (by decide +kernel) ?_
    refine fx_gi 1186 148 10 60 (by decide +kernel) ?_
    refine fx_ige 85 63 (by decide +kernel) (by unfold fR; omega) (by first | exact hg 148 10 (by decide) (by decide +kernel) (by decide +kernel) | (unfold fR; omega)) (fun h60 => ?_) (fun h60 => ?_)
    · have e : k = N := by omega
      subst e
      exact kq g' hx hi
    · refine fx_la 0 64 (v := 1186) (by decide +kernel) rfl (by decide +kernel) ?_
      refine fx_gp 1186 148 1 1194 67 (by decide +kernel) ?_
      refine fx_ci (364) 70 (by decide +kernel) ?_
      refine fx_li 2 71 (by decide +kernel) rfl ?_
      refine fx_add 72 (by decide +kernel) rfl ?_
      refine fx_la 0 73 (v := 1186) (by decide +kernel) rfl (by decide +kernel) ?_
      refine fx_gp 1186 148 7 1226 76 (by decide +kernel) ?_
      refine fx_li 2 77 (by decide +kernel) rfl ?_
      refine fx_al 1226 153 400 78 (by decide +kernel) rfl (by omega) (by omega) rfl ?_
      have rt2 := rt (by decide +kernel) (by omega)
      rw [show ((k : Int)).toNat = k from rfl]
      unfold fR at rt2
      refine fx_as 1194 149 764 79 (by decide +kernel) rfl (by omega) (by omega) rfl (by unfold fR; omega) ?_
      refine fx_inc 2 82 (1) (by decide +kernel) rfl (Or.inr (fI_n4 _)) rfl ?_
      dsimp only [List.set]
      refine fx_go 55 (by decide +kernel) ?_
      match l, hk with
      | 0, hk => exfalso; omega
      | l + 1, hk =>
        rw [show (364 + (k : Int)).toNat = 364 + k by omega]
        refine sp_mlaw_1 hE hN kq l (k + 1) _ (by omega) (fun c j a => by rw [fu_ne (by omega)]; exact hx c j a) (fun j hj => ?_)
        by_cases e : j = k
        · subst e
          rw [fu_eq]
          exact hx _ _ (fun t => absurd t.1 (by decide))
        · rw [fu_nj (by omega)]
          exact hi j (by omega)
theorem sp_mlaw (hT : ∀ k : Int, 0 ≤ k → k < 400 → g 153 k.toNat = T k ∧ 0 ≤ T k ∧ T k ≤ 255) (hE : g 148 8 = E) (hE0 : 0 ≤ E) (hE1 : E ≤ 400) (hP : g 148 15 = 0 ∨ g 148 15 = 1) (hT3 : g 148 16 = 0 ∨ g 148 16 = 1)
    (k1 : ∀ q, pLawR T E = Sum.inl q → ∀ g', rZ g g' → g' 148 8 = 0 → g' 148 0 = 1 → g' 148 12 = q → Q 1 (fI 0) g')
    (k2 : ∀ segs, pLawR T E = Sum.inr segs → ∀ g', rZR g g' → g' 148 8 = 0 → g' 148 0 = 0 → g' 148 12 = -1 → g' 148 6 = 0 → g' 149 1 = (segs.length : Int) → g' 149 2 = E → (∀ j : Nat, (j : Int) < E → g' 149 (364 + j) = T j) → segs.length ≤ 12 → Q 1 (fI (segs.length : Int)) g') : fx W r 35 294 0 [1186, 7, 7] [] g Q := by
  have bx : ∀ c j, ¬ (c = 148 ∧ (8 ≤ j ∧ j ≤ 13)) → fBeg g c j = g c j := fun c j a => by
    unfold fBeg
    rw [fu_ne (by omega), fu_ne (by omega), fu_ne (by omega), fu_ne (by omega), fu_ne (by omega), fu_ne (by omega)]
  have bt : fBeg g 148 8 = 0 := by unfold fBeg; simp only [fu_app]; rfl
  have be : fBeg g 148 10 = E := by unfold fBeg; simp only [fu_app]; exact hE
  have hS : rwS T E (fBeg g) (fBeg g) (pSk T E 0) 0 := by
    have bb : fBeg g 148 9 = -1 := by unfold fBeg; simp only [fu_app]; rfl
    have ba : fBeg g 148 11 = 0 := by unfold fBeg; simp only [fu_app]; rfl
    have bf : fBeg g 148 12 = -1 := by unfold fBeg; simp only [fu_app]; rfl
    have bd : fBeg g 148 13 = 0 := by unfold fBeg; simp only [fu_app]; rfl
    refine ⟨⟨be, hE0, hE1, Or.inl bb, fun k k0 k1 => ?_⟩, by omega, by omega, by rw [ba], bf, bd, rX.rf⟩
    have e : flt (fBeg g) k = g 153 k.toNat := by
      unfold flt
      rw [if_pos bb, bx _ _ (fun t => absurd t.1 (by decide))]
    rw [e]
    exact hT k k0 k1
  refine fx_la 0 1 (v := 1186) (by decide +kernel) rfl (by decide +kernel) ?_
  refine fx_c1 268 21 4 0 [] (by decide +kernel) (by decide) rfl (by first | decide | omega) ?_
  refine sp_begins (fK0 ?_)
  refine fx_la 0 5 (v := 1186) (by decide +kernel) rfl (by decide +kernel) ?_
  refine fx_ci (1) 6 (by decide +kernel) ?_
  refine fx_c2 269 21 9 34 [7, 7] (by decide +kernel) (by decide) (by decide) (fI_n4 _) rfl (by first | decide | omega) ?_
  refine sp_mreadL (by rw [bx _ _ (by decide)]; exact hP) (by rw [bx _ _ (by decide)]; exact hT3) hS (fun segs p g1 x1 f1 => fK1 ?_) (fun q p v g1 x1 f1 q0 => fK1 ?_)
  have y1 := (fSg_Y (F := fF (fBeg g)) segs (fBeg g)).x x1
  have sl : segs.length ≤ 12 := pLawR_n p
  · refine fx_si 1 10 (by decide +kernel) (Or.inr (f_n4p (v := 1186) rfl (by decide))) rfl ?_
    dsimp only [List.set]
    refine fx_la 0 11 (v := 1186) (by decide +kernel) rfl (by decide +kernel) ?_
    refine fx_la 0 12 (v := 1186) (by decide +kernel) rfl (by decide +kernel) ?_
    refine fx_gi 1186 148 12 15 (by decide +kernel) ?_
    try simp only [fu_app, fcy_app, Nat.reduceEqDiff, and_true, and_false, false_and, true_and, if_true, if_false, ite_true, ite_false, reduceIte, Int.reduceToNat, fx_simp0]
    refine fx_rg (fun hg => ?_)
    have rf := hg 148 12 (by decide) (by decide +kernel) (by decide +kernel)
    unfold fR at rf
    refine fx_cn (-1) 16 (by decide +kernel) (fun v15 c15 => ?_)
    refine fx_ieq 23 19 (by decide +kernel) (by unfold fR; omega) (by unfold fR; omega) (fun h16 => ?_) (fun h16 => ?_)
    · refine fx_ci (0) 24 (by decide +kernel) ?_
      refine fx_pi 1186 148 0 27 (by decide +kernel) (by unfold fR; omega) ?_
      refine fx_la 0 28 (v := 1186) (by decide +kernel) rfl (by decide +kernel) ?_
      refine fx_gi 1186 148 0 31 (by decide +kernel) ?_
      try simp only [fu_app, fcy_app, Nat.reduceEqDiff, and_true, and_false, false_and, true_and, if_true, if_false, ite_true, ite_false, reduceIte, Int.reduceToNat, fx_simp0]
      refine fx_zle 36 34 (by decide +kernel) (by unfold fR; omega) (fun h31 => ?_) (fun h31 => ?_)
      · refine fx_la 0 37 (v := 1186) (by decide +kernel) rfl (by decide +kernel) ?_
        refine fx_gp 1186 148 1 1194 40 (by decide +kernel) ?_
        refine fx_ci (1) 41 (by decide +kernel) ?_
        refine fx_li 1 42 (by decide +kernel) rfl ?_
        refine fx_as 1194 149 764 43 (by decide +kernel) rfl (by omega) (by omega) rfl (by unfold fR; omega) ?_
        refine fx_la 0 44 (v := 1186) (by decide +kernel) rfl (by decide +kernel) ?_
        refine fx_gp 1186 148 1 1194 47 (by decide +kernel) ?_
        refine fx_ci (2) 48 (by decide +kernel) ?_
        refine fx_la 0 49 (v := 1186) (by decide +kernel) rfl (by decide +kernel) ?_
        refine fx_gi 1186 148 10 52 (by decide +kernel) ?_
        try simp only [fu_app, fcy_app, Nat.reduceEqDiff, and_true, and_false, false_and, true_and, if_true, if_false, ite_true, ite_false, reduceIte, Int.reduceToNat, fx_simp0]
        have hend : g1 148 10 = E := by rw [y1 _ _ (by decide)]; exact be
        rw [hend]
        refine fx_as 1194 149 764 53 (by decide +kernel) rfl (by omega) (by omega) rfl (by unfold fR; omega) ?_
        refine fx_ci (0) 54 (by decide +kernel) ?_
        refine fx_si 2 55 (by decide +kernel) (Or.inr (fI_n4 _)) rfl ?_
        dsimp only [List.set]
        have eN : E = ((E.toNat : Nat) : Int) := by omega
        refine sp_mlaw_1 (N := E.toNat) (by rw [fu_nc (by decide), fu_nc (by decide), fu_nj (by decide), hend]; exact eN) (by omega) (fun g2 z1 z2 => ?_) E.toNat 0 _ (by omega) (fun _ _ _ => rfl) (fun j hj => absurd hj (Nat.not_lt_zero _))
        have gz : ∀ c j, ¬ (c = 149 ∧ (j = 1 ∨ j = 2 ∨ 364 ≤ j)) → ¬ (c = 148 ∧ (j = 0 ∨ (8 ≤ j ∧ j ≤ 13) ∨ j = 17 ∨ j = 18 ∨ j = 19)) → g2 c j = g c j := fun c j a b => by
          rw [z1 c j (by omega), fu_ne (by omega), fu_ne (by omega), fu_ne (by omega), y1 c j (by omega), bx c j (by omega)]
        refine fx_la 0 86 (v := 1186) (by decide +kernel) rfl (by decide +kernel) ?_
        refine fx_ci (0) 87 (by decide +kernel) ?_
        refine fx_pi 1186 148 6 90 (by decide +kernel) (by unfold fR; omega) ?_
        refine fx_li 1 91 (by decide +kernel) rfl ?_
        refine fx_ret (by decide +kernel) ?_
        refine k2 segs p _ (fun c j a b => ?_) ?_ ?_ ?_ (fu_eq _ _ _ _) ?_ ?_ (fun j hj => ?_) sl
        · rw [fu_ne (fun t => a ⟨t.1, Or.inr (Or.inl t.2)⟩)]
          by_cases th : c = 148 ∧ j = 0
          · exact absurd ⟨th.1, Or.inl th.2⟩ a
          · exact gz c j b (fun t => a ⟨t.1, by omega⟩)
        · rw [fu_nj (by decide), z1 _ _ (by decide), fu_nc (by decide), fu_nc (by decide), fu_nj (by decide), y1 _ _ (by decide)]; exact bt
        · rw [fu_nj (by decide), z1 _ _ (by decide), fu_nc (by decide), fu_nc (by decide), fu_eq]
        · rw [fu_nj (by decide), z1 _ _ (by decide), fu_nc (by decide), fu_nc (by decide), fu_nj (by decide)]; exact f1
        · rw [fu_nc (by decide), z1 _ _ (by decide), fu_nj (by decide), fu_eq]
        · rw [fu_nc (by decide), z1 _ _ (by decide)]; exact fu_eq _ _ _ _
        · rw [fu_nc (by decide), z2 j (by omega), fu_nc (by decide), fu_nc (by decide), fu_nc (by decide), y1 _ _ (fun t => absurd t.1 (by decide)), bx _ _ (fun t => absurd t.1 (by decide))]
          exact (hT j (by omega) (by omega)).1
      · refine fx_ci (0) 35 (by decide +kernel) ?_
        refine fx_ret (by decide +kernel) ?_
        exfalso; omega
    · exfalso; omega
  · refine fx_si 1 10 (by decide +kernel) (Or.inr (f_n4p (v := 1186) rfl (by decide))) rfl ?_
    dsimp only [List.set]
    refine fx_la 0 11 (v := 1186) (by decide +kernel) rfl (by decide +kernel) ?_
    refine fx_la 0 12 (v := 1186) (by decide +kernel) rfl (by decide +kernel) ?_
    refine fx_gi 1186 148 12 15 (by decide +kernel) ?_
    try simp only [fu_app, fcy_app, Nat.reduceEqDiff, and_true, and_false, false_and, true_and, if_true, if_false, ite_true, ite_false, reduceIte, Int.reduceToNat, fx_simp0]
    refine fx_rg (fun hg => ?_)
    have rf := hg 148 12 (by decide) (by decide +kernel) (by decide +kernel)
    unfold fR at rf
    refine fx_cn (-1) 16 (by decide +kernel) (fun v15 c15 => ?_)
    refine fx_ieq 23 19 (by decide +kernel) (by unfold fR; omega) (by unfold fR; omega) (fun h16 => ?_) (fun h16 => ?_)
    · exfalso; omega
    · refine fx_ci (1) 20 (by decide +kernel) ?_
      refine fx_go 24 (by decide +kernel) ?_
      refine fx_pi 1186 148 0 27 (by decide +kernel) (by unfold fR; omega) ?_
      refine fx_la 0 28 (v := 1186) (by decide +kernel) rfl (by decide +kernel) ?_
      refine fx_gi 1186 148 0 31 (by decide +kernel) ?_
      try simp only [fu_app, fcy_app, Nat.reduceEqDiff, and_true, and_false, false_and, true_and, if_true, if_false, ite_true, ite_false, reduceIte, Int.reduceToNat, fx_simp0]
      refine fx_zle 36 34 (by decide +kernel) (by unfold fR; omega) (fun h31 => ?_) (fun h31 => ?_)
      · exfalso; omega
      · refine fx_ci (0) 35 (by decide +kernel) ?_
        refine fx_ret (by decide +kernel) ?_
        refine k1 q p _ (fun c j a => ?_) ?_ (fu_eq _ _ _ _) ?_
        · rw [fu_ne (by omega), x1 c j (by omega), bx c j (by omega)]
        · rw [fu_nj (by decide), x1 _ _ (by decide)]; exact bt
        · rw [fu_nj (by decide)]; exact f1
end G5N
end
section
/-! fx: the law's text, on both sides -/
section G5OP
variable {T : Int → Int} {E : Int}
theorem pIf_sh (c : List Int) (f k a : Int) : pIf T E f c k a = bS (pIf T E f [] k a) (fun x => Sum.inr (x.1, c ++ x.2.1, x.2.2)) := by
  unfold pIf
  by_cases w : pWd T E [105, 102] f
  · rw [cif_t w, cif_t w]
    have h := pCd_sh (T := T) (E := E) c 1300 2 0 (pSk T E (pWe T E f)) [] false
    rw [List.append_nil] at h
    rw [h]
    cases pCd T E 1300 2 0 (pSk T E (pWe T E f)) [] false with
    | inl q => rfl
    | inr x => rfl
  · rw [cif_f w, cif_f w, bS_r, List.append_nil]
theorem pLL_sh (c : List Int) (f : Int) : pLL T E f c = bS (pLL T E f []) (fun x => Sum.inr (x.1, c ++ x.2.1, x.2.2)) := by
  unfold pLL
  by_cases k : pKind T E f = -1
  · rw [cif_t k, cif_t k]; rfl
  · rw [cif_f k, cif_f k]
    by_cases k2 : pKind T E f = 2
    · rw [cif_t k2, cif_t k2]; exact pIf_sh c _ _ _
    · rw [cif_f k2, cif_f k2]
      by_cases n : pN T E 0 30 (pSk T E (pWe T E f))
      · rw [cif_t n, cif_t n]; exact pIf_sh c _ _ _
      · rw [cif_f n, cif_f n]; rfl
theorem pLs_seg : ∀ (n : Nat) (f : Int) (c : List Int) (ls : List (List Int)), (∀ q, pSeg T E n f = Sum.inl q → pLs T E n f c ls = Sum.inl q) ∧ (∀ segs, pSeg T E n f = Sum.inr segs → ∃ c1 l1, pLs T E n f c ls = Sum.inr (c1, l1) ∧ l1.length = ls.length + segs.length)
  | 0, f, c, ls => ⟨fun q h => by
      have h : (Sum.inl f : Int ⊕ List (List Int × Int × Int)) = Sum.inl q := h
      cases h
      rfl, fun segs h => by
      have h : (Sum.inl f : Int ⊕ List (List Int × Int × Int)) = Sum.inr segs := h
      cases h⟩
  | n + 1, f, c, ls => by
    cases h : pLL T E f [] with
    | inl q0 =>
      have e1 : pLL T E f c = Sum.inl q0 := by rw [pLL_sh, h, bS_l]
      refine ⟨fun q hq => ?_, fun segs hs => ?_⟩
      · have hq : bS (pLL T E f []) _ = Sum.inl q := hq
        rw [h, bS_l] at hq
        cases hq
        show bS (pLL T E f c) _ = _
        rw [e1, bS_l]
      · have hs : bS (pLL T E f []) _ = Sum.inr segs := hs
        rw [h, bS_l] at hs
        cases hs
    | inr a =>
      obtain ⟨f1, d, kd, am⟩ := a
      have e1 : pLL T E f c = Sum.inr (f1, c ++ d, kd, am) := by rw [pLL_sh, h, bS_r]
      have eS : pSeg T E (n + 1) f = if f1 = E then Sum.inr [(d, kd, am)] else if T f1 = 59 then bS (pSeg T E n (pSk T E (f1 + 1))) (fun r => Sum.inr ((d, kd, am) :: r)) else Sum.inl f1 := by
        show bS (pLL T E f []) _ = _
        rw [h, bS_r]
      have eL : pLs T E (n + 1) f c ls = if f1 = E then Sum.inr (c ++ d, ls ++ [[kd, am, (c.length : Int), ((c ++ d).length : Int)]]) else if T f1 = 59 then pLs T E n (pSk T E (f1 + 1)) (c ++ d) (ls ++ [[kd, am, (c.length : Int), ((c ++ d).length : Int)]]) else Sum.inl f1 := by
        show bS (pLL T E f c) _ = _
        rw [e1, bS_r]
      rw [eS, eL]
      by_cases x1 : f1 = E
      · rw [if_pos x1, if_pos x1]
        refine ⟨(fun q hq => nomatch hq), fun segs hs => ?_⟩
        cases hs
        exact ⟨_, _, rfl, by rw [List.length_append]; rfl⟩
      · rw [if_neg x1, if_neg x1]
        by_cases x2 : T f1 = 59
        · rw [if_pos x2, if_pos x2]
          obtain ⟨i1, i2⟩ := pLs_seg n (pSk T E (f1 + 1)) (c ++ d) (ls ++ [[kd, am, (c.length : Int), ((c ++ d).length : Int)]])
          refine ⟨fun q hq => ?_, fun segs hs => ?_⟩
          · cases h2 : pSeg T E n (pSk T E (f1 + 1)) with
            | inl q2 => rw [h2, bS_l] at hq; cases hq; exact i1 _ h2
            | inr r2 => rw [h2, bS_r] at hq; cases hq
          · obtain ⟨r2, h2, h3⟩ := bS_inr hs
            cases h3
            obtain ⟨c1, l1, h4, h5⟩ := i2 r2 h2
            refine ⟨c1, l1, h4, ?_⟩
            rw [h5, List.length_append, List.length_cons]
            show ls.length + 1 + r2.length = ls.length + (r2.length + 1)
            omega
        · rw [if_neg x2, if_neg x2]
          exact ⟨fun q hq => by cases hq; rfl, fun segs hs => by cases hs⟩
theorem pLaw_L {q : Int} (h : pLawR T E = Sum.inl q) : pLaw T E = Sum.inl q := by
  unfold pLawR at h
  unfold pLaw
  by_cases e : pSk T E 0 = E
  · rw [if_pos e] at h; cases h
  · rw [if_neg e] at h ⊢
    exact (pLs_seg 12 _ [] []).1 q h
theorem pLaw_R {segs : List (List Int × Int × Int)} (h : pLawR T E = Sum.inr segs) : ∃ c1 l1, pLaw T E = Sum.inr (c1, l1) ∧ l1.length = segs.length := by
  unfold pLawR at h
  unfold pLaw
  by_cases e : pSk T E 0 = E
  · rw [if_pos e] at h ⊢
    cases h
    exact ⟨[], [], rfl, rfl⟩
  · rw [if_neg e] at h ⊢
    obtain ⟨c1, l1, h1, h2⟩ := (pLs_seg 12 _ [] []).2 segs h
    exact ⟨c1, l1, h1, by rw [h2]; show 0 + segs.length = _; omega⟩
end G5OP
/-- what the law reads -/
abbrev tpT (g : Nat → Nat → Int) : Int → Int := fun k => g 2 k.toNat
def fLC (g g1 : Nat → Nat → Int) : Prop := ∀ c j, ¬ (8 ≤ c ∧ c ≤ 13) → ¬ (34 ≤ c ∧ c ≤ 40) → ¬ (c = 1 ∧ j = 1) → ¬ (c = 0 ∧ (j = 18 ∨ j = 16)) → c ≠ 159 → g1 c j = g c j
def PWl (g : Nat → Nat → Int) (k v : Nat) (g1 : Nat → Nat → Int) : Prop := k = 1 ∧ fLC g g1 ∧ g1 1 1 = 0 ∧ ((∃ q, pLaw (tpT g) (g 1 1) = Sum.inl q ∧ v = fI 1) ∨ (∃ c1 l1, pLaw (tpT g) (g 1 1) = Sum.inr (c1, l1) ∧ v = fI 0 ∧ g1 159 0 = ((fJ (l1.length : Int) - 4 : Nat) : Int)))
def PMl (g g1 : Nat → Nat → Int) (k w : Nat) (g2 : Nat → Nat → Int) : Prop := k = 1 ∧ ∃ zw, w = fI zw ∧ fR zw ∧ ((∃ q, pLawR (tpT g) (g 1 1) = Sum.inl q ∧ g2 148 0 = 1) ∨ (∃ segs, pLawR (tpT g) (g 1 1) = Sum.inr segs ∧ g2 148 0 = 0 ∧ zw = (segs.length : Int))) ∧ (gxg g2 ∧ g2 1 1 = g2 148 8 ∧ g2 0 15 = g2 148 3 ∧ g2 159 0 = g1 159 0)
end
section
/-! fx: house and table as a row of the reference has them -/
/-- the house at cell h -/
def RHf (h : Nat) (g : Nat → Nat → Int) (t : Nat → Int) : Prop := g h 4 = t 3 ∧ g h 5 = t 4 ∧ g h 6 = t 0 ∧ g h 7 = t 5 ∧ g h 8 = t 6 ∧ g h 9 = t 7 ∧ (∀ p : Nat, p < 8 → g (h + 1) p = t (14 + 7 * p)) ∧ (∀ p : Nat, p < 8 → g (h + 2) p = t (15 + 7 * p)) ∧ (∀ j : Nat, (j : Int) < 8 * g h 5 → g (h + 3) j = t (68 + j)) ∧ (∀ j : Nat, j < 8 → g (h + 4) j = t (116 + j))
/-- the table at cell b, but for the log -/
def RTf (b : Nat) (g : Nat → Nat → Int) (t : Nat → Int) : Prop := (∀ p : Nat, p < 8 → g (b + 1) p = t (12 + 7 * p)) ∧ (∀ p : Nat, p < 8 → g (b + 2) p = t (13 + 7 * p)) ∧ (∀ p : Nat, p < 8 → g (b + 3) p = t (16 + 7 * p)) ∧ (∀ p : Nat, p < 8 → g (b + 4) p = t (18 + 7 * p)) ∧ (∀ p : Nat, p < 8 → fbt (g b 7) p = t (17 + 7 * p)) ∧ g b 8 = t 8 ∧ g b 9 = t 9 ∧ g b 10 = t 11
/-- what holds of a row by itself -/
def RIv (t : Nat → Int) : Prop := (∀ p : Nat, p < 8 → t (12 + 7 * p) = -1 → t (18 + 7 * p) = 0) ∧ (∀ p : Nat, p < 8 → t (17 + 7 * p) ≠ 0 → t (12 + 7 * p) ≠ -1) ∧ (∀ p : Nat, p < 8 → t 3 ≤ p → t (17 + 7 * p) = 0)
/-- places of the log, and the draws -/
def tLg (j : Nat) : Prop := j = 10 ∨ j = 11 ∨ (124 ≤ j ∧ j < 364)
section FHA
variable {T : Int → Int} {E : Int}
theorem RF_line {gc gm : Nat → Nat → Int} {u : List Int} (hH : RHf 29 gc (gm 149)) (hT : RTf 22 gc (gm 149)) (hI : RIv (gm 149)) (hu : uOk E (gm 149 3) (gm 149 4) u) (hp0 : 0 ≤ gm 149 3) (hp1 : gm 149 3 ≤ 8) (hd0 : 0 ≤ gm 149 4) (hd1 : gm 149 4 ≤ 6) :
    RHf 29 (apC T u gc) (apL T u gm 149) ∧ RTf 22 (apC T u gc) (apL T u gm 149) ∧ RIv (apL T u gm 149) ∧ (∀ j, apC T u gc 27 j = gc 27 j) ∧ apC T u gc 22 5 = gc 22 5 ∧ apC T u gc 22 6 = gc 22 6 ∧ (∀ j, tLg j → apL T u gm 149 j = gm 149 j) := by
  obtain ⟨a1, a2, a3, a4, a5, a6, a7, a8, a9, a10⟩ := hH
  obtain ⟨r1, r2, r3, r4, r5⟩ := RHx_line (T := T) ⟨a1, a2, a3, a9, a10⟩ hu hp0 hp1 hd0 hd1
  obtain ⟨b1, b2, b3, b4, b5, b6, b7, b8⟩ := hT
  obtain ⟨i1, i2, i3⟩ := hI
  rcases hu with ⟨w, pl, v, l, rfl, hu⟩ | ⟨b, rfl, hu⟩ | ⟨x, y, rfl, hu⟩ | ⟨x, y, rfl, hu⟩ | ⟨x, y, rfl, hu⟩
  · rw [apC_0, apL_0] at *
    have eW : ∀ p : Nat, p < 8 → ∀ q : Nat, q < 7 → apP gm w pl v l 149 (12 + 7 * p + q) = if (p : Int) = gm 149 3 then [pl, v, w, l, -1, 0, 0].getD q 0 else gm 149 (12 + 7 * p + q) := fun p hp q hq => by
      unfold apP
      by_cases e : (p : Int) = gm 149 3
      · rw [if_pos e]
        rw [fu_nj (by omega)]
        by_cases q6 : q = 6
        · subst q6; rw [show 12 + 7 * p + 6 = (12 + 7 * gm 149 3 + 6).toNat by omega, fu_eq]; rfl
        rw [fu_nj (by omega)]
        by_cases q5 : q = 5
        · subst q5; rw [show 12 + 7 * p + 5 = (12 + 7 * gm 149 3 + 5).toNat by omega, fu_eq]; rfl
        rw [fu_nj (by omega)]
        by_cases q4 : q = 4
        · subst q4; rw [show 12 + 7 * p + 4 = (12 + 7 * gm 149 3 + 4).toNat by omega, fu_eq]; rfl
        rw [fu_nj (by omega)]
        by_cases q3 : q = 3
        · subst q3; rw [show 12 + 7 * p + 3 = (12 + 7 * gm 149 3 + 3).toNat by omega, fu_eq]; rfl
        rw [fu_nj (by omega)]
        by_cases q2 : q = 2
        · subst q2; rw [show 12 + 7 * p + 2 = (12 + 7 * gm 149 3 + 2).toNat by omega, fu_eq]; rfl
        rw [fu_nj (by omega)]
        by_cases q1 : q = 1
        · subst q1; rw [show 12 + 7 * p + 1 = (12 + 7 * gm 149 3 + 1).toNat by omega, fu_eq]; rfl
        rw [fu_nj (by omega)]
        have q0 : q = 0 := by omega
        subst q0
        rw [show 12 + 7 * p + 0 = (12 + 7 * gm 149 3 + 0).toNat by omega, fu_eq]; rfl
      · rw [if_neg e]
        repeat rw [fu_nj (by omega)]
    have eS : ∀ j : Nat, (j < 12 ∨ 68 ≤ j) → j ≠ 3 → apP gm w pl v l 149 j = gm 149 j := fun j h1 h2 => by
      unfold apP
      repeat rw [fu_nj (by omega)]
    have e3 : apP gm w pl v l 149 3 = gm 149 3 + 1 := by unfold apP; rw [fu_eq]
    have ec : ∀ c j, c ≠ 30 → c ≠ 31 → c ≠ 23 → c ≠ 24 → c ≠ 25 → c ≠ 26 → ¬ (c = 29 ∧ j = 4) → apCP gc w pl v l c j = gc c j := fun c j h1 h2 h3 h4 h5 h6 h7 => by
      unfold apCP
      rw [fu_nc h6, fu_nc h5, fu_nc h4, fu_nc h3, fu_ne h7, fu_nc h2, fu_nc h1]
    have one : ∀ c z, (∀ p, apCP gc w pl v l c p = fu gc c (gc 29 4).toNat z c p) → ∀ p : Nat, p < 8 → apCP gc w pl v l c p = if (p : Int) = gm 149 3 then z else gc c p := fun c z h p hp => by
      rw [h p, a1]
      by_cases e : (p : Int) = gm 149 3
      · rw [if_pos e, show p = (gm 149 3).toNat by omega, fu_eq]
      · rw [if_neg e, fu_nj (by omega)]
    have c1 := one 30 w (fun p => by unfold apCP; rw [fu_nc (by decide), fu_nc (by decide), fu_nc (by decide), fu_nc (by decide), fu_nc (by decide), fu_nc (by decide)])
    have c2 := one 31 l (fun p => by unfold apCP; rw [fu_nc (by decide), fu_nc (by decide), fu_nc (by decide), fu_nc (by decide), fu_nc (by decide)]; unfold fu; simp)
    have c3 := one 23 pl (fun p => by unfold apCP; rw [fu_nc (by decide), fu_nc (by decide), fu_nc (by decide)]; unfold fu; simp)
    have c4 := one 24 v (fun p => by unfold apCP; rw [fu_nc (by decide), fu_nc (by decide)]; unfold fu; simp)
    have c5 := one 25 (-1) (fun p => by unfold apCP; rw [fu_nc (by decide)]; unfold fu; simp)
    have c6 := one 26 0 (fun p => by unfold apCP; unfold fu; simp)
    have sp : ∀ (q : Nat) (z : Int) (f : Nat → Int), q < 7 → [pl, v, w, l, -1, 0, 0].getD q 0 = z → (∀ p : Nat, p < 8 → f p = gm 149 (12 + 7 * p + q)) → ∀ p : Nat, p < 8 → (if (p : Int) = gm 149 3 then z else f p) = apP gm w pl v l 149 (12 + 7 * p + q) := fun q z f hq e h p hp => by
      rw [eW p hp q hq, e, h p hp]
    have nn : ∀ q p : Nat, (12 + q) + 7 * p = 12 + 7 * p + q := fun q p => by omega
    refine ⟨⟨r1, r2, r3, ?_, ?_, ?_, fun p hp => ?_, fun p hp => ?_, r4, r5⟩, ⟨fun p hp => ?_, fun p hp => ?_, fun p hp => ?_, fun p hp => ?_, fun p hp => ?_, ?_, ?_, ?_⟩, ⟨fun p hp => ?_, fun p hp => ?_, fun p hp h => ?_⟩, fun j => ?_, ?_, ?_, fun j hj => ?_⟩
    · rw [ec _ _ (by decide) (by decide) (by decide) (by decide) (by decide) (by decide) (by decide), eS 5 (by decide) (by decide)]; exact a4
    · rw [ec _ _ (by decide) (by decide) (by decide) (by decide) (by decide) (by decide) (by decide), eS 6 (by decide) (by decide)]; exact a5
    · rw [ec _ _ (by decide) (by decide) (by decide) (by decide) (by decide) (by decide) (by decide), eS 7 (by decide) (by decide)]; exact a6
    · rw [show 14 + 7 * p = 12 + 7 * p + 2 by omega]
      exact (c1 p hp).trans (sp 2 w _ (by decide) rfl (fun p hp => by rw [show 12 + 7 * p + 2 = 14 + 7 * p by omega]; exact a7 p hp) p hp)
    · rw [show 15 + 7 * p = 12 + 7 * p + 3 by omega]
      exact (c2 p hp).trans (sp 3 l _ (by decide) rfl (fun p hp => by rw [show 12 + 7 * p + 3 = 15 + 7 * p by omega]; exact a8 p hp) p hp)
    · exact (c3 p hp).trans (sp 0 pl _ (by decide) rfl b1 p hp)
    · rw [show 13 + 7 * p = 12 + 7 * p + 1 by omega]
      exact (c4 p hp).trans (sp 1 v _ (by decide) rfl (fun p hp => by rw [show 12 + 7 * p + 1 = 13 + 7 * p by omega]; exact b2 p hp) p hp)
    · rw [show 16 + 7 * p = 12 + 7 * p + 4 by omega]
      exact (c5 p hp).trans (sp 4 (-1) _ (by decide) rfl (fun p hp => by rw [show 12 + 7 * p + 4 = 16 + 7 * p by omega]; exact b3 p hp) p hp)
    · rw [show 18 + 7 * p = 12 + 7 * p + 6 by omega]
      exact (c6 p hp).trans (sp 6 0 _ (by decide) rfl (fun p hp => by rw [show 12 + 7 * p + 6 = 18 + 7 * p by omega]; exact b4 p hp) p hp)
    · rw [ec _ _ (by decide) (by decide) (by decide) (by decide) (by decide) (by decide) (by decide), show 17 + 7 * p = 12 + 7 * p + 5 by omega, eW p hp 5 (by decide), b5 p hp, show 17 + 7 * p = 12 + 7 * p + 5 by omega]
      by_cases e : (p : Int) = gm 149 3
      · rw [if_pos e, show 12 + 7 * p + 5 = 17 + 7 * p by omega]
        exact i3 p hp (by omega)
      · rw [if_neg e]
    · rw [ec _ _ (by decide) (by decide) (by decide) (by decide) (by decide) (by decide) (by decide), eS 8 (by decide) (by decide)]; exact b6
    · rw [ec _ _ (by decide) (by decide) (by decide) (by decide) (by decide) (by decide) (by decide), eS 9 (by decide) (by decide)]; exact b7
    · rw [ec _ _ (by decide) (by decide) (by decide) (by decide) (by decide) (by decide) (by decide), eS 11 (by decide) (by decide)]; exact b8
    · rw [show 12 + 7 * p = 12 + 7 * p + 0 from rfl, eW p hp 0 (by decide), show 18 + 7 * p = 12 + 7 * p + 6 by omega, eW p hp 6 (by decide)]
      by_cases e : (p : Int) = gm 149 3
      · rw [if_pos e, if_pos e]; exact fun _ => rfl
      · rw [if_neg e, if_neg e]
        intro h
        have := i1 p hp h
        rw [show 12 + 7 * p + 6 = 18 + 7 * p by omega]
        exact this
    · rw [show 12 + 7 * p = 12 + 7 * p + 0 from rfl, eW p hp 0 (by decide), show 17 + 7 * p = 12 + 7 * p + 5 by omega, eW p hp 5 (by decide)]
      by_cases e : (p : Int) = gm 149 3
      · rw [if_pos e, if_pos e]; exact fun t => absurd rfl t
      · rw [if_neg e, if_neg e]
        intro h
        rw [show 12 + 7 * p + 5 = 17 + 7 * p by omega] at h
        exact i2 p hp h
    · rw [e3] at h
      rw [show 17 + 7 * p = 12 + 7 * p + 5 by omega, eW p hp 5 (by decide), if_neg (by omega), show 12 + 7 * p + 5 = 17 + 7 * p by omega]
      exact i3 p hp (by omega)
    · exact ec _ _ (by decide) (by decide) (by decide) (by decide) (by decide) (by decide) (fun t => absurd t.1 (by decide))
    · exact ec _ _ (by decide) (by decide) (by decide) (by decide) (by decide) (by decide) (by decide)
    · exact ec _ _ (by decide) (by decide) (by decide) (by decide) (by decide) (by decide) (by decide)
    · exact eS j (by unfold tLg at hj; omega) (by unfold tLg at hj; omega)
  · rw [apC_1, apL_1] at *
    have ec : ∀ c j, c ≠ 32 → ¬ (c = 29 ∧ j = 5) → apCD T b gc c j = gc c j := fun c j h1 h2 => by
      unfold apCD
      rw [fu_ne h2, dshC_ne h1]
    have eS : ∀ j : Nat, (j < 68 ∨ 116 ≤ j) → j ≠ 4 → apD T b gm 149 j = gm 149 j := fun j h1 h2 => by
      unfold apD
      rw [fu_nj h2, dshR_at hd0, if_neg (by omega)]
    refine ⟨⟨r1, r2, r3, ?_, ?_, ?_, fun p hp => ?_, fun p hp => ?_, r4, r5⟩, ⟨fun p hp => ?_, fun p hp => ?_, fun p hp => ?_, fun p hp => ?_, fun p hp => ?_, ?_, ?_, ?_⟩, ⟨fun p hp => ?_, fun p hp => ?_, fun p hp h => ?_⟩, fun j => ?_, ?_, ?_, fun j hj => ?_⟩
    · rw [ec _ _ (by decide) (by decide), eS _ (by decide) (by decide)]; exact a4
    · rw [ec _ _ (by decide) (by decide), eS _ (by decide) (by decide)]; exact a5
    · rw [ec _ _ (by decide) (by decide), eS _ (by decide) (by decide)]; exact a6
    · rw [ec _ _ (by decide) (fun t => absurd t.1 (by decide)), eS _ (by omega) (by omega)]; exact a7 p hp
    · rw [ec _ _ (by decide) (fun t => absurd t.1 (by decide)), eS _ (by omega) (by omega)]; exact a8 p hp
    · rw [ec _ _ (by decide) (fun t => absurd t.1 (by decide)), eS _ (by omega) (by omega)]; exact b1 p hp
    · rw [ec _ _ (by decide) (fun t => absurd t.1 (by decide)), eS _ (by omega) (by omega)]; exact b2 p hp
    · rw [ec _ _ (by decide) (fun t => absurd t.1 (by decide)), eS _ (by omega) (by omega)]; exact b3 p hp
    · rw [ec _ _ (by decide) (fun t => absurd t.1 (by decide)), eS _ (by omega) (by omega)]; exact b4 p hp
    · rw [ec _ _ (by decide) (by decide), eS _ (by omega) (by omega)]; exact b5 p hp
    · rw [ec _ _ (by decide) (by decide), eS _ (by decide) (by decide)]; exact b6
    · rw [ec _ _ (by decide) (by decide), eS _ (by decide) (by decide)]; exact b7
    · rw [ec _ _ (by decide) (by decide), eS _ (by decide) (by decide)]; exact b8
    · rw [eS _ (by omega) (by omega), eS _ (by omega) (by omega)]; exact i1 p hp
    · rw [eS _ (by omega) (by omega), eS _ (by omega) (by omega)]; exact i2 p hp
    · rw [eS _ (by decide) (by decide)] at h
      rw [eS _ (by omega) (by omega)]; exact i3 p hp h
    · exact ec _ _ (by decide) (fun t => absurd t.1 (by decide))
    · exact ec _ _ (by decide) (by decide)
    · exact ec _ _ (by decide) (by decide)
    · exact eS j (by unfold tLg at hj; omega) (by unfold tLg at hj; omega)
  · rw [apC_2, apL_2] at *
    have ec : ∀ c j, c ≠ 33 → apCR x y gc c j = gc c j := fun c j h1 => by
      unfold apCR
      rw [fu_nc h1, fu_nc h1]
    have eS : ∀ j : Nat, (j < 116 ∨ 124 ≤ j) → apR x y gm 149 j = gm 149 j := fun j h1 => by
      unfold apR
      rw [fu_nj (by omega), fu_nj (by omega)]
    refine ⟨⟨r1, r2, r3, ?_, ?_, ?_, fun p hp => ?_, fun p hp => ?_, r4, r5⟩, ⟨fun p hp => ?_, fun p hp => ?_, fun p hp => ?_, fun p hp => ?_, fun p hp => ?_, ?_, ?_, ?_⟩, ⟨fun p hp => ?_, fun p hp => ?_, fun p hp h => ?_⟩, fun j => ?_, ?_, ?_, fun j hj => ?_⟩
    · rw [ec _ _ (by decide), eS _ (by decide)]; exact a4
    · rw [ec _ _ (by decide), eS _ (by decide)]; exact a5
    · rw [ec _ _ (by decide), eS _ (by decide)]; exact a6
    · rw [ec _ _ (by decide), eS _ (by omega)]; exact a7 p hp
    · rw [ec _ _ (by decide), eS _ (by omega)]; exact a8 p hp
    · rw [ec _ _ (by decide), eS _ (by omega)]; exact b1 p hp
    · rw [ec _ _ (by decide), eS _ (by omega)]; exact b2 p hp
    · rw [ec _ _ (by decide), eS _ (by omega)]; exact b3 p hp
    · rw [ec _ _ (by decide), eS _ (by omega)]; exact b4 p hp
    · rw [ec _ _ (by decide), eS _ (by omega)]; exact b5 p hp
    · rw [ec _ _ (by decide), eS _ (by decide)]; exact b6
    · rw [ec _ _ (by decide), eS _ (by decide)]; exact b7
    · rw [ec _ _ (by decide), eS _ (by decide)]; exact b8
    · rw [eS _ (by omega), eS _ (by omega)]; exact i1 p hp
    · rw [eS _ (by omega), eS _ (by omega)]; exact i2 p hp
    · rw [eS _ (by decide)] at h
      rw [eS _ (by omega)]; exact i3 p hp h
    · exact ec _ _ (by decide)
    · exact ec _ _ (by decide)
    · exact ec _ _ (by decide)
    · exact eS j (by unfold tLg at hj; omega)
  · rw [apC_3, apL_3] at *
    have eS : ∀ j : Nat, j ≠ x.toNat → fu gm 149 x.toNat y 149 j = gm 149 j := fun j h1 => fu_nj h1
    have ex : ∀ k : Nat, (k : Int) = x → fu gm 149 x.toNat y 149 k = y := fun k h => by
      rw [show k = x.toNat by omega]
      exact fu_eq _ _ _ _
    have ec : ∀ c j, ¬ (c = 29 ∧ j = 7) → ¬ (c = 29 ∧ j = 8) → ¬ (c = 29 ∧ j = 9) → ¬ (c = 22 ∧ j = 8) → ¬ (c = 22 ∧ j = 9) → apCS x y gc c j = gc c j := fun c j h1 h2 h3 h4 h5 => by
      unfold apCS
      split
      · exact fu_ne h1
      · split
        · exact fu_ne h2
        · split
          · exact fu_ne h3
          · split
            · exact fu_ne h4
            · exact fu_ne h5
    have one : ∀ (c j k : Nat), (∀ gc : Nat → Nat → Int, apCS x y gc c j = if x = (k : Int) then y else gc c j) → gc c j = gm 149 k → apCS x y gc c j = fu gm 149 x.toNat y 149 k := fun c j k h e => by
      rw [h gc]
      by_cases e2 : x = (k : Int)
      · rw [if_pos e2, ex k e2.symm]
      · rw [if_neg e2, eS k (by omega)]; exact e
    have nx : ∀ p q : Nat, 12 + q + 7 * p ≠ x.toNat := fun p q => by omega
    have st : ∀ (c j k : Nat), (c = 29 ∧ j = 7 ∧ k = 5) ∨ (c = 29 ∧ j = 8 ∧ k = 6) ∨ (c = 29 ∧ j = 9 ∧ k = 7) ∨ (c = 22 ∧ j = 8 ∧ k = 8) ∨ (c = 22 ∧ j = 9 ∧ k = 9) → ∀ gc : Nat → Nat → Int, apCS x y gc c j = if x = (k : Int) then y else gc c j := fun c j k h gc => by
      unfold apCS
      by_cases x5 : x = 5
      · rw [if_pos x5]
        rcases h with ⟨rfl, rfl, rfl⟩ | ⟨rfl, rfl, rfl⟩ | ⟨rfl, rfl, rfl⟩ | ⟨rfl, rfl, rfl⟩ | ⟨rfl, rfl, rfl⟩
        · rw [if_pos (by omega)]; exact fu_eq _ _ _ _
        all_goals (rw [if_neg (by omega)]; exact fu_ne (by decide))
      rw [if_neg x5]
      by_cases x6 : x = 6
      · rw [if_pos x6]
        rcases h with ⟨rfl, rfl, rfl⟩ | ⟨rfl, rfl, rfl⟩ | ⟨rfl, rfl, rfl⟩ | ⟨rfl, rfl, rfl⟩ | ⟨rfl, rfl, rfl⟩
        · rw [if_neg (by omega)]; exact fu_ne (by decide)
        · rw [if_pos (by omega)]; exact fu_eq _ _ _ _
        all_goals (rw [if_neg (by omega)]; exact fu_ne (by decide))
      rw [if_neg x6]
      by_cases x7 : x = 7
      · rw [if_pos x7]
        rcases h with ⟨rfl, rfl, rfl⟩ | ⟨rfl, rfl, rfl⟩ | ⟨rfl, rfl, rfl⟩ | ⟨rfl, rfl, rfl⟩ | ⟨rfl, rfl, rfl⟩
        · rw [if_neg (by omega)]; exact fu_ne (by decide)
        · rw [if_neg (by omega)]; exact fu_ne (by decide)
        · rw [if_pos (by omega)]; exact fu_eq _ _ _ _
        all_goals (rw [if_neg (by omega)]; exact fu_ne (by decide))
      rw [if_neg x7]
      by_cases x8 : x = 8
      · rw [if_pos x8]
        rcases h with ⟨rfl, rfl, rfl⟩ | ⟨rfl, rfl, rfl⟩ | ⟨rfl, rfl, rfl⟩ | ⟨rfl, rfl, rfl⟩ | ⟨rfl, rfl, rfl⟩
        · rw [if_neg (by omega)]; exact fu_ne (by decide)
        · rw [if_neg (by omega)]; exact fu_ne (by decide)
        · rw [if_neg (by omega)]; exact fu_ne (by decide)
        · rw [if_pos (by omega)]; exact fu_eq _ _ _ _
        · rw [if_neg (by omega)]; exact fu_ne (by decide)
      rw [if_neg x8]
      rcases h with ⟨rfl, rfl, rfl⟩ | ⟨rfl, rfl, rfl⟩ | ⟨rfl, rfl, rfl⟩ | ⟨rfl, rfl, rfl⟩ | ⟨rfl, rfl, rfl⟩
      · rw [if_neg (by omega)]; exact fu_ne (by decide)
      · rw [if_neg (by omega)]; exact fu_ne (by decide)
      · rw [if_neg (by omega)]; exact fu_ne (by decide)
      · rw [if_neg (by omega)]; exact fu_ne (by decide)
      · rw [if_pos (by omega)]; exact fu_eq _ _ _ _
    refine ⟨⟨r1, r2, r3, ?_, ?_, ?_, fun p hp => ?_, fun p hp => ?_, r4, r5⟩, ⟨fun p hp => ?_, fun p hp => ?_, fun p hp => ?_, fun p hp => ?_, fun p hp => ?_, ?_, ?_, ?_⟩, ⟨fun p hp => ?_, fun p hp => ?_, fun p hp h => ?_⟩, fun j => ?_, ?_, ?_, fun j hj => ?_⟩
    · exact one _ _ _ (st _ _ _ (Or.inl ⟨rfl, rfl, rfl⟩)) a4
    · exact one _ _ _ (st _ _ _ (Or.inr (Or.inl ⟨rfl, rfl, rfl⟩))) a5
    · exact one _ _ _ (st _ _ _ (Or.inr (Or.inr (Or.inl ⟨rfl, rfl, rfl⟩)))) a6
    · rw [ec _ _ (by omega) (by omega) (by omega) (by omega) (by omega), eS _ (by omega)]; exact a7 p hp
    · rw [ec _ _ (by omega) (by omega) (by omega) (by omega) (by omega), eS _ (by omega)]; exact a8 p hp
    · rw [ec _ _ (by omega) (by omega) (by omega) (by omega) (by omega), eS _ (by omega)]; exact b1 p hp
    · rw [ec _ _ (by omega) (by omega) (by omega) (by omega) (by omega), eS _ (by omega)]; exact b2 p hp
    · rw [ec _ _ (by omega) (by omega) (by omega) (by omega) (by omega), eS _ (by omega)]; exact b3 p hp
    · rw [ec _ _ (by omega) (by omega) (by omega) (by omega) (by omega), eS _ (by omega)]; exact b4 p hp
    · rw [ec _ _ (by decide) (by decide) (by decide) (by decide) (by decide), eS _ (by omega)]; exact b5 p hp
    · exact one _ _ _ (st _ _ _ (Or.inr (Or.inr (Or.inr (Or.inl ⟨rfl, rfl, rfl⟩))))) b6
    · exact one _ _ _ (st _ _ _ (Or.inr (Or.inr (Or.inr (Or.inr ⟨rfl, rfl, rfl⟩))))) b7
    · rw [ec _ _ (by decide) (by decide) (by decide) (by decide) (by decide), eS _ (by omega)]; exact b8
    · rw [eS _ (by omega), eS _ (by omega)]; exact i1 p hp
    · rw [eS _ (by omega), eS _ (by omega)]; exact i2 p hp
    · rw [eS _ (by omega)] at h
      rw [eS _ (by omega)]; exact i3 p hp h
    · exact ec _ _ (by omega) (by omega) (by omega) (by omega) (by omega)
    · exact ec _ _ (by decide) (by decide) (by decide) (by decide) (by decide)
    · exact ec _ _ (by decide) (by decide) (by decide) (by decide) (by decide)
    · exact eS j (by unfold tLg at hj; omega)
  · rw [apC_4, apL_4] at *
    have ec : ∀ c j, c ≠ 25 → apCV x y gc c j = gc c j := fun c j h1 => fu_nc h1
    have eS : ∀ j : Nat, (j : Int) ≠ 16 + 7 * x → apV x y gm 149 j = gm 149 j := fun j h1 => fu_nj (by omega)
    refine ⟨⟨r1, r2, r3, ?_, ?_, ?_, fun p hp => ?_, fun p hp => ?_, r4, r5⟩, ⟨fun p hp => ?_, fun p hp => ?_, fun p hp => ?_, fun p hp => ?_, fun p hp => ?_, ?_, ?_, ?_⟩, ⟨fun p hp => ?_, fun p hp => ?_, fun p hp h => ?_⟩, fun j => ?_, ?_, ?_, fun j hj => ?_⟩
    · rw [ec _ _ (by decide), eS _ (by omega)]; exact a4
    · rw [ec _ _ (by decide), eS _ (by omega)]; exact a5
    · rw [ec _ _ (by decide), eS _ (by omega)]; exact a6
    · rw [ec _ _ (by decide), eS _ (by omega)]; exact a7 p hp
    · rw [ec _ _ (by decide), eS _ (by omega)]; exact a8 p hp
    · rw [ec _ _ (by decide), eS _ (by omega)]; exact b1 p hp
    · rw [ec _ _ (by decide), eS _ (by omega)]; exact b2 p hp
    · unfold apCV apV
      by_cases e : (p : Int) = x
      · rw [show p = x.toNat by omega, fu_eq, show 16 + 7 * x.toNat = (12 + 7 * x + 4).toNat by omega, fu_eq]
      · rw [fu_nj (by omega), fu_nj (by omega)]; exact b3 p hp
    · rw [ec _ _ (by decide), eS _ (by omega)]; exact b4 p hp
    · rw [ec _ _ (by decide), eS _ (by omega)]; exact b5 p hp
    · rw [ec _ _ (by decide), eS _ (by omega)]; exact b6
    · rw [ec _ _ (by decide), eS _ (by omega)]; exact b7
    · rw [ec _ _ (by decide), eS _ (by omega)]; exact b8
    · rw [eS _ (by omega), eS _ (by omega)]; exact i1 p hp
    · rw [eS _ (by omega), eS _ (by omega)]; exact i2 p hp
    · rw [eS _ (by omega)] at h
      rw [eS _ (by omega)]; exact i3 p hp h
    · exact ec _ _ (by decide)
    · exact ec _ _ (by decide)
    · exact ec _ _ (by decide)
    · exact eS j (by unfold tLg at hj; omega)
end FHA
end
section
/-! fx: the house's text, whole: both sides -/
theorem cpT_f {g : Nat → Nat → Int} {a b j : Nat} (h4 : 5 ≤ j) (h9 : j ≤ 10) : cpT g a b b j = g a j := by
  unfold cpT
  rcases (by omega : j = 5 ∨ j = 6 ∨ j = 7 ∨ j = 8 ∨ j = 9 ∨ j = 10) with rfl | rfl | rfl | rfl | rfl | rfl
  all_goals simp only [fu_app, Nat.reduceEqDiff, and_true, and_false, if_true, if_false, ite_true, ite_false, reduceIte]
theorem cpT_a {g : Nat → Nat → Int} {a b i j : Nat} (h1 : 1 ≤ i) (h4 : i ≤ 5) (hd : a + 5 < b ∨ b + 5 < a) : cpT g a b (b + i) j = g (a + i) j := by
  unfold cpT
  rw [fu_nc (by omega), fu_nc (by omega), fu_nc (by omega), fu_nc (by omega), fu_nc (by omega), fu_nc (by omega)]
  rcases (by omega : i = 1 ∨ i = 2 ∨ i = 3 ∨ i = 4 ∨ i = 5) with rfl | rfl | rfl | rfl | rfl
  · rw [fcy_app, if_neg (by omega), fcy_app, if_neg (by omega), fcy_app, if_neg (by omega), fcy_app, if_neg (by omega), fcy_app, if_pos rfl]
  · rw [fcy_app, if_neg (by omega), fcy_app, if_neg (by omega), fcy_app, if_neg (by omega), fcy_app, if_pos rfl, fcy_app, if_neg (by omega)]
  · rw [fcy_app, if_neg (by omega), fcy_app, if_neg (by omega), fcy_app, if_pos rfl, fcy_app, if_neg (by omega), fcy_app, if_neg (by omega)]
  · rw [fcy_app, if_neg (by omega), fcy_app, if_pos rfl, fcy_app, if_neg (by omega), fcy_app, if_neg (by omega), fcy_app, if_neg (by omega)]
  · rw [fcy_app, if_pos rfl, fcy_app, if_neg (by omega), fcy_app, if_neg (by omega), fcy_app, if_neg (by omega), fcy_app, if_neg (by omega)]
/-- house and table of a row, the log apart -/
def RFx (h b : Nat) (gc : Nat → Nat → Int) (t : Nat → Int) : Prop := RHf h gc t ∧ RTf b gc t ∧ RIv t
section FHB
variable {T : Int → Int} {E : Int}
theorem RF_all : ∀ {n : Nat} {f : Int} {us : List (List Int)} {gc gm : Nat → Nat → Int}, pAll T E n (gm 149 3) (gm 149 4) f = Sum.inr us → pOk T E f → 0 ≤ gm 149 3 → gm 149 3 ≤ 8 → 0 ≤ gm 149 4 → gm 149 4 ≤ 6 → RFx 29 22 gc (gm 149) → RFx 29 22 (apCs T us gc) (apLs T us gm 149) ∧ (∀ j, apCs T us gc 27 j = gc 27 j) ∧ apCs T us gc 22 5 = gc 22 5 ∧ apCs T us gc 22 6 = gc 22 6 ∧ (∀ j, tLg j → apLs T us gm 149 j = gm 149 j)
  | 0, f, us, gc, gm, h, _, _, _, _, _, _ => by cases h
  | n + 1, f, us, gc, gm, h, hf, hp0, hp1, hd0, hd1, hr => by
    obtain ⟨⟨f', u⟩, e, h⟩ := bS_inr (show bS (pLine T E (gm 149 3) (gm 149 4) f) _ = Sum.inr us from h)
    obtain ⟨fo', hu⟩ := pLine_ok e hf hp1 hd1
    obtain ⟨s1, s2, s3, s4, s5, s6, s7⟩ := RF_line (T := T) hr.1 hr.2.1 hr.2.2 hu hp0 hp1 hd0 hd1
    obtain ⟨m1, m2, m3, m4, m5, m6, m7⟩ := apL_ok (T := T) hu hp0 hp1 hd0 hd1
    by_cases x1 : f' = E
    · have h : (if f' = E then Sum.inr [u] else if T f' = 59 then bS (pAll T E n (gm 149 3 + k0 u) (gm 149 4 + k1 u) (pSk T E (f' + 1))) (fun us => Sum.inr (u :: us)) else Sum.inl f' : Int ⊕ List (List Int)) = Sum.inr us := h
      rw [if_pos x1] at h
      cases h
      exact ⟨⟨s1, s2, s3⟩, s4, s5, s6, s7⟩
    · have h : (if f' = E then Sum.inr [u] else if T f' = 59 then bS (pAll T E n (gm 149 3 + k0 u) (gm 149 4 + k1 u) (pSk T E (f' + 1))) (fun us => Sum.inr (u :: us)) else Sum.inl f' : Int ⊕ List (List Int)) = Sum.inr us := h
      rw [if_neg x1] at h
      by_cases x2 : T f' = 59
      · rw [if_pos x2] at h
        obtain ⟨us', e2, h⟩ := bS_inr h
        cases h
        rw [← m1, ← m2] at e2
        have p0 := fo'.1
        have p1 := fo'.2.1
        obtain ⟨q1, q2, q3, q4, q5⟩ := RF_all e2 (pOk_sk (by omega) (by omega)) (by omega) (by omega) (by omega) (by omega) ⟨s1, s2, s3⟩
        exact ⟨q1, fun j => (q2 j).trans (s4 j), q3.trans s5, q4.trans s6, fun j t => (q5 j t).trans (s7 j t)⟩
      · rw [if_neg x2] at h
        cases h
theorem pText_relF {gc gm : Nat → Nat → Int} {us : List (List Int)} (hE : 0 ≤ E) (h : pText T E (gm 149 3) (gm 149 4) = Sum.inr us) (hp0 : 0 ≤ gm 149 3) (hp1 : gm 149 3 ≤ 8) (hd0 : 0 ≤ gm 149 4) (hd1 : gm 149 4 ≤ 6) (hr : RFx 29 22 gc (gm 149)) : RFx 29 22 (apCs T us gc) (apLs T us gm 149) ∧ (∀ j, apCs T us gc 27 j = gc 27 j) ∧ apCs T us gc 22 5 = gc 22 5 ∧ apCs T us gc 22 6 = gc 22 6 ∧ (∀ j, tLg j → apLs T us gm 149 j = gm 149 j) := by
  unfold pText at h
  by_cases c : pSk T E 0 = E
  · rw [if_pos c] at h; cases h; exact ⟨hr, fun _ => rfl, rfl, rfl, fun _ _ => rfl⟩
  · rw [if_neg c] at h
    exact RF_all h (pOk_sk (Int.le_refl 0) hE) hp0 hp1 hd0 hd1 hr
theorem RHf_eq {h h' : Nat} {g g' : Nat → Nat → Int} {t : Nat → Int} (q : RHf h g t) (e1 : ∀ j, 4 ≤ j → j ≤ 9 → g' h' j = g h j) (e2 : ∀ i j, 1 ≤ i → i ≤ 4 → g' (h' + i) j = g (h + i) j) : RHf h' g' t := by
  obtain ⟨a1, a2, a3, a4, a5, a6, a7, a8, a9, a10⟩ := q
  refine ⟨?_, ?_, ?_, ?_, ?_, ?_, fun p hp => ?_, fun p hp => ?_, fun j hj => ?_, fun j hj => ?_⟩
  · rw [e1 _ (by decide) (by decide)]; exact a1
  · rw [e1 _ (by decide) (by decide)]; exact a2
  · rw [e1 _ (by decide) (by decide)]; exact a3
  · rw [e1 _ (by decide) (by decide)]; exact a4
  · rw [e1 _ (by decide) (by decide)]; exact a5
  · rw [e1 _ (by decide) (by decide)]; exact a6
  · rw [e2 _ _ (by decide) (by decide)]; exact a7 p hp
  · rw [e2 _ _ (by decide) (by decide)]; exact a8 p hp
  · rw [e1 _ (by decide) (by decide)] at hj
    rw [e2 _ _ (by decide) (by decide)]; exact a9 j hj
  · rw [e2 _ _ (by decide) (by decide)]; exact a10 j hj
theorem RTf_eq {b b' : Nat} {g g' : Nat → Nat → Int} {t : Nat → Int} (q : RTf b g t) (e1 : ∀ j, 7 ≤ j → j ≤ 10 → g' b' j = g b j) (e2 : ∀ i j, 1 ≤ i → i ≤ 4 → g' (b' + i) j = g (b + i) j) : RTf b' g' t := by
  obtain ⟨a1, a2, a3, a4, a5, a6, a7, a8⟩ := q
  refine ⟨fun p hp => ?_, fun p hp => ?_, fun p hp => ?_, fun p hp => ?_, fun p hp => ?_, ?_, ?_, ?_⟩
  · rw [e2 _ _ (by decide) (by decide)]; exact a1 p hp
  · rw [e2 _ _ (by decide) (by decide)]; exact a2 p hp
  · rw [e2 _ _ (by decide) (by decide)]; exact a3 p hp
  · rw [e2 _ _ (by decide) (by decide)]; exact a4 p hp
  · rw [e1 _ (by decide) (by decide)]; exact a5 p hp
  · rw [e1 _ (by decide) (by decide)]; exact a6
  · rw [e1 _ (by decide) (by decide)]; exact a7
  · rw [e1 _ (by decide) (by decide)]; exact a8
end FHB
section FHB2
variable {W : ax_W} {r : Nat} {g : Nat → Nat → Int} {Q : Nat → Nat → (Nat → Nat → Int) → Prop} {T : Int → Int} {E : Int}
theorem sp_chouseF (hr : 1 ≤ r) (hT : ∀ k : Int, 0 ≤ k → k < 400 → g 2 k.toNat = T k ∧ 0 ≤ T k ∧ T k ≤ 255) (hE : g 1 1 = E) (hE0 : 0 ≤ E) (hE1 : E ≤ 400) (hp0 : 0 ≤ g 3 4) (hp1 : g 3 4 ≤ 8) (hd0 : 0 ≤ g 3 5) (hd1 : g 3 5 ≤ 6) (ht0 : 0 ≤ g 3 6) (ht1 : g 3 6 ≤ 12)
    (k1 : ∀ q, pText T E (g 3 4) (g 3 5) = Sum.inl q → ∀ g', frc g g' → g' 1 1 = 0 → g' 0 18 = q → Q 2 0 g')
    (k2 : ∀ us, pText T E (g 3 4) (g 3 5) = Sum.inr us → g 3 6 = 12 → ∀ g', frc g g' → g' 1 1 = 0 → g' 0 18 = -1 → Q 3 0 g')
    (k3 : ∀ us, pText T E (g 3 4) (g 3 5) = Sum.inr us → g 3 6 ≠ 12 → ∀ A, A = apCs T us (cpT (cpH (fUse T E g) 3 29) 16 22) → ∀ g', frd g g' → g' 1 1 = 0 → g' 0 18 = -1 → g' 0 16 = 0 → g' 3 6 = g 3 6 + 1 → (∀ j, 4 ≤ j → j ≤ 9 → j ≠ 6 → g' 3 j = A 29 j) → (∀ i j, 1 ≤ i → i ≤ 4 → g' (3 + i) j = A (29 + i) j) → (∀ j, 5 ≤ j → j ≤ 10 → g' 16 j = A 22 j) → (∀ i j, 1 ≤ i → i ≤ 5 → g' (16 + i) j = A (22 + i) j) → Q 1 (fI (g 3 6 + 1)) g') : fx W r 10 70 0 [2, 7] [] g Q := by
  have st := fUse_st (T := T) (E := E) hT hE hE0 hE1
  have ne : ∀ c j, (c < 22 ∨ 33 < c) → ¬ (c = 1 ∧ j = 1) → cpT (cpH (fUse T E g) 3 29) 16 22 c j = g c j := fun c j h1 h2 => by
    rw [cpT_ne (by omega), cpH_ne (by omega), fUse_ne (by omega) h2]
  have n28 : ∀ j, cpT (cpH (fUse T E g) 3 29) 16 22 28 j = fUse T E g 28 j := fun j => by
    rw [cpT_ne (by decide), cpH_ne (by decide)]
  have dr : ∀ j, 4 ≤ j → j ≤ 9 → cpT (cpH (fUse T E g) 3 29) 16 22 29 j = g 3 j := fun j h1 h2 => by
    rw [cpT_ne (by decide), cpH_f h1 h2, fUse_ne (by decide) (fun t => absurd t.1 (by decide))]
  have da : ∀ i j, 1 ≤ i → i ≤ 4 → cpT (cpH (fUse T E g) 3 29) 16 22 (29 + i) j = g (3 + i) j := fun i j h1 h2 => by
    rw [cpT_ne (by omega), cpH_a h1 h2 (by decide), fUse_ne (by omega) (by omega)]
  have le : cpT (cpH (fUse T E g) 3 29) 16 22 1 1 = 0 := by
    rw [cpT_ne (by decide), cpH_ne (by decide), fUse_l]
  have wr : cpT (cpH (fUse T E g) 3 29) 16 22 28 1 = -1 := by
    rw [n28, fUse_w]
  have st : cSt T E (cpT (cpH (fUse T E g) 3 29) 16 22) (pSk T E 0) := by
    obtain ⟨s1, s2, s3, s4⟩ := st
    exact ⟨CT_eq s1 (n28 _) (fun j => by rw [cpT_ne (by decide), cpH_ne (by decide)]), by rw [n28]; exact s2, by rw [n28]; exact s3, s4⟩
  refine fx_la 0 1 (v := 2) (by decide +kernel) rfl (by decide +kernel) ?_
  refine fx_gp 2 0 5 226 4 (by decide +kernel) ?_
  refine fx_la 0 5 (v := 2) (by decide +kernel) rfl (by decide +kernel) ?_
  refine fx_gp 2 0 1 26 8 (by decide +kernel) ?_
  refine fx_la 0 9 (v := 2) (by decide +kernel) rfl (by decide +kernel) ?_
  refine fx_gp 2 0 3 130 12 (by decide +kernel) ?_
  refine fx_c3 71 21 15 2 [] (by decide +kernel) (by decide) (by decide) (by decide) (by decide) rfl (by first | decide | omega) ?_
  refine sp_startFrom hT hE hE0 hE1 (fK0 ?_)
  generalize hG : cpT (cpH (fUse T E g) 3 29) 16 22 = G at *
  refine fx_la 0 16 (v := 2) (by decide +kernel) rfl (by decide +kernel) ?_
  refine fx_gp 2 0 5 226 19 (by decide +kernel) ?_
  refine fx_ci (14) 21 (by decide +kernel) ?_
  refine fx_c2 75 21 24 9 [7] (by decide +kernel) (by decide) (by decide) (fI_n4 _) rfl (by first | decide | omega) ?_
  refine sp_readLines st wr (by rw [dr 4 (by decide) (by decide)]; exact hp0) (by rw [dr 4 (by decide) (by decide)]; exact hp1) (by rw [dr 5 (by decide) (by decide)]; exact hd0) (by rw [dr 5 (by decide) (by decide)]; exact hd1) (fun us e f' => fK1 ?_) (fun q e g' e1 e2 => fK1 ?_)
  · rw [dr 4 (by decide) (by decide), dr 5 (by decide) (by decide)] at e
    have eG : pText T E (G 29 4) (G 29 5) = Sum.inr us := by rw [dr 4 (by decide) (by decide), dr 5 (by decide) (by decide)]; exact e
    obtain ⟨x1, x2, x3⟩ := pText_cls hE0 eG (by rw [dr 4 (by decide) (by decide)]; exact hp0) (by rw [dr 4 (by decide) (by decide)]; exact hp1) (by rw [dr 5 (by decide) (by decide)]; exact hd0) (by rw [dr 5 (by decide) (by decide)]; exact hd1)
    have cw : cAt T E (apCs T us G) f' 28 1 = -1 := by unfold cAt; rw [fu_nj (by decide), fu_nj (by decide), x2]; exact wr
    have cn : ∀ c j, c ≠ 28 → cAt T E (apCs T us G) f' c j = apCs T us G c j := fun c j h => by unfold cAt; rw [fu_nc h, fu_nc h]
    have cx : ∀ c j, (c < 22 ∨ 33 < c) → ¬ (c = 1 ∧ j = 1) → cAt T E (apCs T us G) f' c j = g c j := fun c j h1 h2 => by rw [cn c j (by omega), x1 c j (by omega)]; exact ne c j h1 h2
    have cl : cAt T E (apCs T us G) f' 1 1 = 0 := by rw [cn _ _ (by decide), x1 _ _ (by decide)]; exact le
    have c6 : cAt T E (apCs T us G) f' 29 6 = g 3 6 := by rw [cn _ _ (by decide), x3]; exact dr 6 (by decide) (by decide)
    generalize cAt T E (apCs T us G) f' = A at *
    refine fx_si 1 25 (by decide +kernel) (Or.inr (f_n4p (v := 2) rfl (by decide))) rfl ?_
    dsimp only [List.set]
    refine fx_la 0 26 (v := 2) (by decide +kernel) rfl (by decide +kernel) ?_
    refine fx_la 0 27 (v := 2) (by decide +kernel) rfl (by decide +kernel) ?_
    refine fx_gp 2 0 5 226 30 (by decide +kernel) ?_
    refine fx_gi 226 28 1 33 (by decide +kernel) ?_
    try simp only [fu_app, fcy_app, Nat.reduceEqDiff, and_true, and_false, false_and, true_and, if_true, if_false, ite_true, ite_false, reduceIte, Int.reduceToNat, fx_simp0]
    rw [cw]
    refine fx_pi 2 0 18 36 (by decide +kernel) (by unfold fR; omega) ?_
    refine fx_li 1 37 (by decide +kernel) rfl ?_
    refine fx_zne 50 40 (by decide +kernel) (by unfold fR; omega) (fun _ => ?_) (fun hc => absurd hc (by decide))
    refine fx_la 0 51 (v := 2) (by decide +kernel) rfl (by decide +kernel) ?_
    refine fx_gp 2 0 1 26 54 (by decide +kernel) ?_
    skip
    refine fx_gi 26 3 6 57 (by decide +kernel) ?_
    try simp only [fu_app, fcy_app, Nat.reduceEqDiff, and_true, and_false, false_and, true_and, if_true, if_false, ite_true, ite_false, reduceIte, Int.reduceToNat, fx_simp0]
    rw [cx _ _ (by decide) (by decide)]
    refine fx_ci (12) 59 (by decide +kernel) ?_
    refine fx_ilt 72 62 (by decide +kernel) (by unfold fR; omega) (by unfold fR; omega) (fun h59 => ?_) (fun h59 => ?_)
    · refine fx_la 0 73 (v := 2) (by decide +kernel) rfl (by decide +kernel) ?_
      refine fx_gp 2 0 1 26 76 (by decide +kernel) ?_
      refine fx_la 0 77 (v := 2) (by decide +kernel) rfl (by decide +kernel) ?_
      refine fx_gp 2 0 5 226 80 (by decide +kernel) ?_
      refine fx_gp 226 28 5 234 83 (by decide +kernel) ?_
      refine fx_c2 65 21 86 0 [] (by decide +kernel) (by decide) (by decide) (by decide) rfl (by first | decide | omega) ?_
      refine sp_cpH_draft_house (fK0 ?_)
      refine fx_la 0 87 (v := 2) (by decide +kernel) rfl (by decide +kernel) ?_
      refine fx_gp 2 0 1 26 90 (by decide +kernel) ?_
      refine fx_dup 91 (by decide +kernel) rfl (by decide) ?_
      refine fx_gi 26 3 6 94 (by decide +kernel) ?_
      try simp only [fu_app, fcy_app, Nat.reduceEqDiff, and_true, and_false, false_and, true_and, if_true, if_false, ite_true, ite_false, reduceIte, Int.reduceToNat, fx_simp0]
      rw [cpH_f (by decide) (by decide), fu_nc (by decide), c6]
      refine fx_ci (1) 95 (by decide +kernel) ?_
      refine fx_add 96 (by decide +kernel) rfl ?_
      refine fx_pi 26 3 6 99 (by decide +kernel) (by unfold fR; omega) ?_
      refine fx_la 0 100 (v := 2) (by decide +kernel) rfl (by decide +kernel) ?_
      refine fx_gp 2 0 3 130 103 (by decide +kernel) ?_
      refine fx_la 0 104 (v := 2) (by decide +kernel) rfl (by decide +kernel) ?_
      refine fx_gp 2 0 4 178 107 (by decide +kernel) ?_
      refine fx_c2 63 21 110 0 [] (by decide +kernel) (by decide) (by decide) (by decide) rfl (by first | decide | omega) ?_
      refine sp_cpT_scratch_table (fK0 ?_)
      refine fx_la 0 111 (v := 2) (by decide +kernel) rfl (by decide +kernel) ?_
      refine fx_ci (0) 112 (by decide +kernel) ?_
      refine fx_pi 2 0 16 115 (by decide +kernel) (by unfold fR; omega) ?_
      refine fx_la 0 116 (v := 2) (by decide +kernel) rfl (by decide +kernel) ?_
      refine fx_gp 2 0 1 26 119 (by decide +kernel) ?_
      refine fx_gi 26 3 6 122 (by decide +kernel) ?_
      try simp only [fu_app, fcy_app, Nat.reduceEqDiff, and_true, and_false, false_and, true_and, if_true, if_false, ite_true, ite_false, reduceIte, Int.reduceToNat, fx_simp0]
      refine fx_ret (by decide +kernel) ?_
      have kk := k3 us e (by omega) (apCs T us G) rfl
      generalize apCs T us G = B at *
      refine kk _ (fun c j h1 h2 h3 h4 => ?_) ?_ ?_ ?_ ?_ (fun j h1 h2 h3 => ?_) (fun i j h1 h2 => ?_) (fun j h1 h2 => ?_) (fun i j h1 h2 => ?_)
      · rw [fu_ne (by omega), cpT_ne (by omega), fu_nc (by omega), cpH_ne (by omega), fu_ne (by omega)]
        exact cx c j (by omega) h3
      · rw [fu_nc (by decide), cpT_ne (by decide), fu_nc (by decide), cpH_ne (by decide), fu_nc (by decide)]; exact cl
      · rw [fu_nj (by decide), cpT_ne (by decide), fu_nc (by decide), cpH_ne (by decide), fu_eq]
      · rw [fu_eq]
      · rw [fu_nc (by decide), cpT_ne (by decide), fu_eq]
      · rw [fu_nc (by decide), cpT_ne (by decide), fu_nj h3, cpH_f h1 h2, fu_nc (by decide)]
        exact cn _ _ (by decide)
      · rw [fu_nc (by omega), cpT_ne (by omega), fu_nc (by omega), cpH_a h1 h2 (by decide), fu_nc (by omega)]
        exact cn _ _ (by omega)
      · rw [fu_nc (by decide), cpT_f h1 h2, fu_nc (by decide), cpH_ne (by decide), fu_nc (by decide)]
        exact cn _ _ (by decide)
      · rw [fu_nc (by omega), cpT_a h1 h2 (by decide), fu_nc (by omega), cpH_ne (by omega), fu_nc (by omega)]
        exact cn _ _ (by omega)
    · refine fx_throw 1 (by decide +kernel) rfl (by omega) ?_
      refine k2 us e (by omega) _ (fun c j h1 h2 h3 => ?_) ?_ ?_
      · rw [fu_ne (fun t => h3 t)]
        exact cx c j (by omega) h2
      · rw [fu_nc (by decide)]; exact cl
      · rw [fu_eq]
  · rw [dr 4 (by decide) (by decide), dr 5 (by decide) (by decide)] at e
    have qb := pText_bad hE0 e hp1 hd1
    refine fx_si 1 25 (by decide +kernel) (Or.inr (f_n4p (v := 2) rfl (by decide))) rfl ?_
    dsimp only [List.set]
    refine fx_la 0 26 (v := 2) (by decide +kernel) rfl (by decide +kernel) ?_
    refine fx_la 0 27 (v := 2) (by decide +kernel) rfl (by decide +kernel) ?_
    refine fx_gp 2 0 5 226 30 (by decide +kernel) ?_
    refine fx_gi 226 28 1 33 (by decide +kernel) ?_
    try simp only [fu_app, fcy_app, Nat.reduceEqDiff, and_true, and_false, false_and, true_and, if_true, if_false, ite_true, ite_false, reduceIte, Int.reduceToNat, fx_simp0]
    refine fx_pi 2 0 18 36 (by decide +kernel) (by unfold fR; omega) ?_
    refine fx_li 1 37 (by decide +kernel) rfl ?_
    refine fx_zne 50 40 (by decide +kernel) (by unfold fR; omega) (fun hc => absurd hc (by decide)) (fun _ => ?_)
    refine fx_throw 0 (by decide +kernel) rfl (by omega) ?_
    refine k1 q e _ (fun c j h1 h2 h3 => ?_) ?_ ?_
    · rw [fu_ne (fun t => h3 t), e1 c j h1]
      exact ne c j (by omega) h2
    · rw [fu_nc (by decide), e1 _ _ (by decide)]; exact le
    · rw [fu_eq]; exact e2
end FHB2
end
section
/-! fx: bits of numbers that are not below 0 -/
theorem i32_nat {a : Nat} (h : a < 2147483648) : (Int32.ofInt (a : Int)).toBitVec = BitVec.ofNat 32 a := by
  have e : (Int32.ofInt (a : Int)).toBitVec = BitVec.ofInt 32 (a : Int) := rfl
  rw [e, BitVec.ofInt_natCast]
theorem bv_int {x : BitVec 32} {n : Nat} (h : x.toNat = n) (hn : n < 2147483648) : x.toInt = (n : Int) := by
  rw [BitVec.toInt_eq_toNat_of_lt (by omega), h]
theorem fop_bv (o : Nat) (x y : Int) : fop o x y = (sx_bf o (Int32.ofInt x) (Int32.ofInt y)).toBitVec.toInt := rfl
theorem fop_or_n {a b : Nat} (ha : a < 2147483648) (hb : b < 2147483648) : fop 4 (a : Int) (b : Int) = ((a ||| b : Nat) : Int) := by
  have e : fop 4 (a : Int) (b : Int) = (Int32.ofInt (a : Int) ||| Int32.ofInt (b : Int)).toBitVec.toInt := rfl
  rw [e, Int32.toBitVec_or, i32_nat ha, i32_nat hb]
  refine bv_int ?_ (Nat.or_lt_two_pow (n := 31) ha hb)
  rw [BitVec.toNat_or, BitVec.toNat_ofNat, BitVec.toNat_ofNat, Nat.mod_eq_of_lt (by omega), Nat.mod_eq_of_lt (by omega)]
theorem fop_and_n {a b : Nat} (ha : a < 2147483648) (hb : b < 2147483648) : fop 3 (a : Int) (b : Int) = ((a &&& b : Nat) : Int) := by
  have e : fop 3 (a : Int) (b : Int) = (Int32.ofInt (a : Int) &&& Int32.ofInt (b : Int)).toBitVec.toInt := rfl
  rw [e, Int32.toBitVec_and, i32_nat ha, i32_nat hb]
  refine bv_int ?_ (Nat.lt_of_le_of_lt Nat.and_le_left ha)
  rw [BitVec.toNat_and, BitVec.toNat_ofNat, BitVec.toNat_ofNat, Nat.mod_eq_of_lt (by omega), Nat.mod_eq_of_lt (by omega)]
theorem i32_am : ∀ q : Fin 32, ((Int32.ofInt ((q.val : Nat) : Int) &&& 31).toBitVec.smod 32) = BitVec.ofNat 32 q.val := by decide +kernel
theorem i32_sm : ∀ q : Fin 32, (((Int32.ofInt ((q.val : Nat) : Int) &&& 31).toBitVec).smod 32).toNat = q.val := by decide +kernel
theorem fop_shl_n {a k : Nat} (hk : k < 32) (h : a <<< k < 2147483648) : fop 6 (a : Int) (k : Int) = ((a <<< k : Nat) : Int) := by
  have ha : a < 2147483648 := Nat.lt_of_le_of_lt (by rw [Nat.shiftLeft_eq]; exact Nat.le_mul_of_pos_right a (Nat.two_pow_pos k)) h
  have e : fop 6 (a : Int) (k : Int) = (Int32.ofInt (a : Int) <<< (Int32.ofInt (k : Int) &&& 31)).toBitVec.toInt := rfl
  rw [e, Int32.toBitVec_shiftLeft, i32_nat ha, i32_am ⟨k, hk⟩]
  refine bv_int ?_ h
  rw [BitVec.shiftLeft_eq', BitVec.toNat_shiftLeft, BitVec.toNat_ofNat, BitVec.toNat_ofNat, Nat.mod_eq_of_lt (a := a) (by omega), Nat.mod_eq_of_lt (a := k) (by omega), Nat.mod_eq_of_lt (by omega)]
theorem fop_shr_n {a k : Nat} (hk : k < 32) (ha : a < 2147483648) : fop 7 (a : Int) (k : Int) = ((a >>> k : Nat) : Int) := by
  have e : fop 7 (a : Int) (k : Int) = (Int32.ofInt (a : Int) >>> (Int32.ofInt (k : Int) &&& 31)).toBitVec.toInt := rfl
  rw [e, Int32.toBitVec_shiftRight, i32_nat ha, i32_am ⟨k, hk⟩]
  have hm : (BitVec.ofNat 32 a).msb = false := by
    rw [BitVec.msb_eq_false_iff_two_mul_lt, BitVec.toNat_ofNat, Nat.mod_eq_of_lt (by omega)]
    omega
  have hk2 : (BitVec.ofNat 32 k).toNat = k := by rw [BitVec.toNat_ofNat]; omega
  unfold BitVec.sshiftRight'
  rw [hk2, BitVec.sshiftRight_eq_of_msb_false hm]
  refine bv_int ?_ (Nat.lt_of_le_of_lt (by rw [Nat.shiftRight_eq_div_pow]; exact Nat.div_le_self _ _) ha)
  rw [BitVec.toNat_ushiftRight, BitVec.toNat_ofNat, Nat.mod_eq_of_lt (by omega)]
/-- a row of the log in one number -/
def pkL (n p k w : Int) : Int := 256 * n + 32 * p + 8 * k + w
theorem fop_pk {n p k w : Int} (n0 : 0 ≤ n) (n1 : n ≤ 9999) (p0 : 0 ≤ p) (p1 : p ≤ 7) (k0 : 0 ≤ k) (k1 : k ≤ 3) (w0 : 0 ≤ w) (w1 : w ≤ 7) : fop 4 (fop 4 (fop 4 (fop 6 n 8) (fop 6 p 5)) (fop 6 k 3)) w = pkL n p k w := by
  obtain ⟨n, rfl⟩ := Int.eq_ofNat_of_zero_le n0
  obtain ⟨p, rfl⟩ := Int.eq_ofNat_of_zero_le p0
  obtain ⟨k, rfl⟩ := Int.eq_ofNat_of_zero_le k0
  obtain ⟨w, rfl⟩ := Int.eq_ofNat_of_zero_le w0
  have s1 : n <<< 8 = 256 * n := by rw [Nat.shiftLeft_eq]; omega
  have s2 : p <<< 5 = 32 * p := by rw [Nat.shiftLeft_eq]; omega
  have s3 : k <<< 3 = 8 * k := by rw [Nat.shiftLeft_eq]; omega
  have e1 : fop 6 (n : Int) 8 = ((n <<< 8 : Nat) : Int) := fop_shl_n (k := 8) (by decide) (by omega)
  have e2 : fop 6 (p : Int) 5 = ((p <<< 5 : Nat) : Int) := fop_shl_n (k := 5) (by decide) (by omega)
  have e3 : fop 6 (k : Int) 3 = ((k <<< 3 : Nat) : Int) := fop_shl_n (k := 3) (by decide) (by omega)
  have o1 : n <<< 8 ||| p <<< 5 = 256 * n + 32 * p := by
    rw [← Nat.shiftLeft_add_eq_or_of_lt (show p <<< 5 < 2 ^ 8 by omega) n]; omega
  have o2 : (256 * n + 32 * p) ||| k <<< 3 = 256 * n + 32 * p + 8 * k := by
    rw [show 256 * n + 32 * p = (8 * n + p) <<< 5 by rw [Nat.shiftLeft_eq]; omega, ← Nat.shiftLeft_add_eq_or_of_lt (show k <<< 3 < 2 ^ 5 by omega), Nat.shiftLeft_eq]; omega
  have o3 : (256 * n + 32 * p + 8 * k) ||| w = 256 * n + 32 * p + 8 * k + w := by
    rw [show 256 * n + 32 * p + 8 * k = (32 * n + 4 * p + k) <<< 3 by rw [Nat.shiftLeft_eq]; omega, ← Nat.shiftLeft_add_eq_or_of_lt (show w < 2 ^ 3 by omega), Nat.shiftLeft_eq]
  rw [e1, e2, e3, fop_or_n (by omega) (by omega), o1, fop_or_n (by omega) (by omega), o2, fop_or_n (by omega) (by omega), o3]
  unfold pkL
  omega
theorem pkL_n {n p k w : Int} (n0 : 0 ≤ n) (n1 : n ≤ 9999) (p0 : 0 ≤ p) (p1 : p ≤ 7) (k0 : 0 ≤ k) (k1 : k ≤ 3) (w0 : 0 ≤ w) (w1 : w ≤ 7) : fop 7 (pkL n p k w) 8 = n ∧ fop 3 (fop 7 (pkL n p k w) 5) 7 = p ∧ fop 3 (fop 7 (pkL n p k w) 3) 3 = k ∧ fop 3 (pkL n p k w) 7 = w := by
  obtain ⟨n, rfl⟩ := Int.eq_ofNat_of_zero_le n0
  obtain ⟨p, rfl⟩ := Int.eq_ofNat_of_zero_le p0
  obtain ⟨k, rfl⟩ := Int.eq_ofNat_of_zero_le k0
  obtain ⟨w, rfl⟩ := Int.eq_ofNat_of_zero_le w0
  have e : pkL (n : Int) (p : Int) (k : Int) (w : Int) = ((256 * n + 32 * p + 8 * k + w : Nat) : Int) := by unfold pkL; omega
  rw [e]
  have e8 : fop 7 ((256 * n + 32 * p + 8 * k + w : Nat) : Int) 8 = (((256 * n + 32 * p + 8 * k + w) >>> 8 : Nat) : Int) := fop_shr_n (k := 8) (by decide) (by omega)
  have e5 : fop 7 ((256 * n + 32 * p + 8 * k + w : Nat) : Int) 5 = (((256 * n + 32 * p + 8 * k + w) >>> 5 : Nat) : Int) := fop_shr_n (k := 5) (by decide) (by omega)
  have e3 : fop 7 ((256 * n + 32 * p + 8 * k + w : Nat) : Int) 3 = (((256 * n + 32 * p + 8 * k + w) >>> 3 : Nat) : Int) := fop_shr_n (k := 3) (by decide) (by omega)
  have a7 : ∀ x : Nat, x < 2147483648 → fop 3 (x : Int) 7 = ((x % 8 : Nat) : Int) := fun x hx => by
    rw [show (7 : Int) = ((7 : Nat) : Int) from rfl, fop_and_n hx (by decide), show (7 : Nat) = 2 ^ 3 - 1 from rfl, Nat.and_two_pow_sub_one_eq_mod]
  have a3 : ∀ x : Nat, x < 2147483648 → fop 3 (x : Int) 3 = ((x % 4 : Nat) : Int) := fun x hx => by
    rw [show (3 : Int) = ((3 : Nat) : Int) from rfl, fop_and_n hx (by decide), show (3 : Nat) = 2 ^ 2 - 1 from rfl, Nat.and_two_pow_sub_one_eq_mod]
  have d8 : (256 * n + 32 * p + 8 * k + w) >>> 8 = n := by rw [Nat.shiftRight_eq_div_pow]; omega
  have d5 : (256 * n + 32 * p + 8 * k + w) >>> 5 = 8 * n + p := by rw [Nat.shiftRight_eq_div_pow]; omega
  have d3 : (256 * n + 32 * p + 8 * k + w) >>> 3 = 32 * n + 4 * p + k := by rw [Nat.shiftRight_eq_div_pow]; omega
  rw [e8, e5, e3, d8, d5, d3, a7 _ (by omega), a3 _ (by omega), a7 _ (by omega)]
  exact ⟨rfl, by omega, by omega, by omega⟩
end
section
/-! fx: a row of the log, on both sides -/
/-- the reference's row anew -/
def frow (g : Nat → Nat → Int) (t : Nat → Int) : Nat → Nat → Int := fun c j => if c = 149 then t j else g c j
theorem frow_m (g : Nat → Nat → Int) (t : Nat → Int) (j : Nat) : frow g t 149 j = t j := if_pos rfl
theorem frow_mm (g : Nat → Nat → Int) (t : Nat → Int) : frow g t 149 = t := by funext j; exact if_pos rfl
theorem frow_ne {g : Nat → Nat → Int} {t : Nat → Int} {c j : Nat} (h : c ≠ 149) : frow g t c j = g c j := if_neg h
theorem frow_self (g : Nat → Nat → Int) : frow g (g 149) = g := by
  funext c j
  unfold frow
  split
  · rename_i h; rw [h]
  · rfl
theorem frow_frow (g : Nat → Nat → Int) (t t' : Nat → Int) : frow (frow g t) t' = frow g t' := by
  funext c j
  unfold frow
  split <;> rfl
/-- one place of a row anew -/
def tU (t : Nat → Int) (k : Nat) (z : Int) : Nat → Int := fun j => if j = k then z else t j
theorem tU_eq (t : Nat → Int) (k : Nat) (z : Int) : tU t k z k = z := if_pos rfl
theorem tU_ne {t : Nat → Int} {k j : Nat} {z : Int} (h : j ≠ k) : tU t k z j = t j := if_neg h
theorem frow_fu (g : Nat → Nat → Int) (t : Nat → Int) (k : Nat) (z : Int) : fu (frow g t) 149 k z = frow g (tU t k z) := by
  funext c j
  unfold fu frow tU
  by_cases h : c = 149
  · by_cases h2 : j = k
    · rw [if_pos ⟨h, h2⟩, if_pos h, if_pos h2]
    · rw [if_neg (fun q => h2 q.2), if_pos h, if_pos h, if_neg h2]
  · rw [if_neg (fun q => h q.1), if_neg h, if_neg h]
theorem frow_fu0 (g : Nat → Nat → Int) (k : Nat) (z : Int) : fu g 149 k z = frow g (tU (g 149) k z) := by
  rw [← frow_fu, frow_self]
theorem frow_sw (g : Nat → Nat → Int) (t : Nat → Int) {c j : Nat} {z : Int} (h : c ≠ 149) : fu (frow g t) c j z = frow (fu g c j z) t := by
  funext c' j'
  unfold fu frow
  by_cases e : c' = c ∧ j' = j
  · rw [if_pos e, if_neg (fun q => h (e.1.symm.trans q))]
    exact (if_pos e).symm
  · rw [if_neg e]
    by_cases e2 : c' = 149
    · rw [if_pos e2, if_pos e2]
    · rw [if_neg e2, if_neg e2]
      exact (if_neg e).symm
/-- the log, a row ahead of the others -/
def tNote (t : Nat → Int) (p k w : Int) : Nat → Int := fun j => if j = 10 then (if 60 < t 10 + 1 then 60 else t 10 + 1) else if j = 124 then t 9 else if j = 125 then p else if j = 126 then k else if j = 127 then w else if 128 ≤ j ∧ j < 364 then t (j - 4) else t j
def lgS (g : Nat → Nat → Int) (k : Int) : Nat → Nat → Int := fun c j => if c = 149 ∧ 124 + k < j ∧ j < 364 then g 149 (j - 4) else g c j
section FHD
variable {W : ax_W} {r : Nat} {g : Nat → Nat → Int} {Q : Nat → Nat → (Nat → Nat → Int) → Prop}
theorem sp_mlesser {v w : Int} (hv : fR v) (hw : fR w) (kq : Q 1 (fI (if v < w then v else w)) g) : fx W r 0 321 0 [fI v, fI w] [] g Q := by
  unfold fR at hv hw
  refine fx_li 0 1 (by decide +kernel) rfl ?_
  refine fx_li 1 2 (by decide +kernel) rfl ?_
  refine fx_ige 9 5 (by decide +kernel) (by unfold fR; omega) (by unfold fR; omega) (fun h2 => ?_) (fun h2 => ?_)
  · refine fx_li 1 10 (by decide +kernel) rfl ?_
    refine fx_ret (by decide +kernel) ?_
    rw [if_neg (by omega)] at kq
    exact kq
  · refine fx_li 0 6 (by decide +kernel) rfl ?_
    refine fx_go 10 (by decide +kernel) ?_
    refine fx_ret (by decide +kernel) ?_
    rw [if_pos (by omega)] at kq
    exact kq
theorem sp_mgreater {v w : Int} (hv : fR v) (hw : fR w) (kq : Q 1 (fI (if v > w then v else w)) g) : fx W r 0 316 0 [fI v, fI w] [] g Q := by
  unfold fR at hv hw
  refine fx_li 0 1 (by decide +kernel) rfl ?_
  refine fx_li 1 2 (by decide +kernel) rfl ?_
  refine fx_ile 9 5 (by decide +kernel) (by unfold fR; omega) (by unfold fR; omega) (fun h2 => ?_) (fun h2 => ?_)
  · refine fx_li 1 10 (by decide +kernel) rfl ?_
    refine fx_ret (by decide +kernel) ?_
    rw [if_neg (by omega)] at kq
    exact kq
  · refine fx_li 0 6 (by decide +kernel) rfl ?_
    refine fx_go 10 (by decide +kernel) ?_
    refine fx_ret (by decide +kernel) ?_
    rw [if_pos (by omega)] at kq
    exact kq
theorem sp_mlogs_1 {p k w : Int} (hp : fR p) (hk : fR k) (hw : fR w) (h0 : 0 ≤ g 149 10) (h1 : g 149 10 ≤ 60) (kq : Q 0 0 (frow g (tNote (g 149) p k w))) : ∀ (n : Nat) (i : Int), i = 3 + n → n ≤ 236 → fx W r 1 322 5 [1186, fI p, fI k, fI w, fI i] [] (lgS g i) Q
  | n, i, hi, hn => by
    refine fx_rg (fun hg => ?_)
    have r9 := hgA hg 764 (c := 149) (j := 9) (by decide +kernel) (by decide)
    have e9 : lgS g i 149 9 = g 149 9 := if_neg (by omega)
    have e10 : lgS g i 149 10 = g 149 10 := if_neg (by omega)
    unfold fR at hp hk hw
    refine fx_li 4 7 (by decide +kernel) rfl ?_
    refine fx_ci (4) 8 (by decide +kernel) ?_
    refine fx_ilt 39 11 (by decide +kernel) (by unfold fR; omega) (by unfold fR; omega) (fun h8 => ?_) (fun h8 => ?_)
    · refine fx_la 0 40 (v := 1186) (by decide +kernel) rfl (by decide +kernel) ?_
      refine fx_gp 1186 148 1 1194 43 (by decide +kernel) ?_
      refine fx_ci (124) 45 (by decide +kernel) ?_
      refine fx_la 0 46 (v := 1186) (by decide +kernel) rfl (by decide +kernel) ?_
      refine fx_gp 1186 148 1 1194 49 (by decide +kernel) ?_
      refine fx_ci (9) 51 (by decide +kernel) ?_
      unfold fR at r9
      rw [e9] at r9
      refine fx_al 1194 149 764 52 (by decide +kernel) rfl (by omega) (by omega) rfl ?_
      try simp only [fu_app, fcy_app, Nat.reduceEqDiff, and_true, and_false, false_and, true_and, if_true, if_false, ite_true, ite_false, reduceIte, Int.reduceToNat, fx_simp0]
      rw [e9]
      refine fx_as 1194 149 764 53 (by decide +kernel) rfl (by omega) (by omega) rfl (by unfold fR; omega) ?_
      refine fx_la 0 54 (v := 1186) (by decide +kernel) rfl (by decide +kernel) ?_
      refine fx_gp 1186 148 1 1194 57 (by decide +kernel) ?_
      refine fx_ci (125) 59 (by decide +kernel) ?_
      refine fx_li 1 60 (by decide +kernel) rfl ?_
      refine fx_as 1194 149 764 61 (by decide +kernel) rfl (by omega) (by omega) rfl (by unfold fR; omega) ?_
      refine fx_la 0 62 (v := 1186) (by decide +kernel) rfl (by decide +kernel) ?_
      refine fx_gp 1186 148 1 1194 65 (by decide +kernel) ?_
      refine fx_ci (126) 67 (by decide +kernel) ?_
      refine fx_li 2 68 (by decide +kernel) rfl ?_
      refine fx_as 1194 149 764 69 (by decide +kernel) rfl (by omega) (by omega) rfl (by unfold fR; omega) ?_
      refine fx_la 0 70 (v := 1186) (by decide +kernel) rfl (by decide +kernel) ?_
      refine fx_gp 1186 148 1 1194 73 (by decide +kernel) ?_
      refine fx_ci (127) 75 (by decide +kernel) ?_
      refine fx_li 3 76 (by decide +kernel) rfl ?_
      refine fx_as 1194 149 764 77 (by decide +kernel) rfl (by omega) (by omega) rfl (by unfold fR; omega) ?_
      refine fx_la 0 78 (v := 1186) (by decide +kernel) rfl (by decide +kernel) ?_
      refine fx_gp 1186 148 1 1194 81 (by decide +kernel) ?_
      refine fx_ci (10) 83 (by decide +kernel) ?_
      refine fx_ci (60) 85 (by decide +kernel) ?_
      refine fx_la 0 86 (v := 1186) (by decide +kernel) rfl (by decide +kernel) ?_
      refine fx_gp 1186 148 1 1194 89 (by decide +kernel) ?_
      refine fx_ci (10) 91 (by decide +kernel) ?_
      refine fx_al 1194 149 764 92 (by decide +kernel) rfl (by omega) (by omega) rfl ?_
      try simp only [fu_app, fcy_app, Nat.reduceEqDiff, and_true, and_false, false_and, true_and, if_true, if_false, ite_true, ite_false, reduceIte, Int.reduceToNat, fx_simp0]
      rw [e10]
      refine fx_ci (1) 93 (by decide +kernel) ?_
      refine fx_add 94 (by decide +kernel) rfl ?_
      refine fx_c2 321 22 97 0 [] (f_q22 (by decide +kernel)) (by decide) (fI_n4 _) (fI_n4 _) rfl (by first | decide | omega) ?_
      refine sp_mlesser (by unfold fR; omega) (by unfold fR; omega) (fK1 ?_)
      refine fx_as 1194 149 764 98 (by decide +kernel) rfl (by omega) (by omega) rfl (by unfold fR; omega) ?_
      refine fx_vret (by decide +kernel) ?_
      have i3 : i = 3 := by omega
      subst i3
      have es : fu (fu (fu (fu (fu (lgS g 3) 149 124 (g 149 9)) 149 125 p) 149 126 k) 149 127 w) 149 10 (if 60 < g 149 10 + 1 then 60 else g 149 10 + 1) = frow g (tNote (g 149) p k w) := by
        funext c j
        unfold fu frow tNote lgS
        by_cases e : c = 149
        · subst e
          simp only [true_and, if_true]
          by_cases j0 : j = 10
          · rw [if_pos j0, if_pos j0]
          rw [if_neg j0, if_neg j0]
          by_cases j4 : j = 127
          · rw [if_pos j4, if_neg (by omega), if_neg (by omega), if_neg (by omega), if_pos j4]
          rw [if_neg j4]
          by_cases j3 : j = 126
          · rw [if_pos j3, if_neg (by omega), if_neg (by omega), if_pos j3]
          rw [if_neg j3]
          by_cases j2 : j = 125
          · rw [if_pos j2, if_neg (by omega), if_pos j2]
          rw [if_neg j2]
          by_cases j1 : j = 124
          · rw [if_pos j1, if_pos j1]
          rw [if_neg j1, if_neg j1, if_neg j2, if_neg j3, if_neg j4]
          by_cases jr : 128 ≤ j ∧ j < 364
          · rw [if_pos jr, if_pos (by omega)]
          · rw [if_neg jr, if_neg (by omega)]
        · rw [if_neg (fun q => e q.1), if_neg (fun q => e q.1), if_neg (fun q => e q.1), if_neg (fun q => e q.1), if_neg (fun q => e q.1), if_neg (fun q => e q.1), if_neg e]
      rw [← es] at kq
      exact kq
    · refine fx_la 0 12 (v := 1186) (by decide +kernel) rfl (by decide +kernel) ?_
      refine fx_gp 1186 148 1 1194 15 (by decide +kernel) ?_
      refine fx_ci (124) 17 (by decide +kernel) ?_
      refine fx_li 4 19 (by decide +kernel) rfl ?_
      refine fx_add 20 (by decide +kernel) rfl ?_
      refine fx_la 0 21 (v := 1186) (by decide +kernel) rfl (by decide +kernel) ?_
      refine fx_gp 1186 148 1 1194 24 (by decide +kernel) ?_
      refine fx_ci (124) 26 (by decide +kernel) ?_
      refine fx_li 4 28 (by decide +kernel) rfl ?_
      refine fx_add 29 (by decide +kernel) rfl ?_
      refine fx_ci (4) 30 (by decide +kernel) ?_
      refine fx_sub 31 (by decide +kernel) rfl ?_
      have rv := hgA hg 764 (c := 149) (j := (124 + i - 4).toNat) (by decide +kernel) (by omega)
      unfold fR at rv
      refine fx_al 1194 149 764 32 (by decide +kernel) rfl (by omega) (by omega) rfl ?_
      refine fx_as 1194 149 764 33 (by decide +kernel) rfl (by omega) (by omega) rfl (by unfold fR; omega) ?_
      refine fx_inc 4 36 (-1) (by decide +kernel) rfl (Or.inr (fI_n4 _)) rfl ?_
      dsimp only [List.set]
      refine fx_go 5 (by decide +kernel) ?_
      match n, hi, hn with
      | 0, hi, hn => exfalso; omega
      | n + 1, hi, hn =>
        have es : fu (lgS g i) 149 (124 + i).toNat (lgS g i 149 (124 + i - 4).toNat) = lgS g (i - 1) := by
          funext c j
          unfold fu lgS
          by_cases e : c = 149 ∧ j = (124 + i).toNat
          · obtain ⟨rfl, rfl⟩ := e
            rw [if_pos ⟨rfl, rfl⟩, if_neg (by omega), if_pos ⟨rfl, by omega, by omega⟩, show (124 + i - 4).toNat = (124 + i).toNat - 4 by omega]
          · rw [if_neg e]
            by_cases e2 : c = 149 ∧ 124 + i < (j : Int) ∧ j < 364
            · rw [if_pos e2, if_pos ⟨e2.1, by omega, e2.2.2⟩]
            · rw [if_neg e2, if_neg (fun q => e2 ⟨q.1, by omega, q.2.2⟩)]
        rw [es]
        exact sp_mlogs_1 (by unfold fR; omega) (by unfold fR; omega) (by unfold fR; omega) h0 h1 kq n (i - 1) (by omega) (by omega)
theorem sp_mlogs {p k w : Int} (hp : fR p) (hk : fR k) (hw : fR w) (h0 : 0 ≤ g 149 10) (h1 : g 149 10 ≤ 60) (kq : Q 0 0 (frow g (tNote (g 149) p k w))) : fx W r 1 322 0 [1186, fI p, fI k, fI w, 7] [] g Q := by
  refine fx_ci (239) 3 (by decide +kernel) ?_
  refine fx_si 4 5 (by decide +kernel) (Or.inr (fI_n4 _)) rfl ?_
  dsimp only [List.set]
  have e : lgS g 239 = g := by
    funext c j
    exact if_neg (by omega)
  have st := sp_mlogs_1 (W := W) (r := r) (Q := Q) hp hk hw h0 h1 kq 236 239 rfl (by decide)
  rw [e] at st
  exact st
end FHD
end
