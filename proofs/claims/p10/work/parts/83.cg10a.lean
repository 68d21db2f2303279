/-! fx: road, on both sides -/
section G10
variable {W : ax_W} {r : Nat} {g : Nat → Nat → Int} {Q : Nat → Nat → (Nat → Nat → Int) → Prop}
theorem sp_croad {a b : Int} (hr : 1 ≤ r) (ha : fR a) (hb : fR b) (k1 : ¬ (0 ≤ a ∧ a ≤ 7) ∨ ¬ (0 ≤ b ∧ b ≤ 7) → Q 4 0 g) (k2 : 0 ≤ a ∧ a ≤ 7 → 0 ≤ b ∧ b ≤ 7 → a = b → Q 2 0 g) (k3 : 0 ≤ a ∧ a ≤ 7 → 0 ≤ b ∧ b ≤ 7 → a ≠ b → Q 1 (fI (fbt (g 7 a.toNat) b)) g) : fx W r 1 147 0 [2, fI a, fI b] [] g Q := by
  refine fx_la 0 1 (v := 2) (by decide +kernel) rfl (by decide +kernel) ?_
  refine fx_li 1 2 (by decide +kernel) rfl ?_
  refine fx_c2 140 21 5 0 [] (by decide +kernel) (by decide) (by decide) (fI_n4 _) rfl (by first | decide | omega) ?_
  refine sp_needPlace hr ha (fun t1 => fK0 ?_) (fun t1 => fK2 (k := 2) ?_)
  · refine fx_la 0 6 (v := 2) (by decide +kernel) rfl (by decide +kernel) ?_
    refine fx_li 2 7 (by decide +kernel) rfl ?_
    refine fx_c2 140 21 10 0 [] (by decide +kernel) (by decide) (by decide) (fI_n4 _) rfl (by first | decide | omega) ?_
    refine sp_needPlace hr hb (fun t2 => fK0 ?_) (fun t2 => fK2 (k := 2) ?_)
    · refine fx_la 0 11 (v := 2) (by decide +kernel) rfl (by decide +kernel) ?_
      refine fx_li 1 12 (by decide +kernel) rfl ?_
      refine fx_li 2 13 (by decide +kernel) rfl ?_
      refine fx_c3 148 21 16 0 [] (by decide +kernel) (by decide) (by decide) (fI_n4 _) (fI_n4 _) rfl (by first | decide | omega) ?_
      refine sp_needTwo hr ha hb (fun t3 => fK0 ?_) (fun t3 => fK2 (k := 0) ?_)
      · refine fx_la 0 17 (v := 2) (by decide +kernel) rfl (by decide +kernel) ?_
        refine fx_gp 2 0 1 26 20 (by decide +kernel) ?_
        refine fx_gp 26 3 3 58 23 (by decide +kernel) ?_
        refine fx_li 1 24 (by decide +kernel) rfl ?_
        refine fx_al 58 7 8 25 (by decide +kernel) rfl (by omega) (by omega) rfl ?_
        try simp only [fu_app, fcy_app, Nat.reduceEqDiff, and_true, and_false, false_and, true_and, if_true, if_false, ite_true, ite_false, reduceIte, Int.reduceToNat, fx_simp0]
        refine fx_li 2 26 (by decide +kernel) rfl ?_
        refine fx_c2 23 22 29 0 [] (f_q22 (by decide +kernel)) (by decide) (fI_n4 _) (fI_n4 _) rfl (by first | decide | omega) ?_
        refine sp_chas (fK1 ?_)
        have h01 := fbt_01 (g 7 a.toNat) b
        refine fx_retb (by decide +kernel) (by first | exact Or.inl rfl | exact Or.inr rfl | omega) ?_
        exact k3 t1 t2 t3
      · exact k2 t1 t2 t3
    · exact k1 (Or.inr t2)
  · exact k1 (Or.inl t1)
theorem sp_mroad {a b : Int} (ha : fR a) (hb : fR b) (k1 : ¬ (0 ≤ a ∧ a ≤ 7) ∨ ¬ (0 ≤ b ∧ b ≤ 7) → Q 1 (fI 0) (fu g 148 0 1)) (k2 : 0 ≤ a ∧ a ≤ 7 → 0 ≤ b ∧ b ≤ 7 → a = b → Q 1 (fI 0) (fu g 148 0 2)) (k3 : 0 ≤ a ∧ a ≤ 7 → 0 ≤ b ∧ b ≤ 7 → a ≠ b → Q 1 (fI (fbt (g 149 (116 + a).toNat) b)) (fu g 148 0 0)) : fx W r 2 318 0 [1186, fI a, fI b] [] g Q := by
  have ha2 := ha
  have hb2 := hb
  unfold fR at ha2 hb2
  refine fx_la 0 1 (v := 1186) (by decide +kernel) rfl (by decide +kernel) ?_
  refine fx_li 1 2 (by decide +kernel) rfl ?_
  refine fx_c1 313 22 5 1 [] (f_q22 (by decide +kernel)) (fI_n4 _) rfl (by first | decide | omega) ?_
  refine sp_misPlace ha (fun t1 => fK1 ?_) (fun t1 => fK1 ?_)
  · refine fx_zeq 15 8 (by decide +kernel) (by unfold fR; omega) (fun hc => absurd hc (by decide)) (fun _ => ?_)
    refine fx_li 2 9 (by decide +kernel) rfl ?_
    refine fx_c1 313 22 12 1 [] (f_q22 (by decide +kernel)) (fI_n4 _) rfl (by first | decide | omega) ?_
    refine sp_misPlace hb (fun t2 => fK1 ?_) (fun t2 => fK1 ?_)
    · refine fx_zne 19 15 (by decide +kernel) (by unfold fR; omega) (fun _ => ?_) (fun hc => absurd hc (by decide))
      refine fx_li 1 20 (by decide +kernel) rfl ?_
      refine fx_li 2 21 (by decide +kernel) rfl ?_
      refine fx_ine 28 24 (by decide +kernel) (by unfold fR; omega) (by unfold fR; omega) (fun h21 => ?_) (fun h21 => ?_)
      · refine fx_ci (0) 29 (by decide +kernel) ?_
        refine fx_pi 1186 148 0 32 (by decide +kernel) (by unfold fR; omega) ?_
        refine fx_la 0 33 (v := 1186) (by decide +kernel) rfl (by decide +kernel) ?_
        refine fx_gi 1186 148 0 36 (by decide +kernel) ?_
        try simp only [fu_app, fcy_app, Nat.reduceEqDiff, and_true, and_false, false_and, true_and, if_true, if_false, ite_true, ite_false, reduceIte, Int.reduceToNat, fx_simp0]
        refine fx_zne 59 39 (by decide +kernel) (by unfold fR; omega) (fun h36 => ?_) (fun h36 => ?_)
        · refine fx_ci (0) 60 (by decide +kernel) ?_
          refine fx_retb (by decide +kernel) (by first | exact Or.inl rfl | exact Or.inr rfl | omega) ?_
          exfalso; omega
        · refine fx_la 0 40 (v := 1186) (by decide +kernel) rfl (by decide +kernel) ?_
          refine fx_gp 1186 148 1 1194 43 (by decide +kernel) ?_
          refine fx_ci (116) 45 (by decide +kernel) ?_
          refine fx_li 1 46 (by decide +kernel) rfl ?_
          refine fx_add 47 (by decide +kernel) rfl ?_
          refine fx_al 1194 149 764 48 (by decide +kernel) rfl (by omega) (by omega) rfl ?_
          try simp only [fu_app, fcy_app, Nat.reduceEqDiff, and_true, and_false, false_and, true_and, if_true, if_false, ite_true, ite_false, reduceIte, Int.reduceToNat, fx_simp0]
          refine fx_li 2 49 (by decide +kernel) rfl ?_
          refine fx_c2 307 22 52 0 [] (f_q22 (by decide +kernel)) (by decide) (fI_n4 _) (fI_n4 _) rfl (by first | decide | omega) ?_
          refine sp_misOf (fK1 ?_)
          have h01 := fbt_01 (g 149 (116 + a).toNat) b
          refine fx_zeq 59 55 (by decide +kernel) (by unfold fR; omega) (fun h52 => ?_) (fun h52 => ?_)
          · refine fx_ci (0) 60 (by decide +kernel) ?_
            refine fx_retb (by decide +kernel) (by first | exact Or.inl rfl | exact Or.inr rfl | omega) ?_
            have k := k3 t1 t2 (by omega)
            rw [show fbt (g 149 (116 + a).toNat) b = 0 by omega] at k
            exact k
          · refine fx_ci (1) 56 (by decide +kernel) ?_
            refine fx_go 60 (by decide +kernel) ?_
            refine fx_retb (by decide +kernel) (by first | exact Or.inl rfl | exact Or.inr rfl | omega) ?_
            have k := k3 t1 t2 (by omega)
            rw [show fbt (g 149 (116 + a).toNat) b = 1 by omega] at k
            exact k
      · refine fx_ci (2) 25 (by decide +kernel) ?_
        refine fx_go 29 (by decide +kernel) ?_
        refine fx_pi 1186 148 0 32 (by decide +kernel) (by unfold fR; omega) ?_
        refine fx_la 0 33 (v := 1186) (by decide +kernel) rfl (by decide +kernel) ?_
        refine fx_gi 1186 148 0 36 (by decide +kernel) ?_
        try simp only [fu_app, fcy_app, Nat.reduceEqDiff, and_true, and_false, false_and, true_and, if_true, if_false, ite_true, ite_false, reduceIte, Int.reduceToNat, fx_simp0]
        refine fx_zne 59 39 (by decide +kernel) (by unfold fR; omega) (fun h36 => ?_) (fun h36 => ?_)
        · refine fx_ci (0) 60 (by decide +kernel) ?_
          refine fx_retb (by decide +kernel) (by first | exact Or.inl rfl | exact Or.inr rfl | omega) ?_
          exact k2 t1 t2 (by omega)
        · exfalso; omega
    · refine fx_zne 19 15 (by decide +kernel) (by unfold fR; omega) (fun hc => absurd hc (by decide)) (fun _ => ?_)
      refine fx_ci (1) 16 (by decide +kernel) ?_
      refine fx_go 29 (by decide +kernel) ?_
      refine fx_pi 1186 148 0 32 (by decide +kernel) (by unfold fR; omega) ?_
      refine fx_la 0 33 (v := 1186) (by decide +kernel) rfl (by decide +kernel) ?_
      refine fx_gi 1186 148 0 36 (by decide +kernel) ?_
      try simp only [fu_app, fcy_app, Nat.reduceEqDiff, and_true, and_false, false_and, true_and, if_true, if_false, ite_true, ite_false, reduceIte, Int.reduceToNat, fx_simp0]
      refine fx_zne 59 39 (by decide +kernel) (by unfold fR; omega) (fun h36 => ?_) (fun h36 => ?_)
      · refine fx_ci (0) 60 (by decide +kernel) ?_
        refine fx_retb (by decide +kernel) (by first | exact Or.inl rfl | exact Or.inr rfl | omega) ?_
        exact k1 (Or.inr t2)
      · exfalso; omega
  · refine fx_zeq 15 8 (by decide +kernel) (by unfold fR; omega) (fun _ => ?_) (fun hc => absurd hc (by decide))
    refine fx_ci (1) 16 (by decide +kernel) ?_
    refine fx_go 29 (by decide +kernel) ?_
    refine fx_pi 1186 148 0 32 (by decide +kernel) (by unfold fR; omega) ?_
    refine fx_la 0 33 (v := 1186) (by decide +kernel) rfl (by decide +kernel) ?_
    refine fx_gi 1186 148 0 36 (by decide +kernel) ?_
    try simp only [fu_app, fcy_app, Nat.reduceEqDiff, and_true, and_false, false_and, true_and, if_true, if_false, ite_true, ite_false, reduceIte, Int.reduceToNat, fx_simp0]
    refine fx_zne 59 39 (by decide +kernel) (by unfold fR; omega) (fun h36 => ?_) (fun h36 => ?_)
    · refine fx_ci (0) 60 (by decide +kernel) ?_
      refine fx_retb (by decide +kernel) (by first | exact Or.inl rfl | exact Or.inr rfl | omega) ?_
      exact k1 (Or.inl t1)
    · exfalso; omega
theorem sp_wroad {a b : Int} (hl : 1 ≤ W.lim) (ha : fR a) (hb : fR b) (k1 : ¬ (0 ≤ a ∧ a ≤ 7) ∨ ¬ (0 ≤ b ∧ b ≤ 7) → Q 1 (fI 1) g) (k2 : 0 ≤ a ∧ a ≤ 7 → 0 ≤ b ∧ b ≤ 7 → a = b → Q 1 (fI 2) g) (k3 : 0 ≤ a ∧ a ≤ 7 → 0 ≤ b ∧ b ≤ 7 → a ≠ b → Q 1 (fI 0) (fu g 159 0 ((fJ (fbt (g 7 a.toNat) b) - 4 : Nat) : Int))) : fx W 1 2 146 0 [2, fI a, fI b, 1274, 7] [] g Q := by
  refine fx_la 3 1 (v := 1274) (by decide +kernel) rfl (by decide +kernel) ?_
  refine fx_ci (0) 2 (by decide +kernel) ?_
  refine fx_la 0 3 (v := 2) (by decide +kernel) rfl (by decide +kernel) ?_
  refine fx_li 1 4 (by decide +kernel) rfl ?_
  refine fx_li 2 5 (by decide +kernel) rfl ?_
  obtain ⟨e1, e2⟩ := f_qm_ok (W := W) (L := [2, fI a, fI b, 1274, 7]) (g := g) (S := [fI b, fI a, 2, fI 0, 1274]) (rest := [fI 0, 1274]) (mi := 146) (pc := 5) (mj := 147) (n := 3) (op := 21) (a := 2) (av' := [fI a, fI b]) (by decide +kernel) (by decide +kernel) (fun K => rfl) (fun t => absurd t (by decide))
  refine fx_callH (l := 0) (r := 0) (by omega) e1 e2 (by decide +kernel) (dj := 1) (by decide) (by decide +kernel) (pc' := 8) rfl (Lj := [2, fI a, fI b]) (f_xp (f_n4_3 (by decide)) (show 3 ≤ _ by decide +kernel)) ?_
  refine sp_croad (Nat.le_refl 1) ha hb (fun t => ?_) (fun t1 t2 t3 => ?_) (fun t1 t2 t3 => ?_)
  · refine fKH2 2 22 4 (by decide +kernel) (Or.inr (f_n4p (v := 1274) rfl (by decide))) rfl ?_
    dsimp only [List.set]
    exact fx_ci 1 23 (by decide +kernel) (fx_ret (by decide +kernel) (k1 t))
  · refine fKH2 0 26 4 (by decide +kernel) (Or.inr (f_n4p (v := 1274) rfl (by decide))) rfl ?_
    dsimp only [List.set]
    exact fx_ci 2 27 (by decide +kernel) (fx_ret (by decide +kernel) (k2 t1 t2 t3))
  · refine fKH1 ?_
    have kk := k3 t1 t2 t3
    have h01 := fbt_01 (g 7 a.toNat) b
    refine fx_zeq 15 11 (by decide +kernel) (by unfold fR; omega) (fun hz => ?_) (fun hz => ?_)
    · rw [hz] at kk
      refine fx_cv 4 16 (by decide +kernel) ?_
      refine fx_las 1274 159 1 17 (by decide +kernel) rfl (by omega) (by omega) (by decide +kernel) (by decide) (by decide) ?_
      exact fx_go 28 (by decide +kernel) (fx_ci 0 29 (by decide +kernel) (fx_ret (by decide +kernel) kk))
    · rw [show fbt (g 7 a.toNat) b = 1 by omega] at kk
      refine fx_cv 12 12 (by decide +kernel) ?_
      refine fx_go 16 (by decide +kernel) ?_
      refine fx_las 1274 159 1 17 (by decide +kernel) rfl (by omega) (by omega) (by decide +kernel) (by decide) (by decide) ?_
      exact fx_go 28 (by decide +kernel) (fx_ci 0 29 (by decide +kernel) (fx_ret (by decide +kernel) kk))
end G10
