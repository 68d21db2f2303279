/-! fx: one comes home, is held to live, votes, promises: the reference -/
def tRise (t : Nat → Int) (p : Nat) : Nat → Int := tNote (tU (tU (tU t (12 + 7 * p + 5) 0) (12 + 7 * p + 0) (-1)) (12 + 7 * p + 6) 0) p 2 (t (12 + 7 * p))
theorem mRem_row {g : Nat → Nat → Int} {z : Int} : mRem (fu g 148 0 z) = frow (mRem (fu g 148 0 z)) (g 149) := by
  have e := frow_self (mRem (fu g 148 0 z))
  rw [mRem_m, fu_row (by decide)] at e
  exact e.symm
section FHM
variable {W : ax_W} {r : Nat} {g : Nat → Nat → Int} {Q : Nat → Nat → (Nat → Nat → Int) → Prop}
theorem sp_mhome {a : Int} (ha : fR a) (hb : mBd g) (k1 : ¬ (0 ≤ a ∧ a < g 149 3) → Q 1 (fI 0) (fu g 148 0 1))
    (k2 : ∀ p : Nat, a = p → (p : Int) < g 149 3 → ¬ ((g 149 (12 + 7 * p) ≠ -1 ∧ g 149 (17 + 7 * p) ≠ 1) ∧ g 149 (12 + 7 * p) = 0) → Q 1 (fI 0) (fu g 148 0 2))
    (k3 : ∀ p : Nat, a = p → (p : Int) < g 149 3 → g 149 (12 + 7 * p) = 0 → g 149 (17 + 7 * p) ≠ 1 → Q 1 (fI (tHome (g 149) p 8)) (frow (mRem (fu g 148 0 0)) (tHome (g 149) p))) : fx W r 3 324 0 [1186, fI a] [] g Q := by
  obtain ⟨b3, bA, b8, b10, bw⟩ := hb
  refine fx_rg (fun hg => ?_)
  refine fx_la 0 1 (v := 1186) (by decide +kernel) rfl (by decide +kernel) ?_
  refine fx_la 0 2 (v := 1186) (by decide +kernel) rfl (by decide +kernel) ?_
  refine fx_li 1 3 (by decide +kernel) rfl ?_
  refine fx_c2 298 21 6 1 [] (by decide +kernel) (by decide) (by decide) (fI_n4 _) rfl (by first | decide | omega) ?_
  refine sp_misPersonE ha b3.1 b3.2 (fun t => fK1 ?_) (fun t => fK1 ?_)
  · obtain ⟨p, rfl⟩ := Int.eq_ofNat_of_zero_le t.1
    have hp : p < 8 := by omega
    have bwp := bw p hp
    have rp := hgA hg 764 (c := 149) (j := 12 + 7 * p) (by decide +kernel) (by omega)
    unfold fR at rp
    refine fx_zne 13 9 (by decide +kernel) (by unfold fR; omega) (fun _ => ?_) (fun hc => absurd hc (by decide))
    refine fx_ci (0) 14 (by decide +kernel) ?_
    refine fx_pi 1186 148 0 17 (by decide +kernel) (by unfold fR; omega) ?_
    refine fx_la 0 18 (v := 1186) (by decide +kernel) rfl (by decide +kernel) ?_
    refine fx_gi 1186 148 0 21 (by decide +kernel) ?_
    try simp only [fu_app, fcy_app, Nat.reduceEqDiff, and_true, and_false, false_and, true_and, if_true, if_false, ite_true, ite_false, reduceIte, Int.reduceToNat, fx_simp0]
    refine fx_zle 26 24 (by decide +kernel) (by unfold fR; omega) (fun h21 => ?_) (fun h21 => ?_)
    · refine fx_la 0 27 (v := 1186) (by decide +kernel) rfl (by decide +kernel) ?_
      refine fx_la 0 28 (v := 1186) (by decide +kernel) rfl (by decide +kernel) ?_
      refine fx_li 1 29 (by decide +kernel) rfl ?_
      refine fx_c2 301 21 32 2 [] (by decide +kernel) (by decide) (by decide) (fI_n4 _) rfl (by first | decide | omega) ?_
      refine sp_misAway hp (fun u => fK1 ?_) (fun u => fK1 ?_)
      all_goals rw [fu_nc (by decide), fu_nc (by decide)] at u
      · refine fx_zeq 44 35 (by decide +kernel) (by unfold fR; omega) (fun hc => absurd hc (by decide)) (fun _ => ?_)
        refine fx_la 0 36 (v := 1186) (by decide +kernel) rfl (by decide +kernel) ?_
        refine fx_li 1 37 (by decide +kernel) rfl ?_
        refine fx_ci (0) 38 (by decide +kernel) ?_
        refine fx_c3 299 21 41 0 [] (by decide +kernel) (by decide) (by decide) (fI_n4 _) (fI_n4 _) rfl (by first | decide | omega) ?_
        refine sp_mof (w := 0) hp (by decide) (fK1 ?_)
        rw [fu_nc (by decide), show 12 + 7 * p + 0 = 12 + 7 * p from rfl]
        refine fx_zeq 48 44 (by decide +kernel) (by unfold fR; omega) (fun h41 => ?_) (fun h41 => ?_)
        · refine fx_ci (0) 49 (by decide +kernel) ?_
          refine fx_pi 1186 148 0 52 (by decide +kernel) (by unfold fR; omega) ?_
          refine fx_la 0 53 (v := 1186) (by decide +kernel) rfl (by decide +kernel) ?_
          refine fx_gi 1186 148 0 56 (by decide +kernel) ?_
          try simp only [fu_app, fcy_app, Nat.reduceEqDiff, and_true, and_false, false_and, true_and, if_true, if_false, ite_true, ite_false, reduceIte, Int.reduceToNat, fx_simp0]
          refine fx_zle 61 59 (by decide +kernel) (by unfold fR; omega) (fun h56 => ?_) (fun h56 => ?_)
          · refine fx_la 0 62 (v := 1186) (by decide +kernel) rfl (by decide +kernel) ?_
            refine fx_c1 320 21 65 0 [7] (by decide +kernel) (by decide) rfl (by first | decide | omega) ?_
            rw [fu_fu]
            refine sp_mrem (by rw [fu_nj (by decide)]; exact bA.1) (by rw [fu_nj (by decide)]; exact bA.2) (fK0 ?_)
            rw [mRem_row]
            have k3 := k3 p rfl (by omega) h41 u.2
            generalize mRem (fu g 148 0 0) = G at k3 ⊢
            refine fx_la 0 66 (v := 1186) (by decide +kernel) rfl (by decide +kernel) ?_
            refine fx_la 0 67 (v := 1186) (by decide +kernel) rfl (by decide +kernel) ?_
            refine fx_li 1 68 (by decide +kernel) rfl ?_
            refine fx_ci (2) 69 (by decide +kernel) ?_
            refine fx_c3 299 21 72 0 [] (by decide +kernel) (by decide) (by decide) (fI_n4 _) (fI_n4 _) rfl (by first | decide | omega) ?_
            refine sp_mof (w := 2) hp (by decide) (fK1 ?_)
            rw [frow_m, show 12 + 7 * p + 2 = 14 + 7 * p by omega]
            refine fx_c2 321 21 75 1 [] (by decide +kernel) (by decide) (by decide) (fI_n4 _) rfl (by first | decide | omega) ?_
            refine sp_mgivesE b8.1 b8.2 (by omega) (by omega) (fK0 ?_)
            refine fx_la 0 76 (v := 1186) (by decide +kernel) rfl (by decide +kernel) ?_
            refine fx_li 1 77 (by decide +kernel) rfl ?_
            refine fx_ci (0) 78 (by decide +kernel) ?_
            refine fx_ci (-1) 79 (by decide +kernel) ?_
            refine fx_c4 288 21 82 0 [] (by decide +kernel) (by decide) (by decide) (fI_n4 _) (fI_n4 _) (fI_n4 _) rfl (by first | decide | omega) ?_
            refine sp_mputF (w := 0) hp (by decide) (by unfold fR; omega) (fK0 ?_)
            refine fx_la 0 83 (v := 1186) (by decide +kernel) rfl (by decide +kernel) ?_
            refine fx_li 1 84 (by decide +kernel) rfl ?_
            refine fx_ci (6) 86 (by decide +kernel) ?_
            refine fx_ci (0) 87 (by decide +kernel) ?_
            refine fx_c4 288 21 90 0 [] (by decide +kernel) (by decide) (by decide) (fI_n4 _) (fI_n4 _) (fI_n4 _) rfl (by first | decide | omega) ?_
            refine sp_mputF (w := 6) hp (by decide) (by unfold fR; omega) (fK0 ?_)
            refine fx_la 0 91 (v := 1186) (by decide +kernel) rfl (by decide +kernel) ?_
            refine fx_li 1 92 (by decide +kernel) rfl ?_
            refine fx_ci (2) 93 (by decide +kernel) ?_
            refine fx_ci (0) 94 (by decide +kernel) ?_
            refine fx_c4 323 21 97 1 [7] (by decide +kernel) (by decide) (by decide) (fI_n4 _) (fI_n4 _) (fI_n4 _) rfl (by first | decide | omega) ?_
            refine sp_mlogsF (by unfold fR; omega) (by unfold fR; omega) (by unfold fR; omega) (by rw [tU_ne (by omega), tU_ne (by omega)]; unfold tIron; rw [tU_ne (by decide)]; exact b10.1) (by rw [tU_ne (by omega), tU_ne (by omega)]; unfold tIron; rw [tU_ne (by decide)]; exact b10.2) (fK0 ?_)
            refine fx_la 0 98 (v := 1186) (by decide +kernel) rfl (by decide +kernel) ?_
            refine fx_gp 1186 148 1 1194 101 (by decide +kernel) ?_
            refine fx_ci (8) 103 (by decide +kernel) ?_
            refine fx_al 1194 149 764 104 (by decide +kernel) rfl (by omega) (by omega) rfl ?_
            try simp only [fu_app, fcy_app, Nat.reduceEqDiff, and_true, and_false, false_and, true_and, if_true, if_false, ite_true, ite_false, reduceIte, Int.reduceToNat, fx_simp0]
            refine fx_ret (by decide +kernel) ?_
            exact k3
          · refine fx_ci (0) 60 (by decide +kernel) ?_
            refine fx_ret (by decide +kernel) ?_
            exfalso; omega
        · refine fx_ci (2) 45 (by decide +kernel) ?_
          refine fx_go 49 (by decide +kernel) ?_
          refine fx_pi 1186 148 0 52 (by decide +kernel) (by unfold fR; omega) ?_
          refine fx_la 0 53 (v := 1186) (by decide +kernel) rfl (by decide +kernel) ?_
          refine fx_gi 1186 148 0 56 (by decide +kernel) ?_
          try simp only [fu_app, fcy_app, Nat.reduceEqDiff, and_true, and_false, false_and, true_and, if_true, if_false, ite_true, ite_false, reduceIte, Int.reduceToNat, fx_simp0]
          refine fx_zle 61 59 (by decide +kernel) (by unfold fR; omega) (fun h56 => ?_) (fun h56 => ?_)
          · exfalso; omega
          · refine fx_ci (0) 60 (by decide +kernel) ?_
            refine fx_ret (by decide +kernel) ?_
            rw [fu_fu]
            exact k2 p rfl (by omega) (fun q => h41 q.2)
      · refine fx_zeq 44 35 (by decide +kernel) (by unfold fR; omega) (fun _ => ?_) (fun hc => absurd hc (by decide))
        refine fx_ci (2) 45 (by decide +kernel) ?_
        refine fx_go 49 (by decide +kernel) ?_
        refine fx_pi 1186 148 0 52 (by decide +kernel) (by unfold fR; omega) ?_
        refine fx_la 0 53 (v := 1186) (by decide +kernel) rfl (by decide +kernel) ?_
        refine fx_gi 1186 148 0 56 (by decide +kernel) ?_
        try simp only [fu_app, fcy_app, Nat.reduceEqDiff, and_true, and_false, false_and, true_and, if_true, if_false, ite_true, ite_false, reduceIte, Int.reduceToNat, fx_simp0]
        refine fx_zle 61 59 (by decide +kernel) (by unfold fR; omega) (fun h56 => ?_) (fun h56 => ?_)
        · exfalso; omega
        · refine fx_ci (0) 60 (by decide +kernel) ?_
          refine fx_ret (by decide +kernel) ?_
          rw [fu_fu]
          exact k2 p rfl (by omega) (fun q => u q.1)
    · refine fx_ci (0) 25 (by decide +kernel) ?_
      refine fx_ret (by decide +kernel) ?_
      exfalso; omega
  · refine fx_zne 13 9 (by decide +kernel) (by unfold fR; omega) (fun hc => absurd hc (by decide)) (fun _ => ?_)
    refine fx_ci (1) 10 (by decide +kernel) ?_
    refine fx_go 14 (by decide +kernel) ?_
    refine fx_pi 1186 148 0 17 (by decide +kernel) (by unfold fR; omega) ?_
    refine fx_la 0 18 (v := 1186) (by decide +kernel) rfl (by decide +kernel) ?_
    refine fx_gi 1186 148 0 21 (by decide +kernel) ?_
    try simp only [fu_app, fcy_app, Nat.reduceEqDiff, and_true, and_false, false_and, true_and, if_true, if_false, ite_true, ite_false, reduceIte, Int.reduceToNat, fx_simp0]
    refine fx_zle 26 24 (by decide +kernel) (by unfold fR; omega) (fun h21 => ?_) (fun h21 => ?_)
    · exfalso; omega
    · refine fx_ci (0) 25 (by decide +kernel) ?_
      refine fx_ret (by decide +kernel) ?_
      exact k1 t
theorem sp_mrise {a : Int} (ha : fR a) (hb : mBd g) (k1 : ¬ (0 ≤ a ∧ a < g 149 3) → Q 1 (fI 0) (fu g 148 0 1))
    (k2 : ∀ p : Nat, a = p → (p : Int) < g 149 3 → g 149 (17 + 7 * p) ≠ 1 → Q 1 (fI 0) (fu g 148 0 2))
    (k3 : ∀ p : Nat, a = p → (p : Int) < g 149 3 → g 149 (17 + 7 * p) = 1 → Q 1 (fI (g 149 (12 + 7 * p))) (frow (mRem (fu g 148 0 0)) (tRise (g 149) p))) : fx W r 2 333 0 [1186, fI a, 7] [] g Q := by
  obtain ⟨b3, bA, b8, b10, bw⟩ := hb
  refine fx_rg (fun hg => ?_)
  refine fx_la 0 1 (v := 1186) (by decide +kernel) rfl (by decide +kernel) ?_
  refine fx_la 0 2 (v := 1186) (by decide +kernel) rfl (by decide +kernel) ?_
  refine fx_li 1 3 (by decide +kernel) rfl ?_
  refine fx_c2 298 21 6 1 [] (by decide +kernel) (by decide) (by decide) (fI_n4 _) rfl (by first | decide | omega) ?_
  refine sp_misPersonE ha b3.1 b3.2 (fun t => fK1 ?_) (fun t => fK1 ?_)
  · obtain ⟨p, rfl⟩ := Int.eq_ofNat_of_zero_le t.1
    have hp : p < 8 := by omega
    have rp := hgA hg 764 (c := 149) (j := 12 + 7 * p) (by decide +kernel) (by omega)
    have rp2 := rp
    unfold fR at rp
    refine fx_zne 13 9 (by decide +kernel) (by unfold fR; omega) (fun _ => ?_) (fun hc => absurd hc (by decide))
    refine fx_ci (0) 14 (by decide +kernel) ?_
    refine fx_pi 1186 148 0 17 (by decide +kernel) (by unfold fR; omega) ?_
    refine fx_la 0 18 (v := 1186) (by decide +kernel) rfl (by decide +kernel) ?_
    refine fx_gi 1186 148 0 21 (by decide +kernel) ?_
    try simp only [fu_app, fcy_app, Nat.reduceEqDiff, and_true, and_false, false_and, true_and, if_true, if_false, ite_true, ite_false, reduceIte, Int.reduceToNat, fx_simp0]
    refine fx_zle 26 24 (by decide +kernel) (by unfold fR; omega) (fun h21 => ?_) (fun h21 => ?_)
    · refine fx_la 0 27 (v := 1186) (by decide +kernel) rfl (by decide +kernel) ?_
      refine fx_la 0 28 (v := 1186) (by decide +kernel) rfl (by decide +kernel) ?_
      refine fx_li 1 29 (by decide +kernel) rfl ?_
      refine fx_c2 302 21 32 1 [] (by decide +kernel) (by decide) (by decide) (fI_n4 _) rfl (by first | decide | omega) ?_
      refine sp_misDead hp (fun u => fK1 ?_) (fun u => fK1 ?_)
      all_goals rw [fu_nc (by decide)] at u
      · refine fx_zne 39 35 (by decide +kernel) (by unfold fR; omega) (fun _ => ?_) (fun hc => absurd hc (by decide))
        refine fx_ci (0) 40 (by decide +kernel) ?_
        refine fx_pi 1186 148 0 43 (by decide +kernel) (by unfold fR; omega) ?_
        refine fx_la 0 44 (v := 1186) (by decide +kernel) rfl (by decide +kernel) ?_
        refine fx_gi 1186 148 0 47 (by decide +kernel) ?_
        try simp only [fu_app, fcy_app, Nat.reduceEqDiff, and_true, and_false, false_and, true_and, if_true, if_false, ite_true, ite_false, reduceIte, Int.reduceToNat, fx_simp0]
        refine fx_zle 52 50 (by decide +kernel) (by unfold fR; omega) (fun h47 => ?_) (fun h47 => ?_)
        · refine fx_la 0 53 (v := 1186) (by decide +kernel) rfl (by decide +kernel) ?_
          refine fx_c1 320 21 56 0 [7] (by decide +kernel) (by decide) rfl (by first | decide | omega) ?_
          rw [fu_fu]
          refine sp_mrem (by rw [fu_nj (by decide)]; exact bA.1) (by rw [fu_nj (by decide)]; exact bA.2) (fK0 ?_)
          rw [mRem_row]
          have k3 := k3 p rfl (by omega) u
          generalize mRem (fu g 148 0 0) = G at k3 ⊢
          refine fx_la 0 57 (v := 1186) (by decide +kernel) rfl (by decide +kernel) ?_
          refine fx_li 1 58 (by decide +kernel) rfl ?_
          refine fx_ci (0) 59 (by decide +kernel) ?_
          refine fx_c3 299 21 62 0 [] (by decide +kernel) (by decide) (by decide) (fI_n4 _) (fI_n4 _) rfl (by first | decide | omega) ?_
          refine sp_mof (w := 0) hp (by decide) (fK1 ?_)
          rw [frow_m, show 12 + 7 * p + 0 = 12 + 7 * p from rfl]
          refine fx_si 2 63 (by decide +kernel) (Or.inr (fI_n4 _)) rfl ?_
          dsimp only [List.set]
          refine fx_la 0 64 (v := 1186) (by decide +kernel) rfl (by decide +kernel) ?_
          refine fx_li 1 65 (by decide +kernel) rfl ?_
          refine fx_ci (5) 66 (by decide +kernel) ?_
          refine fx_ci (0) 67 (by decide +kernel) ?_
          refine fx_c4 288 21 70 0 [] (by decide +kernel) (by decide) (by decide) (fI_n4 _) (fI_n4 _) (fI_n4 _) rfl (by first | decide | omega) ?_
          refine sp_mputF (w := 5) hp (by decide) (by unfold fR; omega) (fK0 ?_)
          refine fx_la 0 71 (v := 1186) (by decide +kernel) rfl (by decide +kernel) ?_
          refine fx_li 1 72 (by decide +kernel) rfl ?_
          refine fx_ci (0) 73 (by decide +kernel) ?_
          refine fx_ci (-1) 74 (by decide +kernel) ?_
          refine fx_c4 288 21 77 0 [] (by decide +kernel) (by decide) (by decide) (fI_n4 _) (fI_n4 _) (fI_n4 _) rfl (by first | decide | omega) ?_
          refine sp_mputF (w := 0) hp (by decide) (by unfold fR; omega) (fK0 ?_)
          refine fx_la 0 78 (v := 1186) (by decide +kernel) rfl (by decide +kernel) ?_
          refine fx_li 1 79 (by decide +kernel) rfl ?_
          refine fx_ci (6) 81 (by decide +kernel) ?_
          refine fx_ci (0) 82 (by decide +kernel) ?_
          refine fx_c4 288 21 85 0 [] (by decide +kernel) (by decide) (by decide) (fI_n4 _) (fI_n4 _) (fI_n4 _) rfl (by first | decide | omega) ?_
          refine sp_mputF (w := 6) hp (by decide) (by unfold fR; omega) (fK0 ?_)
          refine fx_la 0 86 (v := 1186) (by decide +kernel) rfl (by decide +kernel) ?_
          refine fx_li 1 87 (by decide +kernel) rfl ?_
          refine fx_ci (2) 88 (by decide +kernel) ?_
          refine fx_li 2 89 (by decide +kernel) rfl ?_
          refine fx_c4 323 21 92 1 [7] (by decide +kernel) (by decide) (by decide) (fI_n4 _) (fI_n4 _) (fI_n4 _) rfl (by first | decide | omega) ?_
          refine sp_mlogsF (by unfold fR; omega) (by unfold fR; omega) rp2 (by rw [tU_ne (by omega), tU_ne (by omega), tU_ne (by omega)]; exact b10.1) (by rw [tU_ne (by omega), tU_ne (by omega), tU_ne (by omega)]; exact b10.2) (fK0 ?_)
          refine fx_li 2 93 (by decide +kernel) rfl ?_
          refine fx_ret (by decide +kernel) ?_
          exact k3
        · refine fx_ci (0) 51 (by decide +kernel) ?_
          refine fx_ret (by decide +kernel) ?_
          exfalso; omega
      · refine fx_zne 39 35 (by decide +kernel) (by unfold fR; omega) (fun hc => absurd hc (by decide)) (fun _ => ?_)
        refine fx_ci (2) 36 (by decide +kernel) ?_
        refine fx_go 40 (by decide +kernel) ?_
        refine fx_pi 1186 148 0 43 (by decide +kernel) (by unfold fR; omega) ?_
        refine fx_la 0 44 (v := 1186) (by decide +kernel) rfl (by decide +kernel) ?_
        refine fx_gi 1186 148 0 47 (by decide +kernel) ?_
        try simp only [fu_app, fcy_app, Nat.reduceEqDiff, and_true, and_false, false_and, true_and, if_true, if_false, ite_true, ite_false, reduceIte, Int.reduceToNat, fx_simp0]
        refine fx_zle 52 50 (by decide +kernel) (by unfold fR; omega) (fun h47 => ?_) (fun h47 => ?_)
        · exfalso; omega
        · refine fx_ci (0) 51 (by decide +kernel) ?_
          refine fx_ret (by decide +kernel) ?_
          rw [fu_fu]
          exact k2 p rfl (by omega) u
    · refine fx_ci (0) 25 (by decide +kernel) ?_
      refine fx_ret (by decide +kernel) ?_
      exfalso; omega
  · refine fx_zne 13 9 (by decide +kernel) (by unfold fR; omega) (fun hc => absurd hc (by decide)) (fun _ => ?_)
    refine fx_ci (1) 10 (by decide +kernel) ?_
    refine fx_go 14 (by decide +kernel) ?_
    refine fx_pi 1186 148 0 17 (by decide +kernel) (by unfold fR; omega) ?_
    refine fx_la 0 18 (v := 1186) (by decide +kernel) rfl (by decide +kernel) ?_
    refine fx_gi 1186 148 0 21 (by decide +kernel) ?_
    try simp only [fu_app, fcy_app, Nat.reduceEqDiff, and_true, and_false, false_and, true_and, if_true, if_false, ite_true, ite_false, reduceIte, Int.reduceToNat, fx_simp0]
    refine fx_zle 26 24 (by decide +kernel) (by unfold fR; omega) (fun h21 => ?_) (fun h21 => ?_)
    · exfalso; omega
    · refine fx_ci (0) 25 (by decide +kernel) ?_
      refine fx_ret (by decide +kernel) ?_
      exact k1 t
theorem sp_msets {p w : Nat} {v : Int} (hp : p < 8) (hw : w < 7) (hv : fR v) (a0 : 0 ≤ g 148 6) (a1 : g 148 6 ≤ 12) (kq : Q 1 (fI (g 149 (12 + 7 * p + w))) (frow (mRem g) (tU (g 149) (12 + 7 * p + w) v))) : fx W r 1 335 0 [1186, fI (p : Int), fI (w : Int), fI v, 7] [] g Q := by
  refine fx_rg (fun hg => ?_)
  have rp := hgA hg 764 (c := 149) (j := 12 + 7 * p + w) (by decide +kernel) (by omega)
  unfold fR at rp
  refine fx_la 0 1 (v := 1186) (by decide +kernel) rfl (by decide +kernel) ?_
  refine fx_c1 320 21 4 0 [7] (by decide +kernel) (by decide) rfl (by first | decide | omega) ?_
  refine sp_mrem a0 a1 (fK0 ?_)
  have e := frow_self (mRem g)
  rw [mRem_m] at e
  rw [← e]
  generalize mRem g = G at kq ⊢
  refine fx_la 0 5 (v := 1186) (by decide +kernel) rfl (by decide +kernel) ?_
  refine fx_li 1 6 (by decide +kernel) rfl ?_
  refine fx_li 2 7 (by decide +kernel) rfl ?_
  refine fx_c3 299 21 10 0 [] (by decide +kernel) (by decide) (by decide) (fI_n4 _) (fI_n4 _) rfl (by first | decide | omega) ?_
  refine sp_mof hp hw (fK1 ?_)
  rw [frow_m]
  refine fx_si 4 12 (by decide +kernel) (Or.inr (fI_n4 _)) rfl ?_
  dsimp only [List.set]
  refine fx_la 0 13 (v := 1186) (by decide +kernel) rfl (by decide +kernel) ?_
  refine fx_li 1 14 (by decide +kernel) rfl ?_
  refine fx_li 2 15 (by decide +kernel) rfl ?_
  refine fx_li 3 16 (by decide +kernel) rfl ?_
  refine fx_c4 288 21 19 0 [] (by decide +kernel) (by decide) (by decide) (fI_n4 _) (fI_n4 _) (fI_n4 _) rfl (by first | decide | omega) ?_
  refine sp_mputF hp hw hv (fK0 ?_)
  refine fx_li 4 21 (by decide +kernel) rfl ?_
  refine fx_ret (by decide +kernel) ?_
  exact kq
theorem sp_mvote {a b : Int} (ha : fR a) (hbr : fR b) (hb : mBd g) (k1 : ¬ (0 ≤ a ∧ a < g 149 3) → Q 1 (fI 0) (fu g 148 0 1))
    (k2 : 0 ≤ a ∧ a < g 149 3 → ¬ (0 ≤ b ∧ b ≤ 20) → Q 1 (fI 0) (fu g 148 0 2))
    (k3 : ∀ p : Nat, a = p → (p : Int) < g 149 3 → 0 ≤ b → b ≤ 20 → Q 1 (fI (g 149 (13 + 7 * p))) (frow (mRem (fu g 148 0 0)) (tU (g 149) (12 + 7 * p + 1) b))) : fx W r 2 334 0 [1186, fI a, fI b] [] g Q := by
  obtain ⟨b3, bA, b8, b10, bw⟩ := hb
  refine fx_la 0 1 (v := 1186) (by decide +kernel) rfl (by decide +kernel) ?_
  refine fx_la 0 2 (v := 1186) (by decide +kernel) rfl (by decide +kernel) ?_
  refine fx_li 1 3 (by decide +kernel) rfl ?_
  refine fx_c2 298 21 6 1 [] (by decide +kernel) (by decide) (by decide) (fI_n4 _) rfl (by first | decide | omega) ?_
  refine sp_misPersonE ha b3.1 b3.2 (fun t => fK1 ?_) (fun t => fK1 ?_)
  · refine fx_zne 13 9 (by decide +kernel) (by unfold fR; omega) (fun _ => ?_) (fun hc => absurd hc (by decide))
    refine fx_li 2 14 (by decide +kernel) rfl ?_
    refine fx_ci (0) 15 (by decide +kernel) ?_
    refine fx_ci (20) 17 (by decide +kernel) ?_
    refine fx_c3 266 22 20 0 [] (f_q22 (by decide +kernel)) (by decide) (fI_n4 _) (fI_n4 _) (fI_n4 _) rfl (by first | decide | omega) ?_
    refine sp_isIn hbr (by unfold fR; omega) (by unfold fR; omega) (fun u => fK1 ?_) (fun u => fK1 ?_)
    · refine fx_zne 27 23 (by decide +kernel) (by unfold fR; omega) (fun _ => ?_) (fun hc => absurd hc (by decide))
      refine fx_ci (0) 28 (by decide +kernel) ?_
      refine fx_pi 1186 148 0 31 (by decide +kernel) (by unfold fR; omega) ?_
      refine fx_la 0 32 (v := 1186) (by decide +kernel) rfl (by decide +kernel) ?_
      refine fx_gi 1186 148 0 35 (by decide +kernel) ?_
      try simp only [fu_app, fcy_app, Nat.reduceEqDiff, and_true, and_false, false_and, true_and, if_true, if_false, ite_true, ite_false, reduceIte, Int.reduceToNat, fx_simp0]
      refine fx_zle 42 38 (by decide +kernel) (by unfold fR; omega) (fun h35 => ?_) (fun h35 => ?_)
      · refine fx_la 0 43 (v := 1186) (by decide +kernel) rfl (by decide +kernel) ?_
        refine fx_li 1 44 (by decide +kernel) rfl ?_
        refine fx_ci (1) 45 (by decide +kernel) ?_
        refine fx_li 2 46 (by decide +kernel) rfl ?_
        refine fx_c4 335 21 49 1 [7] (by decide +kernel) (by decide) (by decide) (fI_n4 _) (fI_n4 _) (fI_n4 _) rfl (by first | decide | omega) ?_
        obtain ⟨p, rfl⟩ := Int.eq_ofNat_of_zero_le t.1
        have hp : p < 8 := by omega
        refine sp_msets (w := 1) hp (by decide) hbr (by rw [fu_nj (by decide)]; exact bA.1) (by rw [fu_nj (by decide)]; exact bA.2) (fK1 ?_)
        rw [fu_row (by decide), show 12 + 7 * p + 1 = 13 + 7 * p by omega]
        have k3 := k3 p rfl (by omega) u.1 u.2
        rw [show 12 + 7 * p + 1 = 13 + 7 * p by omega] at k3
        refine fx_ret (by decide +kernel) ?_
        exact k3
      · refine fx_ci (0) 39 (by decide +kernel) ?_
        refine fx_go 49 (by decide +kernel) ?_
        refine fx_ret (by decide +kernel) ?_
        exfalso; omega
    · refine fx_zne 27 23 (by decide +kernel) (by unfold fR; omega) (fun hc => absurd hc (by decide)) (fun _ => ?_)
      refine fx_ci (2) 24 (by decide +kernel) ?_
      refine fx_go 28 (by decide +kernel) ?_
      refine fx_pi 1186 148 0 31 (by decide +kernel) (by unfold fR; omega) ?_
      refine fx_la 0 32 (v := 1186) (by decide +kernel) rfl (by decide +kernel) ?_
      refine fx_gi 1186 148 0 35 (by decide +kernel) ?_
      try simp only [fu_app, fcy_app, Nat.reduceEqDiff, and_true, and_false, false_and, true_and, if_true, if_false, ite_true, ite_false, reduceIte, Int.reduceToNat, fx_simp0]
      refine fx_zle 42 38 (by decide +kernel) (by unfold fR; omega) (fun h35 => ?_) (fun h35 => ?_)
      · refine fx_la 0 43 (v := 1186) (by decide +kernel) rfl (by decide +kernel) ?_
        refine fx_li 1 44 (by decide +kernel) rfl ?_
        refine fx_ci (1) 45 (by decide +kernel) ?_
        refine fx_li 2 46 (by decide +kernel) rfl ?_
        refine fx_c4 335 21 49 1 [7] (by decide +kernel) (by decide) (by decide) (fI_n4 _) (fI_n4 _) (fI_n4 _) rfl (by first | decide | omega) ?_
        exfalso; omega
      · refine fx_ci (0) 39 (by decide +kernel) ?_
        refine fx_go 49 (by decide +kernel) ?_
        refine fx_ret (by decide +kernel) ?_
        exact k2 t u
  · refine fx_zne 13 9 (by decide +kernel) (by unfold fR; omega) (fun hc => absurd hc (by decide)) (fun _ => ?_)
    refine fx_ci (1) 10 (by decide +kernel) ?_
    refine fx_go 28 (by decide +kernel) ?_
    refine fx_pi 1186 148 0 31 (by decide +kernel) (by unfold fR; omega) ?_
    refine fx_la 0 32 (v := 1186) (by decide +kernel) rfl (by decide +kernel) ?_
    refine fx_gi 1186 148 0 35 (by decide +kernel) ?_
    try simp only [fu_app, fcy_app, Nat.reduceEqDiff, and_true, and_false, false_and, true_and, if_true, if_false, ite_true, ite_false, reduceIte, Int.reduceToNat, fx_simp0]
    refine fx_zle 42 38 (by decide +kernel) (by unfold fR; omega) (fun h35 => ?_) (fun h35 => ?_)
    · refine fx_la 0 43 (v := 1186) (by decide +kernel) rfl (by decide +kernel) ?_
      refine fx_li 1 44 (by decide +kernel) rfl ?_
      refine fx_ci (1) 45 (by decide +kernel) ?_
      refine fx_li 2 46 (by decide +kernel) rfl ?_
      refine fx_c4 335 21 49 1 [7] (by decide +kernel) (by decide) (by decide) (fI_n4 _) (fI_n4 _) (fI_n4 _) rfl (by first | decide | omega) ?_
      exfalso; omega
    · refine fx_ci (0) 39 (by decide +kernel) ?_
      refine fx_go 49 (by decide +kernel) ?_
      refine fx_ret (by decide +kernel) ?_
      exact k1 t
theorem sp_mpromise {a b : Int} (ha : fR a) (hbr : fR b) (hb : mBd g) (k1 : ¬ ((0 ≤ a ∧ a < g 149 3) ∧ (b = -1 ∨ (0 ≤ b ∧ b < g 149 3))) → Q 1 (fI 0) (fu g 148 0 1))
    (k2 : 0 ≤ a ∧ a < g 149 3 → a = b → Q 1 (fI 0) (fu g 148 0 2))
    (k3 : ∀ p : Nat, a = p → (p : Int) < g 149 3 → (b = -1 ∨ (0 ≤ b ∧ b < g 149 3)) → a ≠ b → Q 1 (fI (g 149 (16 + 7 * p))) (frow (mRem (fu g 148 0 0)) (tU (g 149) (12 + 7 * p + 4) b))) : fx W r 2 336 0 [1186, fI a, fI b] [] g Q := by
  obtain ⟨b3, bA, b8, b10, bw⟩ := hb
  have hbr2 := hbr
  have ha2 := ha
  unfold fR at hbr2 ha2
  have fin : ∀ (p : Nat), a = p → (p : Int) < g 149 3 → (b = -1 ∨ (0 ≤ b ∧ b < g 149 3)) → a ≠ b → fx W r 2 336 36 [1186, fI a, fI b] [fI 0, 1186] g Q := fun p e hp hq hn => by
    subst e
    refine fx_pi 1186 148 0 39 (by decide +kernel) (by unfold fR; omega) ?_
    refine fx_la 0 40 (v := 1186) (by decide +kernel) rfl (by decide +kernel) ?_
    refine fx_gi 1186 148 0 43 (by decide +kernel) ?_
    try simp only [fu_app, fcy_app, Nat.reduceEqDiff, and_true, and_false, false_and, true_and, if_true, if_false, ite_true, ite_false, reduceIte, Int.reduceToNat, fx_simp0]
    refine fx_zle 50 46 (by decide +kernel) (by unfold fR; omega) (fun h43 => ?_) (fun h43 => ?_)
    · refine fx_la 0 51 (v := 1186) (by decide +kernel) rfl (by decide +kernel) ?_
      refine fx_li 1 52 (by decide +kernel) rfl ?_
      refine fx_ci (4) 53 (by decide +kernel) ?_
      refine fx_li 2 54 (by decide +kernel) rfl ?_
      refine fx_c4 335 21 57 1 [7] (by decide +kernel) (by decide) (by decide) (fI_n4 _) (fI_n4 _) (fI_n4 _) rfl (by first | decide | omega) ?_
      refine sp_msets (w := 4) (by omega) (by decide) hbr (by rw [fu_nj (by decide)]; exact bA.1) (by rw [fu_nj (by decide)]; exact bA.2) (fK1 ?_)
      rw [fu_row (by decide), show 12 + 7 * p + 4 = 16 + 7 * p by omega]
      have k3 := k3 p rfl hp hq hn
      rw [show 12 + 7 * p + 4 = 16 + 7 * p by omega] at k3
      refine fx_ret (by decide +kernel) ?_
      exact k3
    · refine fx_ci (0) 47 (by decide +kernel) ?_
      refine fx_go 57 (by decide +kernel) ?_
      refine fx_ret (by decide +kernel) ?_
      exfalso; omega
  have bad : ¬ ((0 ≤ a ∧ a < g 149 3) ∧ (b = -1 ∨ (0 ≤ b ∧ b < g 149 3))) → fx W r 2 336 36 [1186, fI a, fI b] [fI 1, 1186] g Q := fun hn => by
    refine fx_pi 1186 148 0 39 (by decide +kernel) (by unfold fR; omega) ?_
    refine fx_la 0 40 (v := 1186) (by decide +kernel) rfl (by decide +kernel) ?_
    refine fx_gi 1186 148 0 43 (by decide +kernel) ?_
    try simp only [fu_app, fcy_app, Nat.reduceEqDiff, and_true, and_false, false_and, true_and, if_true, if_false, ite_true, ite_false, reduceIte, Int.reduceToNat, fx_simp0]
    refine fx_zle 50 46 (by decide +kernel) (by unfold fR; omega) (fun h43 => ?_) (fun h43 => ?_)
    · refine fx_la 0 51 (v := 1186) (by decide +kernel) rfl (by decide +kernel) ?_
      refine fx_li 1 52 (by decide +kernel) rfl ?_
      refine fx_ci (4) 53 (by decide +kernel) ?_
      refine fx_li 2 54 (by decide +kernel) rfl ?_
      refine fx_c4 335 21 57 1 [7] (by decide +kernel) (by decide) (by decide) (fI_n4 _) (fI_n4 _) (fI_n4 _) rfl (by first | decide | omega) ?_
      exfalso; omega
    · refine fx_ci (0) 47 (by decide +kernel) ?_
      refine fx_go 57 (by decide +kernel) ?_
      refine fx_ret (by decide +kernel) ?_
      exact k1 hn
  have two : 0 ≤ a ∧ a < g 149 3 → a = b → fx W r 2 336 36 [1186, fI a, fI b] [fI 2, 1186] g Q := fun hn e => by
    refine fx_pi 1186 148 0 39 (by decide +kernel) (by unfold fR; omega) ?_
    refine fx_la 0 40 (v := 1186) (by decide +kernel) rfl (by decide +kernel) ?_
    refine fx_gi 1186 148 0 43 (by decide +kernel) ?_
    try simp only [fu_app, fcy_app, Nat.reduceEqDiff, and_true, and_false, false_and, true_and, if_true, if_false, ite_true, ite_false, reduceIte, Int.reduceToNat, fx_simp0]
    refine fx_zle 50 46 (by decide +kernel) (by unfold fR; omega) (fun h43 => ?_) (fun h43 => ?_)
    · refine fx_la 0 51 (v := 1186) (by decide +kernel) rfl (by decide +kernel) ?_
      refine fx_li 1 52 (by decide +kernel) rfl ?_
      refine fx_ci (4) 53 (by decide +kernel) ?_
      refine fx_li 2 54 (by decide +kernel) rfl ?_
      refine fx_c4 335 21 57 1 [7] (by decide +kernel) (by decide) (by decide) (fI_n4 _) (fI_n4 _) (fI_n4 _) rfl (by first | decide | omega) ?_
      exfalso; omega
    · refine fx_ci (0) 47 (by decide +kernel) ?_
      refine fx_go 57 (by decide +kernel) ?_
      refine fx_ret (by decide +kernel) ?_
      exact k2 hn e
  refine fx_la 0 1 (v := 1186) (by decide +kernel) rfl (by decide +kernel) ?_
  refine fx_la 0 2 (v := 1186) (by decide +kernel) rfl (by decide +kernel) ?_
  refine fx_li 1 3 (by decide +kernel) rfl ?_
  refine fx_c2 298 21 6 1 [] (by decide +kernel) (by decide) (by decide) (fI_n4 _) rfl (by first | decide | omega) ?_
  refine sp_misPersonE ha b3.1 b3.2 (fun t => fK1 ?_) (fun t => fK1 ?_)
  · refine fx_zeq 22 9 (by decide +kernel) (by unfold fR; omega) (fun hc => absurd hc (by decide)) (fun _ => ?_)
    refine fx_li 2 10 (by decide +kernel) rfl ?_
    refine fx_ci (-1) 11 (by decide +kernel) ?_
    refine fx_ieq 26 14 (by decide +kernel) (by unfold fR; omega) (by unfold fR; omega) (fun h11 => ?_) (fun h11 => ?_)
    · refine fx_li 1 27 (by decide +kernel) rfl ?_
      refine fx_li 2 28 (by decide +kernel) rfl ?_
      refine fx_ine 35 31 (by decide +kernel) (by unfold fR; omega) (by unfold fR; omega) (fun h28 => ?_) (fun h28 => ?_)
      · refine fx_ci (0) 36 (by decide +kernel) ?_
        exact fin a.toNat (by omega) (by omega) (Or.inl (by omega)) (by omega)
      · refine fx_ci (2) 32 (by decide +kernel) ?_
        refine fx_go 36 (by decide +kernel) ?_
        exact two t (by omega)
    · refine fx_la 0 15 (v := 1186) (by decide +kernel) rfl (by decide +kernel) ?_
      refine fx_li 2 16 (by decide +kernel) rfl ?_
      refine fx_c2 298 21 19 1 [] (by decide +kernel) (by decide) (by decide) (fI_n4 _) rfl (by first | decide | omega) ?_
      refine sp_misPersonE hbr b3.1 b3.2 (fun u => fK1 ?_) (fun u => fK1 ?_)
      · refine fx_zne 26 22 (by decide +kernel) (by unfold fR; omega) (fun _ => ?_) (fun hc => absurd hc (by decide))
        refine fx_li 1 27 (by decide +kernel) rfl ?_
        refine fx_li 2 28 (by decide +kernel) rfl ?_
        refine fx_ine 35 31 (by decide +kernel) (by unfold fR; omega) (by unfold fR; omega) (fun h28 => ?_) (fun h28 => ?_)
        · refine fx_ci (0) 36 (by decide +kernel) ?_
          exact fin a.toNat (by omega) (by omega) (Or.inr u) (by omega)
        · refine fx_ci (2) 32 (by decide +kernel) ?_
          refine fx_go 36 (by decide +kernel) ?_
          exact two t (by omega)
      · refine fx_zne 26 22 (by decide +kernel) (by unfold fR; omega) (fun hc => absurd hc (by decide)) (fun _ => ?_)
        refine fx_ci (1) 23 (by decide +kernel) ?_
        refine fx_go 36 (by decide +kernel) ?_
        exact bad (by omega)
  · refine fx_zeq 22 9 (by decide +kernel) (by unfold fR; omega) (fun _ => ?_) (fun hc => absurd hc (by decide))
    refine fx_ci (1) 23 (by decide +kernel) ?_
    refine fx_go 36 (by decide +kernel) ?_
    exact bad (fun q => t q.1)
theorem sp_mseed {b : Int} (hbr : fR b) (kq : Q 1 (fI (g 149 11)) (frow (fu g 148 0 0) (tU (g 149) 11 b))) : fx W r 0 407 0 [1186, fI b, 7] [] g Q := by
  refine fx_rg (fun hg => ?_)
  unfold fR at hbr
  refine fx_la 0 1 (v := 1186) (by decide +kernel) rfl (by decide +kernel) ?_
  refine fx_ci (0) 2 (by decide +kernel) ?_
  refine fx_pi 1186 148 0 5 (by decide +kernel) (by unfold fR; omega) ?_
  refine fx_la 0 6 (v := 1186) (by decide +kernel) rfl (by decide +kernel) ?_
  refine fx_gp 1186 148 1 1194 9 (by decide +kernel) ?_
  refine fx_ci (11) 11 (by decide +kernel) ?_
  refine fx_al 1194 149 764 12 (by decide +kernel) rfl (by omega) (by omega) rfl ?_
  try simp only [fu_app, fcy_app, Nat.reduceEqDiff, and_true, and_false, false_and, true_and, if_true, if_false, ite_true, ite_false, reduceIte, Int.reduceToNat, fx_simp0]
  refine fx_si 2 13 (by decide +kernel) (Or.inr (fI_n4 _)) rfl ?_
  dsimp only [List.set]
  refine fx_la 0 14 (v := 1186) (by decide +kernel) rfl (by decide +kernel) ?_
  refine fx_gp 1186 148 1 1194 17 (by decide +kernel) ?_
  refine fx_ci (11) 19 (by decide +kernel) ?_
  refine fx_li 1 20 (by decide +kernel) rfl ?_
  refine fx_as 1194 149 764 21 (by decide +kernel) rfl (by omega) (by omega) rfl (by unfold fR; omega) ?_
  refine fx_li 2 22 (by decide +kernel) rfl ?_
  refine fx_ret (by decide +kernel) ?_
  rw [frow_fu0, fu_row (by decide)]
  exact kq
end FHM
