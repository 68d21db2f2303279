/-! fx: serving, nights, taking off: both sides -/
def tOff (t : Nat → Int) (p : Nat) : Nat → Int := tNote (tIron (tU t (12 + 7 * p + 5) 1) (t (14 + 7 * p))) p 1 (t (12 + 7 * p))
section FIM
variable {W : ax_W} {r : Nat} {g : Nat → Nat → Int} {Q : Nat → Nat → (Nat → Nat → Int) → Prop} {segs : List (List Int × Int × Int)}
theorem sp_misDishE {v : Int} (hv : fR v) (h0 : 0 ≤ g 149 4) (h1 : g 149 4 ≤ 6) (k1 : 0 ≤ v ∧ v < g 149 4 → Q 1 (fI 1) g) (k2 : ¬ (0 ≤ v ∧ v < g 149 4) → Q 1 (fI 0) g) : fx W r 1 312 0 [1186, fI v] [] g Q := by
  refine fx_li 1 1 (by decide +kernel) rfl ?_
  refine fx_ci (0) 2 (by decide +kernel) ?_
  refine fx_la 0 3 (v := 1186) (by decide +kernel) rfl (by decide +kernel) ?_
  refine fx_gp 1186 148 1 1194 6 (by decide +kernel) ?_
  refine fx_ci (4) 7 (by decide +kernel) ?_
  refine fx_al 1194 149 764 8 (by decide +kernel) rfl (by omega) (by omega) rfl ?_
  try simp only [fu_app, fcy_app, Nat.reduceEqDiff, and_true, and_false, false_and, true_and, if_true, if_false, ite_true, ite_false, reduceIte, Int.reduceToNat, fx_simp0]
  refine fx_ci (1) 9 (by decide +kernel) ?_
  refine fx_sub 10 (by decide +kernel) rfl ?_
  refine fx_c3 266 22 13 0 [] (f_q22 (by decide +kernel)) (by decide) (fI_n4 _) (fI_n4 _) (fI_n4 _) rfl (by first | decide | omega) ?_
  refine sp_isIn hv (by unfold fR; omega) (by unfold fR; omega) (fun t => fK1 ?_) (fun t => fK1 ?_)
  · refine fx_retb (by decide +kernel) (by first | exact Or.inl rfl | exact Or.inr rfl | omega) ?_
    exact k1 (by omega)
  · refine fx_retb (by decide +kernel) (by first | exact Or.inl rfl | exact Or.inr rfl | omega) ?_
    exact k2 (by omega)
theorem sp_mserve {a : Int} (ha : fR a) (hA : 0 ≤ g 148 6 ∧ g 148 6 ≤ 12) (h : NI (g 149)) (hw : LwR (g 149) segs) (k1 : ¬ (0 ≤ a ∧ a < g 149 4) → Q 1 (fI 0) (fu g 148 0 1))
    (k3 : 0 ≤ a ∧ a < g 149 4 → ∀ G', rN (mRem (fu g 148 0 0)) G' → Q 1 (fI (niN segs a (niW true (g 149)))) (frow G' (niT segs a true (g 149)))) : fx W r 39 325 0 [1186, fI a] [] g Q := by
  have b4 := h.1.2.1
  refine fx_la 0 1 (v := 1186) (by decide +kernel) rfl (by decide +kernel) ?_
  refine fx_la 0 2 (v := 1186) (by decide +kernel) rfl (by decide +kernel) ?_
  refine fx_li 1 3 (by decide +kernel) rfl ?_
  refine fx_c2 312 21 6 1 [] (by decide +kernel) (by decide) (by decide) (fI_n4 _) rfl (by first | decide | omega) ?_
  refine sp_misDishE ha b4.1 b4.2 (fun t => fK1 ?_) (fun t => fK1 ?_)
  · refine fx_zne 13 9 (by decide +kernel) (by unfold fR; omega) (fun _ => ?_) (fun hc => absurd hc (by decide))
    refine fx_ci (0) 14 (by decide +kernel) ?_
    refine fx_pi 1186 148 0 17 (by decide +kernel) (by unfold fR; omega) ?_
    refine fx_la 0 18 (v := 1186) (by decide +kernel) rfl (by decide +kernel) ?_
    refine fx_gi 1186 148 0 21 (by decide +kernel) ?_
    try simp only [fu_app, fcy_app, Nat.reduceEqDiff, and_true, and_false, false_and, true_and, if_true, if_false, ite_true, ite_false, reduceIte, Int.reduceToNat, fx_simp0]
    refine fx_zle 26 24 (by decide +kernel) (by unfold fR; omega) (fun h21 => ?_) (fun h21 => ?_)
    · refine fx_la 0 27 (v := 1186) (by decide +kernel) rfl (by decide +kernel) ?_
      refine fx_c1 320 21 30 0 [7] (by decide +kernel) (by decide) rfl (by first | decide | omega) ?_
      refine sp_mrem (by rw [fu_nj (by decide)]; exact hA.1) (by rw [fu_nj (by decide)]; exact hA.2) (fK0 ?_)
      rw [mRem_row]
      refine fx_la 0 31 (v := 1186) (by decide +kernel) rfl (by decide +kernel) ?_
      refine fx_li 1 32 (by decide +kernel) rfl ?_
      refine fx_ci (1) 33 (by decide +kernel) ?_
      refine fx_c3 326 21 36 38 [7, 7] (by decide +kernel) (by decide) (by decide) (fI_n4 _) (fI_n4 _) rfl (by first | decide | omega) ?_
      refine sp_mnight (dr := true) h hw (Or.inr t) (fun G' x => fK1 ?_)
      refine fx_ret (by decide +kernel) ?_
      exact k3 t G' x
    · refine fx_ci (0) 25 (by decide +kernel) ?_
      refine fx_ret (by decide +kernel) ?_
      exfalso; omega
  · refine fx_zne 13 9 (by decide +kernel) (by unfold fR; omega) (fun hc => absurd hc (by decide)) (fun _ => ?_)
    refine fx_ci (1) 10 (by decide +kernel) ?_
    refine fx_go 14 (by decide +kernel) ?_
    refine fx_pi 1186 148 0 17 (by decide +kernel) (by unfold fR; omega) ?_
    refine fx_la 0 18 (v := 1186) (by decide +kernel) rfl (by decide +kernel) ?_
    refine fx_gi 1186 148 0 21 (by decide +kernel) ?_
    try simp only [fu_app, fcy_app, Nat.reduceEqDiff, and_true, and_false, false_and, true_and, if_true, if_false, ite_true, ite_false, reduceIte, Int.reduceToNat, fx_simp0]
    refine fx_zle 26 24 (by decide +kernel) (by unfold fR; omega) (fun h21 => ?_) (fun h21 => ?_)
    · exfalso; omega
    · refine fx_ci (0) 25 (by decide +kernel) ?_
      refine fx_ret (by decide +kernel) ?_
      exact k1 t
theorem sp_mnights {a : Int} (ha : fR a) (hA : 0 ≤ g 148 6 ∧ g 148 6 ≤ 12) (h : NI (g 149)) (hw : LwR (g 149) segs) (k1 : ¬ (1 ≤ a ∧ a ≤ 60) → Q 1 (fI 0) (fu g 148 0 1))
    (k3 : ∀ n : Nat, a = n → 1 ≤ a ∧ a ≤ 60 → ∀ G', rN (mRem (fu g 148 0 0)) G' → Q 1 (fI (goN segs true n (g 149) 0)) (frow G' (goL segs true n (g 149)))) : fx W r 40 337 0 [1186, fI a] [] g Q := by
  refine fx_la 0 1 (v := 1186) (by decide +kernel) rfl (by decide +kernel) ?_
  refine fx_li 1 2 (by decide +kernel) rfl ?_
  refine fx_ci (1) 3 (by decide +kernel) ?_
  refine fx_ci (60) 5 (by decide +kernel) ?_
  refine fx_c3 266 22 8 0 [] (f_q22 (by decide +kernel)) (by decide) (fI_n4 _) (fI_n4 _) (fI_n4 _) rfl (by first | decide | omega) ?_
  refine sp_isIn ha (by unfold fR; omega) (by unfold fR; omega) (fun t => fK1 ?_) (fun t => fK1 ?_)
  · obtain ⟨n, rfl⟩ := Int.eq_ofNat_of_zero_le (show 0 ≤ a by omega)
    refine fx_zne 15 11 (by decide +kernel) (by unfold fR; omega) (fun _ => ?_) (fun hc => absurd hc (by decide))
    refine fx_ci (0) 16 (by decide +kernel) ?_
    refine fx_pi 1186 148 0 19 (by decide +kernel) (by unfold fR; omega) ?_
    refine fx_la 0 20 (v := 1186) (by decide +kernel) rfl (by decide +kernel) ?_
    refine fx_gi 1186 148 0 23 (by decide +kernel) ?_
    try simp only [fu_app, fcy_app, Nat.reduceEqDiff, and_true, and_false, false_and, true_and, if_true, if_false, ite_true, ite_false, reduceIte, Int.reduceToNat, fx_simp0]
    refine fx_zle 28 26 (by decide +kernel) (by unfold fR; omega) (fun h23 => ?_) (fun h23 => ?_)
    · refine fx_la 0 29 (v := 1186) (by decide +kernel) rfl (by decide +kernel) ?_
      refine fx_c1 320 21 32 0 [7] (by decide +kernel) (by decide) rfl (by first | decide | omega) ?_
      refine sp_mrem (by rw [fu_nj (by decide)]; exact hA.1) (by rw [fu_nj (by decide)]; exact hA.2) (fK0 ?_)
      rw [mRem_row]
      refine fx_la 0 33 (v := 1186) (by decide +kernel) rfl (by decide +kernel) ?_
      refine fx_li 1 34 (by decide +kernel) rfl ?_
      refine fx_ci (1) 35 (by decide +kernel) ?_
      refine fx_c3 338 21 38 39 [7, 7] (by decide +kernel) (by decide) (by decide) (fI_n4 _) (fI_n4 _) rfl (by first | decide | omega) ?_
      refine sp_mgoes (dr := true) (nn := n) (by omega) h hw (fun G' x => fK1 ?_)
      refine fx_ret (by decide +kernel) ?_
      exact k3 n rfl t G' x
    · refine fx_ci (0) 27 (by decide +kernel) ?_
      refine fx_ret (by decide +kernel) ?_
      exfalso; omega
  · refine fx_zne 15 11 (by decide +kernel) (by unfold fR; omega) (fun hc => absurd hc (by decide)) (fun _ => ?_)
    refine fx_ci (1) 12 (by decide +kernel) ?_
    refine fx_go 16 (by decide +kernel) ?_
    refine fx_pi 1186 148 0 19 (by decide +kernel) (by unfold fR; omega) ?_
    refine fx_la 0 20 (v := 1186) (by decide +kernel) rfl (by decide +kernel) ?_
    refine fx_gi 1186 148 0 23 (by decide +kernel) ?_
    try simp only [fu_app, fcy_app, Nat.reduceEqDiff, and_true, and_false, false_and, true_and, if_true, if_false, ite_true, ite_false, reduceIte, Int.reduceToNat, fx_simp0]
    refine fx_zle 28 26 (by decide +kernel) (by unfold fR; omega) (fun h23 => ?_) (fun h23 => ?_)
    · exfalso; omega
    · refine fx_ci (0) 27 (by decide +kernel) ?_
      refine fx_ret (by decide +kernel) ?_
      exact k1 t
theorem sp_moff {a : Int} (ha : fR a) (hb : mBd g) (h : NI (g 149)) (hw : LwR (g 149) segs) (k1 : ¬ (0 ≤ a ∧ a < g 149 3) → Q 1 (fI 0) (fu g 148 0 1))
    (k2 : ∀ p : Nat, a = p → (p : Int) < g 149 3 → ¬ (awT (g 149) p ∧ mMay (g 149) segs p) → ∀ g1, rA (fu g 148 0 0) g1 → Q 1 (fI 0) (fu g1 148 0 2))
    (k3 : ∀ p : Nat, a = p → (p : Int) < g 149 3 → awT (g 149) p → mMay (g 149) segs p → ∀ g1, rA (fu g 148 0 0) g1 → Q 1 (fI (tOff (g 149) p 8)) (frow (mRem (fu g1 148 0 0)) (tOff (g 149) p))) : fx W r 37 332 0 [1186, fI a] [] g Q := by
  obtain ⟨b3, bA, b8, b10, bw⟩ := hb
  refine fx_rg (fun hg => ?_)
  refine fx_la 0 1 (v := 1186) (by decide +kernel) rfl (by decide +kernel) ?_
  refine fx_la 0 2 (v := 1186) (by decide +kernel) rfl (by decide +kernel) ?_
  refine fx_li 1 3 (by decide +kernel) rfl ?_
  refine fx_c2 298 21 6 1 [] (by decide +kernel) (by decide) (by decide) (fI_n4 _) rfl (by first | decide | omega) ?_
  refine sp_misPersonE ha b3.1 b3.2 (fun t => fK1 ?_) (fun t => fK1 ?_)
  · obtain ⟨p, rfl⟩ := Int.eq_ofNat_of_zero_le t.1
    have hp : p < 8 := by omega
    have bwp := bw p hp
    have bpp := h.1.2.2.2.2.2.1 p hp
    have rowE : fu g 148 0 0 149 = g 149 := fu_row (by decide)
    refine fx_zne 13 9 (by decide +kernel) (by unfold fR; omega) (fun _ => ?_) (fun hc => absurd hc (by decide))
    refine fx_ci (0) 14 (by decide +kernel) ?_
    refine fx_pi 1186 148 0 17 (by decide +kernel) (by unfold fR; omega) ?_
    refine fx_la 0 18 (v := 1186) (by decide +kernel) rfl (by decide +kernel) ?_
    refine fx_gi 1186 148 0 21 (by decide +kernel) ?_
    try simp only [fu_app, fcy_app, Nat.reduceEqDiff, and_true, and_false, false_and, true_and, if_true, if_false, ite_true, ite_false, reduceIte, Int.reduceToNat, fx_simp0]
    refine fx_zle 26 24 (by decide +kernel) (by unfold fR; omega) (fun h21 => ?_) (fun h21 => ?_)
    · refine fx_la 0 27 (v := 1186) (by decide +kernel) rfl (by decide +kernel) ?_
      refine fx_la 0 28 (v := 1186) (by decide +kernel) rfl (by decide +kernel) ?_
      refine fx_li 1 29 (by decide +kernel) rfl ?_
      refine fx_c2 300 21 32 36 [] (by decide +kernel) (by decide) (by decide) (fI_n4 _) rfl (by first | decide | omega) ?_
      refine sp_mmayBeOff (segs := segs) (by rw [rowE]; exact hw) hp (fun u1 u2 g1 x1 => fK1 ?_) (fun u g1 x1 => fK1 ?_)
      all_goals rw [rowE] at *
      · refine fx_zne 39 35 (by decide +kernel) (by unfold fR; omega) (fun _ => ?_) (fun hc => absurd hc (by decide))
        refine fx_ci (0) 40 (by decide +kernel) ?_
        refine fx_pi 1186 148 0 43 (by decide +kernel) (by unfold fR; omega) ?_
        refine fx_la 0 44 (v := 1186) (by decide +kernel) rfl (by decide +kernel) ?_
        refine fx_gi 1186 148 0 47 (by decide +kernel) ?_
        try simp only [fu_app, fcy_app, Nat.reduceEqDiff, and_true, and_false, false_and, true_and, if_true, if_false, ite_true, ite_false, reduceIte, Int.reduceToNat, fx_simp0]
        refine fx_zle 52 50 (by decide +kernel) (by unfold fR; omega) (fun h47 => ?_) (fun h47 => ?_)
        · refine fx_la 0 53 (v := 1186) (by decide +kernel) rfl (by decide +kernel) ?_
          refine fx_c1 320 21 56 0 [7] (by decide +kernel) (by decide) rfl (by first | decide | omega) ?_
          have gm : g1 149 = g 149 := by
            funext j
            rw [x1 _ _ (by decide) (fun u => absurd u.1 (by decide)), fu_nc (by decide)]
          have ga : g1 148 6 = g 148 6 := by rw [x1 _ _ (by decide) (by decide), fu_nj (by decide)]
          refine sp_mrem (by rw [fu_nj (by decide), ga]; exact bA.1) (by rw [fu_nj (by decide), ga]; exact bA.2) (fK0 ?_)
          have eG := mRem_row (g := g1) (z := 0)
          rw [gm] at eG
          rw [eG]
          have k3 := k3 p rfl (by omega) u1 u2 g1 x1
          clear eG
          generalize mRem (fu g1 148 0 0) = G at k3 ⊢
          refine fx_la 0 57 (v := 1186) (by decide +kernel) rfl (by decide +kernel) ?_
          refine fx_li 1 58 (by decide +kernel) rfl ?_
          refine fx_ci (5) 59 (by decide +kernel) ?_
          refine fx_ci (1) 60 (by decide +kernel) ?_
          refine fx_c4 288 21 63 0 [] (by decide +kernel) (by decide) (by decide) (fI_n4 _) (fI_n4 _) (fI_n4 _) rfl (by first | decide | omega) ?_
          refine sp_mputF (w := 5) hp (by decide) (by unfold fR; omega) (fK0 ?_)
          refine fx_la 0 64 (v := 1186) (by decide +kernel) rfl (by decide +kernel) ?_
          refine fx_la 0 65 (v := 1186) (by decide +kernel) rfl (by decide +kernel) ?_
          refine fx_li 1 66 (by decide +kernel) rfl ?_
          refine fx_ci (2) 67 (by decide +kernel) ?_
          refine fx_c3 299 21 70 0 [] (by decide +kernel) (by decide) (by decide) (fI_n4 _) (fI_n4 _) rfl (by first | decide | omega) ?_
          refine sp_mof (w := 2) hp (by decide) (fK1 ?_)
          rw [frow_m, tU_ne (by omega), show 12 + 7 * p + 2 = 14 + 7 * p by omega]
          refine fx_c2 321 21 73 1 [] (by decide +kernel) (by decide) (by decide) (fI_n4 _) rfl (by first | decide | omega) ?_
          refine sp_mgivesE (by rw [tU_ne (by omega)]; exact b8.1) (by rw [tU_ne (by omega)]; exact b8.2) (by omega) (by omega) (fK0 ?_)
          refine fx_la 0 74 (v := 1186) (by decide +kernel) rfl (by decide +kernel) ?_
          refine fx_li 1 75 (by decide +kernel) rfl ?_
          refine fx_ci (1) 76 (by decide +kernel) ?_
          refine fx_la 0 77 (v := 1186) (by decide +kernel) rfl (by decide +kernel) ?_
          refine fx_li 1 78 (by decide +kernel) rfl ?_
          refine fx_ci (0) 79 (by decide +kernel) ?_
          refine fx_c3 299 21 82 0 [] (by decide +kernel) (by decide) (by decide) (fI_n4 _) (fI_n4 _) rfl (by first | decide | omega) ?_
          refine sp_mof (w := 0) hp (by decide) (fK1 ?_)
          rw [frow_m, show 12 + 7 * p + 0 = 12 + 7 * p from rfl]
          have ep : tIron (tU (g 149) (12 + 7 * p + 5) 1) (g 149 (14 + 7 * p)) (12 + 7 * p) = g 149 (12 + 7 * p) := by unfold tIron; rw [tU_ne (by omega), tU_ne (by omega)]
          rw [ep]
          refine fx_c4 323 21 85 1 [7] (by decide +kernel) (by decide) (by decide) (fI_n4 _) (fI_n4 _) (fI_n4 _) rfl (by first | decide | omega) ?_
          refine sp_mlogsF (by unfold fR; omega) (by unfold fR; omega) (by unfold fR; omega) (by unfold tIron; rw [tU_ne (by decide), tU_ne (by omega)]; exact b10.1) (by unfold tIron; rw [tU_ne (by decide), tU_ne (by omega)]; exact b10.2) (fK0 ?_)
          refine fx_la 0 86 (v := 1186) (by decide +kernel) rfl (by decide +kernel) ?_
          refine fx_gp 1186 148 1 1194 89 (by decide +kernel) ?_
          refine fx_ci (8) 91 (by decide +kernel) ?_
          refine fx_al 1194 149 764 92 (by decide +kernel) rfl (by omega) (by omega) rfl ?_
          try simp only [fu_app, fcy_app, Nat.reduceEqDiff, and_true, and_false, false_and, true_and, if_true, if_false, ite_true, ite_false, reduceIte, Int.reduceToNat, fx_simp0]
          refine fx_ret (by decide +kernel) ?_
          exact k3
        · refine fx_ci (0) 51 (by decide +kernel) ?_
          refine fx_ret (by decide +kernel) ?_
          exfalso; omega
      · refine fx_zne 39 35 (by decide +kernel) (by unfold fR; omega) (fun hc => absurd hc (by decide)) (fun _ => ?_)
        refine fx_ci (2) 36 (by decide +kernel) ?_
        refine fx_go 40 (by decide +kernel) ?_
        refine fx_pi 1186 148 0 43 (by decide +kernel) (by unfold fR; omega) ?_
        refine fx_la 0 44 (v := 1186) (by decide +kernel) rfl (by decide +kernel) ?_
        refine fx_gi 1186 148 0 47 (by decide +kernel) ?_
        try simp only [fu_app, fcy_app, Nat.reduceEqDiff, and_true, and_false, false_and, true_and, if_true, if_false, ite_true, ite_false, reduceIte, Int.reduceToNat, fx_simp0]
        refine fx_zle 52 50 (by decide +kernel) (by unfold fR; omega) (fun h47 => ?_) (fun h47 => ?_)
        · exfalso; omega
        · refine fx_ci (0) 51 (by decide +kernel) ?_
          refine fx_ret (by decide +kernel) ?_
          exact k2 p rfl (by omega) u g1 x1
    · refine fx_ci (0) 25 (by decide +kernel) ?_
      refine fx_ret (by decide +kernel) ?_
      exfalso; omega
  · refine fx_zne 13 9 (by decide +kernel) (by unfold fR; omega) (fun hc => absurd hc (by decide)) (fun _ => ?_)
    refine fx_ci (1) 10 (by decide +kernel) ?_
    refine fx_go 14 (by decide +kernel) ?_
    refine fx_pi 1186 148 0 17 (by decide +kernel) (by unfold fR; omega) ?_
    refine fx_la 0 18 (v := 1186) (by decide +kernel) rfl (by decide +kernel) ?_
    refine fx_gi 1186 148 0 21 (by decide +kernel) ?_
    try simp only [fu_app, fcy_app, Nat.reduceEqDiff, and_true, and_false, false_and, true_and, if_true, if_false, ite_true, ite_false, reduceIte, Int.reduceToNat, fx_simp0]
    refine fx_zle 26 24 (by decide +kernel) (by unfold fR; omega) (fun h21 => ?_) (fun h21 => ?_)
    · exfalso; omega
    · refine fx_ci (0) 25 (by decide +kernel) ?_
      refine fx_ret (by decide +kernel) ?_
      exact k1 t
theorem sp_cserve {a : Int} {t : Nat → Int} (hr : 1 ≤ r) (ha : fR a) (hb : cBd g) (hd : 0 ≤ g 3 5 ∧ g 3 5 ≤ 6) (hH : RHf 3 g t) (hT : RTb 16 g t) (h : NI t) (hL : LwL g segs) (hw : LwR t segs) (k1 : ¬ (0 ≤ a ∧ a < g 3 5) → Q 4 0 g)
    (k3 : 0 ≤ a ∧ a < g 3 5 → ∀ i : Nat, i < 12 → i = ((g 0 17).toNat + 1) % 12 → ∀ g', CT_table (cRem g i) t g' (niT segs a true t) → Q 1 (fI (niN segs a (niW true t))) g') : fx W r 6 160 0 [2, fI a] [] g Q := by
  obtain ⟨b0, bn, bc, b5, b6, b9, b8, bw, bp⟩ := hb
  have e4 : g 3 5 = t 4 := hH.2.1
  refine fx_la 0 1 (v := 2) (by decide +kernel) rfl (by decide +kernel) ?_
  refine fx_li 1 2 (by decide +kernel) rfl ?_
  refine fx_c2 139 21 5 0 [] (by decide +kernel) (by decide) (by decide) (fI_n4 _) rfl (by first | decide | omega) ?_
  refine sp_needDish hr ha hd.1 hd.2 (fun u => fK0 ?_) (fun u => fK2 (k := 2) ?_)
  · refine fx_la 0 6 (v := 2) (by decide +kernel) rfl (by decide +kernel) ?_
    refine fx_c1 152 21 9 1 [] (by decide +kernel) (by decide) rfl (by first | decide | omega) ?_
    refine sp_crem bn.1 bn.2 bc.1 bc.2 (fun i hi hi2 => fK0 ?_)
    have k3 := k3 u i hi hi2
    have eG : ∀ c j, 3 ≤ c → c < 76 → cRem g i c j = g c j := fun c j h1 h2 => cRem_ne hi (fun t => by omega) (Or.inl h2)
    generalize cRem g i = G at k3 eG ⊢
    have hn : CN_table G t segs := ⟨RHf_eq hH (fun j _ _ => eG _ _ (by decide) (by decide)) (fun i j _ _ => eG _ _ (by omega) (by omega)), by rw [eG _ _ (by decide) (by decide)]; exact hd.2, hL.cg (eG _ _ (by decide) (by decide)) (fun i j _ _ => eG _ _ (by omega) (by omega)), hw⟩
    have hC : CT_table G t G t := ⟨RTb_cg hT (fun j _ _ => eG _ _ (by decide) (by decide)) (fun k j _ _ => eG _ _ (by omega) (by omega)) (fun _ _ => rfl), fTF_table.rf, h, NF.rf⟩
    refine fx_la 0 10 (v := 2) (by decide +kernel) rfl (by decide +kernel) ?_
    refine fx_gp 2 0 7 346 13 (by decide +kernel) ?_
    refine fx_la 0 14 (v := 2) (by decide +kernel) rfl (by decide +kernel) ?_
    refine fx_gp 2 0 3 130 17 (by decide +kernel) ?_
    refine fx_li 1 18 (by decide +kernel) rfl ?_
    refine fx_ci (1) 19 (by decide +kernel) ?_
    refine fx_c4 161 21 22 5 [7] (by decide +kernel) (by decide) (by decide) (by decide) (fI_n4 _) (fI_n4 _) rfl (by first | decide | omega) ?_
    refine sp_cnight_table (dr := true) hn hC (Or.inr (by omega)) (fun g' h' => fK1 ?_)
    refine fx_ret (by decide +kernel) ?_
    exact k3 g' h'
  · exact k1 u
theorem sp_cnights {a : Int} {t : Nat → Int} (hr : 1 ≤ r) (ha : fR a) (hb : cBd g) (hd : 0 ≤ g 3 5 ∧ g 3 5 ≤ 6) (hH : RHf 3 g t) (hT : RTb 16 g t) (h : NI t) (hL : LwL g segs) (hw : LwR t segs) (k1 : ¬ (1 ≤ a ∧ a ≤ 60) → Q 2 0 g)
    (k3 : ∀ n : Nat, a = n → 1 ≤ a ∧ a ≤ 60 → ∀ i : Nat, i < 12 → i = ((g 0 17).toNat + 1) % 12 → ∀ g', CT_table (cRem g i) t g' (goL segs true n t) → Q 1 (fI (goN segs true n t 0)) g') : fx W r 7 177 0 [2, fI a] [] g Q := by
  obtain ⟨b0, bn, bc, b5, b6, b9, b8, bw, bp⟩ := hb
  refine fx_la 0 1 (v := 2) (by decide +kernel) rfl (by decide +kernel) ?_
  refine fx_li 1 2 (by decide +kernel) rfl ?_
  refine fx_ci (1) 3 (by decide +kernel) ?_
  refine fx_ci (60) 5 (by decide +kernel) ?_
  refine fx_c4 173 21 8 0 [] (by decide +kernel) (by decide) (by decide) (fI_n4 _) (fI_n4 _) (fI_n4 _) rfl (by first | decide | omega) ?_
  refine sp_cneedWithin hr ha (by unfold fR; omega) (by unfold fR; omega) (fun u => fK0 ?_) (fun u => fK2 (k := 0) ?_)
  · obtain ⟨n, rfl⟩ := Int.eq_ofNat_of_zero_le (show 0 ≤ a by omega)
    refine fx_la 0 9 (v := 2) (by decide +kernel) rfl (by decide +kernel) ?_
    refine fx_c1 152 21 12 1 [] (by decide +kernel) (by decide) rfl (by first | decide | omega) ?_
    refine sp_crem bn.1 bn.2 bc.1 bc.2 (fun i hi hi2 => fK0 ?_)
    have k3 := k3 n rfl u i hi hi2
    have eG : ∀ c j, 3 ≤ c → c < 76 → cRem g i c j = g c j := fun c j h1 h2 => cRem_ne hi (fun t => by omega) (Or.inl h2)
    generalize cRem g i = G at k3 eG ⊢
    have hn : CN_table G t segs := ⟨RHf_eq hH (fun j _ _ => eG _ _ (by decide) (by decide)) (fun i j _ _ => eG _ _ (by omega) (by omega)), by rw [eG _ _ (by decide) (by decide)]; exact hd.2, hL.cg (eG _ _ (by decide) (by decide)) (fun i j _ _ => eG _ _ (by omega) (by omega)), hw⟩
    have hC : CT_table G t G t := ⟨RTb_cg hT (fun j _ _ => eG _ _ (by decide) (by decide)) (fun k j _ _ => eG _ _ (by omega) (by omega)) (fun _ _ => rfl), fTF_table.rf, h, NF.rf⟩
    refine fx_la 0 13 (v := 2) (by decide +kernel) rfl (by decide +kernel) ?_
    refine fx_gp 2 0 7 346 16 (by decide +kernel) ?_
    refine fx_la 0 17 (v := 2) (by decide +kernel) rfl (by decide +kernel) ?_
    refine fx_gp 2 0 3 130 20 (by decide +kernel) ?_
    refine fx_li 1 21 (by decide +kernel) rfl ?_
    refine fx_ci (1) 22 (by decide +kernel) ?_
    refine fx_c4 178 21 25 6 [7, 7, 7] (by decide +kernel) (by decide) (by decide) (by decide) (fI_n4 _) (fI_n4 _) rfl (by first | decide | omega) ?_
    refine sp_cnights_table (dr := true) (nn := n) hn (by omega) hC (fun g' h' => fK1 ?_)
    refine fx_ret (by decide +kernel) ?_
    exact k3 g' h'
  · exact k1 u
theorem sp_coff {a : Int} {t : Nat → Int} (hr : 1 ≤ r) (ha : fR a) (hb : cBd g) (hH : RHf 3 g t) (hT : RTb 16 g t) (hL : LwL g segs) (hw : LwR t segs) (k1 : ¬ (0 ≤ a ∧ a < g 3 4) → Q 4 0 g)
    (k2 : ∀ p : Nat, a = p → (p : Int) < g 3 4 → ¬ (awT t p ∧ mMay t segs p) → ∀ g1, fFS g g1 → Q 6 0 g1)
    (k3 : ∀ p : Nat, a = p → (p : Int) < g 3 4 → awT t p → mMay t segs p → ∀ g1, fFS g g1 → ∀ i : Nat, i < 12 → i = ((g 0 17).toNat + 1) % 12 → Q 1 (fI (if 9999 < g 16 8 + g 4 p then 9999 else g 16 8 + g 4 p)) (cNote 16 (fu (fu (cRem g1 i) 16 7 (fop 4 (g 16 7) (fop 6 1 (p : Int)))) 16 8 (if 9999 < g 16 8 + g 4 p then 9999 else g 16 8 + g 4 p)) p 1 (g 17 p))) : fx W r 4 168 0 [2, fI a] [] g Q := by
  obtain ⟨b0, bn, bc, b5, b6, b9, b8, bw, bp⟩ := hb
  refine fx_rg (fun hg => ?_)
  refine fx_la 0 1 (v := 2) (by decide +kernel) rfl (by decide +kernel) ?_
  refine fx_li 1 2 (by decide +kernel) rfl ?_
  refine fx_c2 123 21 5 0 [] (by decide +kernel) (by decide) (by decide) (fI_n4 _) rfl (by first | decide | omega) ?_
  refine sp_cneedPerson hr ha b0.1 b0.2 (fun q0 => fK0 ?_) (fun q0 => fK2 (k := 2) ?_)
  · obtain ⟨p, rfl⟩ := Int.eq_ofNat_of_zero_le q0.1
    have hp : p < 8 := by omega
    have bwp := bw p hp
    have bpp := bp p hp
    refine fx_la 0 6 (v := 2) (by decide +kernel) rfl (by decide +kernel) ?_
    refine fx_gp 2 0 3 130 9 (by decide +kernel) ?_
    refine fx_li 1 10 (by decide +kernel) rfl ?_
    refine fx_c2 55 21 13 1 [] (by decide +kernel) (by decide) (by decide) (fI_n4 _) rfl (by first | decide | omega) ?_
    refine sp_cawayR_table hT.1 hp (fun u => fK1 ?_) (fun u => fK1 ?_)
    · refine fx_zeq 31 16 (by decide +kernel) (by unfold fR; omega) (fun hc => absurd hc (by decide)) (fun _ => ?_)
      refine fx_la 0 17 (v := 2) (by decide +kernel) rfl (by decide +kernel) ?_
      refine fx_gp 2 0 7 346 20 (by decide +kernel) ?_
      refine fx_la 0 21 (v := 2) (by decide +kernel) rfl (by decide +kernel) ?_
      refine fx_gp 2 0 3 130 24 (by decide +kernel) ?_
      refine fx_li 1 25 (by decide +kernel) rfl ?_
      refine fx_c3 125 21 28 3 [] (by decide +kernel) (by decide) (by decide) (by decide) (fI_n4 _) rfl (by first | decide | omega) ?_
      have hF := cF_m_table (pl := g 17 p) (d := 0) hH hT.1 hp
      refine sp_cmayBeOff_table (segs := segs) hL (by rw [hF]; exact hw.ok (mFv_78 _ _ _ _)) hp (fun v g1 x1 => fK1 ?_) (fun v g1 x1 => fK1 ?_)
      all_goals rw [cMay_m_table hH hT.1 hp] at v
      · refine fx_zne 42 31 (by decide +kernel) (by unfold fR; omega) (fun _ => ?_) (fun hc => absurd hc (by decide))
        refine fx_la 0 43 (v := 2) (by decide +kernel) rfl (by decide +kernel) ?_
        refine fx_c1 152 21 46 1 [] (by decide +kernel) (by decide) rfl (by first | decide | omega) ?_
        have en : g1 0 17 = g 0 17 := x1 _ _ (by decide) (by decide)
        have ec : g1 0 16 = g 0 16 := x1 _ _ (by decide) (by decide)
        refine sp_crem (by rw [en]; exact bn.1) (by rw [en]; exact bn.2) (by rw [ec]; exact bc.1) (by rw [ec]; exact bc.2) (fun i hi hi2 => fK0 ?_)
        rw [en] at hi2
        have k3 := k3 p rfl (by omega) u v g1 x1 i hi hi2
        have eG : ∀ c j, 3 ≤ c → c < 76 → c ≠ 14 → c ≠ 15 → cRem g1 i c j = g c j := fun c j h1 h2 h3 h4 => by rw [cRem_ne hi (fun t => by omega) (Or.inl h2), x1 c j h3 h4]
        generalize cRem g1 i = G at k3 eG ⊢
        refine fx_la 0 47 (v := 2) (by decide +kernel) rfl (by decide +kernel) ?_
        refine fx_gp 2 0 3 130 50 (by decide +kernel) ?_
        refine fx_dup 51 (by decide +kernel) rfl (by decide) ?_
        refine fx_gi 130 16 7 54 (by decide +kernel) ?_
        try simp only [fu_app, fcy_app, Nat.reduceEqDiff, and_true, and_false, false_and, true_and, if_true, if_false, ite_true, ite_false, reduceIte, Int.reduceToNat, fx_simp0]
        rw [eG _ _ (by decide) (by decide) (by decide) (by decide)]
        refine fx_ci (1) 55 (by decide +kernel) ?_
        refine fx_li 1 56 (by decide +kernel) rfl ?_
        refine fx_bin 6 57 (by decide +kernel) rfl (fun h => absurd h (by decide)) ?_
        refine fx_bin 4 58 (by decide +kernel) rfl (fun h => absurd h (by decide)) ?_
        refine fx_pi 130 16 7 61 (by decide +kernel) (by first | exact fop_R _ _ _ | (unfold fR; omega)) ?_
        refine fx_la 0 62 (v := 2) (by decide +kernel) rfl (by decide +kernel) ?_
        refine fx_gp 2 0 3 130 65 (by decide +kernel) ?_
        refine fx_la 0 66 (v := 2) (by decide +kernel) rfl (by decide +kernel) ?_
        refine fx_gp 2 0 1 26 69 (by decide +kernel) ?_
        refine fx_gp 26 3 0 34 72 (by decide +kernel) ?_
        refine fx_li 1 73 (by decide +kernel) rfl ?_
        refine fx_al 34 4 8 74 (by decide +kernel) rfl (by omega) (by omega) rfl ?_
        try simp only [fu_app, fcy_app, Nat.reduceEqDiff, and_true, and_false, false_and, true_and, if_true, if_false, ite_true, ite_false, reduceIte, Int.reduceToNat, fx_simp0]
        rw [show ((p : Int)).toNat = p from rfl, eG _ _ (by decide) (by decide) (by decide) (by decide)]
        refine fx_c2 157 21 77 1 [] (by decide +kernel) (by decide) (by decide) (fI_n4 _) rfl (by first | decide | omega) ?_
        have e8 : fu G 16 7 (fop 4 (g 16 7) (fop 6 1 (p : Int))) 16 8 = g 16 8 := by rw [fu_nj (by decide), eG _ _ (by decide) (by decide) (by decide) (by decide)]
        refine sp_caddIron (by rw [e8]; exact b8.1) (by rw [e8]; exact b8.2) bwp.1 bwp.2 (fK0 ?_)
        rw [e8]
        have awp : g 17 p = t (12 + 7 * p) := hT.1.1 p hp
        have u1 := u.1
        refine fx_la 0 78 (v := 2) (by decide +kernel) rfl (by decide +kernel) ?_
        refine fx_gp 2 0 3 130 81 (by decide +kernel) ?_
        refine fx_li 1 82 (by decide +kernel) rfl ?_
        refine fx_ci (1) 83 (by decide +kernel) ?_
        refine fx_la 0 84 (v := 2) (by decide +kernel) rfl (by decide +kernel) ?_
        refine fx_gp 2 0 3 130 87 (by decide +kernel) ?_
        refine fx_gp 130 16 0 138 90 (by decide +kernel) ?_
        refine fx_li 1 91 (by decide +kernel) rfl ?_
        refine fx_al 138 17 8 92 (by decide +kernel) rfl (by omega) (by omega) rfl ?_
        try simp only [fu_app, fcy_app, Nat.reduceEqDiff, and_true, and_false, false_and, true_and, if_true, if_false, ite_true, ite_false, reduceIte, Int.reduceToNat, fx_simp0]
        rw [show ((p : Int)).toNat = p from rfl, eG _ _ (by decide) (by decide) (by decide) (by decide)]
        refine fx_c4 153 21 95 0 [] (by decide +kernel) (by decide) (by decide) (fI_n4 _) (fI_n4 _) (fI_n4 _) rfl (by first | decide | omega) ?_
        refine sp_cnote_table (by rw [fu_nj (by decide), fu_nj (by decide), eG _ _ (by decide) (by decide) (by decide) (by decide)]; exact b5.1) (by rw [fu_nj (by decide), fu_nj (by decide), eG _ _ (by decide) (by decide) (by decide) (by decide)]; exact b5.2) (by rw [fu_nj (by decide), fu_nj (by decide), eG _ _ (by decide) (by decide) (by decide) (by decide)]; exact b6.1) (by rw [fu_nj (by decide), fu_nj (by decide), eG _ _ (by decide) (by decide) (by decide) (by decide)]; exact b6.2) (by rw [fu_nj (by decide), fu_nj (by decide), eG _ _ (by decide) (by decide) (by decide) (by decide)]; exact b9.1) (by rw [fu_nj (by decide), fu_nj (by decide), eG _ _ (by decide) (by decide) (by decide) (by decide)]; exact b9.2) (by omega) (by omega) (by decide) (by decide) (by omega) (by omega) (fK0 ?_)
        refine fx_la 0 96 (v := 2) (by decide +kernel) rfl (by decide +kernel) ?_
        refine fx_gp 2 0 3 130 99 (by decide +kernel) ?_
        refine fx_gi 130 16 8 102 (by decide +kernel) ?_
        try simp only [fu_app, fcy_app, Nat.reduceEqDiff, and_true, and_false, false_and, true_and, if_true, if_false, ite_true, ite_false, reduceIte, Int.reduceToNat, fx_simp0]
        rw [cNote_ne (by decide) (by decide), fu_eq]
        refine fx_ret (by decide +kernel) ?_
        exact k3
      · refine fx_zne 42 31 (by decide +kernel) (by unfold fR; omega) (fun hc => absurd hc (by decide)) (fun _ => ?_)
        refine fx_throw 4 (by decide +kernel) rfl (by omega) ?_
        exact k2 p rfl (by omega) (fun q => v q.2) g1 x1
    · refine fx_zeq 31 16 (by decide +kernel) (by unfold fR; omega) (fun _ => ?_) (fun hc => absurd hc (by decide))
      refine fx_throw 4 (by decide +kernel) rfl (by omega) ?_
      exact k2 p rfl (by omega) (fun q => u q.1) g fFS.rf
  · exact k1 q0
end FIM
