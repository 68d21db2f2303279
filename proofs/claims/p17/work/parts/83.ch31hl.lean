/-! fx: one leaves, one comes home: the reference -/
theorem fu_row {g : Nat → Nat → Int} {c c' j : Nat} {z : Int} (h : c' ≠ c) : fu g c j z c' = g c' := by
  funext k
  exact fu_nc h
/-- what holds of the reference's row in any case -/
def mBd (g : Nat → Nat → Int) : Prop := (0 ≤ g 149 3 ∧ g 149 3 ≤ 8) ∧ (0 ≤ g 148 6 ∧ g 148 6 ≤ 12) ∧ (0 ≤ g 149 8 ∧ g 149 8 ≤ 9999) ∧ (0 ≤ g 149 10 ∧ g 149 10 ≤ 60) ∧ ∀ p : Nat, p < 8 → 0 ≤ g 149 (14 + 7 * p) ∧ g 149 (14 + 7 * p) ≤ 99
theorem mBd_th {g : Nat → Nat → Int} {z : Int} (h : mBd g) : mBd (fu g 148 0 z) := by
  unfold mBd
  rw [fu_row (by decide), fu_nj (by decide)]
  exact h
/-- iron more -/
def tIron (t : Nat → Int) (v : Int) : Nat → Int := tU t 8 (if 9999 < t 8 + v then 9999 else t 8 + v)
def tLeave (t : Nat → Int) (p : Nat) : Nat → Int := tNote (tU (tU (tIron t (-t (14 + 7 * p))) (12 + 7 * p + 0) 0) (12 + 7 * p + 6) 0) p 0 0
def tHome (t : Nat → Int) (p : Nat) : Nat → Int := tNote (tU (tU (tIron t (t (14 + 7 * p))) (12 + 7 * p + 0) (-1)) (12 + 7 * p + 6) 0) p 2 0
section FHL
variable {W : ax_W} {r : Nat} {g : Nat → Nat → Int} {Q : Nat → Nat → (Nat → Nat → Int) → Prop}
theorem sp_mgivesE {G : Nat → Nat → Int} {t : Nat → Int} {v : Int} (h0 : 0 ≤ t 8) (h1 : t 8 ≤ 9999) (v0 : -99 ≤ v) (v1 : v ≤ 99) (kq : Q 0 0 (frow G (tIron t v))) : fx W r 1 321 0 [1186, fI v] [] (frow G t) Q := by
  refine sp_mgives (by rw [frow_m]; exact h0) (by rw [frow_m]; exact h1) v0 v1 ?_
  rw [frow_mm, frow_frow]
  exact kq
theorem sp_mputF {G : Nat → Nat → Int} {t : Nat → Int} {p w : Nat} {v : Int} (hp : p < 8) (hw : w < 7) (hv : fR v) (kq : Q 0 0 (frow G (tU t (12 + 7 * p + w) v))) : fx W r 0 288 0 [1186, fI (p : Int), fI (w : Int), fI v] [] (frow G t) Q := by
  refine sp_mputE hp hw hv ?_
  rw [frow_mm, frow_frow]
  exact kq
theorem sp_mlogsF {G : Nat → Nat → Int} {t : Nat → Int} {p k w : Int} (hp : fR p) (hk : fR k) (hw : fR w) (h0 : 0 ≤ t 10) (h1 : t 10 ≤ 60) (kq : Q 0 0 (frow G (tNote t p k w))) : fx W r 1 323 0 [1186, fI p, fI k, fI w, 7] [] (frow G t) Q := by
  refine sp_mlogs hp hk hw (by rw [frow_m]; exact h0) (by rw [frow_m]; exact h1) ?_
  rw [frow_mm, frow_frow]
  exact kq
theorem tIron_b {t : Nat → Int} {v : Int} (h0 : 0 ≤ t 8) (h1 : t 8 ≤ 9999) (v0 : 0 ≤ t 8 + v) : 0 ≤ tIron t v 8 ∧ tIron t v 8 ≤ 9999 := by
  unfold tIron
  rw [tU_eq]
  split <;> omega
theorem sp_mleave {a : Int} (ha : fR a) (hb : mBd g) (k1 : ¬ (0 ≤ a ∧ a < g 149 3) → Q 1 (fI 0) (fu g 148 0 1))
    (k2 : ∀ p : Nat, a = p → (p : Int) < g 149 3 → ¬ ((g 149 (12 + 7 * p) = -1 ∧ g 149 (17 + 7 * p) ≠ 1) ∧ g 149 (14 + 7 * p) ≤ g 149 8) → Q 1 (fI 0) (fu g 148 0 2))
    (k3 : ∀ p : Nat, a = p → (p : Int) < g 149 3 → g 149 (12 + 7 * p) = -1 → g 149 (17 + 7 * p) ≠ 1 → g 149 (14 + 7 * p) ≤ g 149 8 → Q 1 (fI (tLeave (g 149) p 8)) (frow (mRem (fu g 148 0 0)) (tLeave (g 149) p))) : fx W r 3 319 0 [1186, fI a] [] g Q := by
  obtain ⟨b3, bA, b8, b10, bw⟩ := hb
  refine fx_rg (fun hg => ?_)
  refine fx_la 0 1 (v := 1186) (by decide +kernel) rfl (by decide +kernel) ?_
  refine fx_la 0 2 (v := 1186) (by decide +kernel) rfl (by decide +kernel) ?_
  refine fx_li 1 3 (by decide +kernel) rfl ?_
  refine fx_c2 298 21 6 1 [] (by decide +kernel) (by decide) (by decide) (fI_n4 _) rfl (by first | decide | omega) ?_
  refine sp_misPersonE ha b3.1 b3.2 (fun t => fK1 ?_) (fun t => fK1 ?_)
  · obtain ⟨p, rfl⟩ := Int.eq_ofNat_of_zero_le t.1
    have hp : p < 8 := by omega
    have bwp := bw p hp
    refine fx_zne 13 9 (by decide +kernel) (by unfold fR; omega) (fun _ => ?_) (fun hc => absurd hc (by decide))
    refine fx_ci (0) 14 (by decide +kernel) ?_
    refine fx_pi 1186 148 0 17 (by decide +kernel) (by unfold fR; omega) ?_
    refine fx_la 0 18 (v := 1186) (by decide +kernel) rfl (by decide +kernel) ?_
    refine fx_gi 1186 148 0 21 (by decide +kernel) ?_
    try simp only [fu_app, fcy_app, Nat.reduceEqDiff, and_true, and_false, false_and, true_and, if_true, if_false, ite_true, ite_false, reduceIte, Int.reduceToNat, fx_simp0]
    refine fx_zle 26 24 (by decide +kernel) (by unfold fR; omega) (fun h21 => ?_) (fun h21 => ?_)
    · refine fx_la 0 27 (v := 1186) (by decide +kernel) rfl (by decide +kernel) ?_
      refine fx_la 0 28 (v := 1186) (by decide +kernel) rfl (by decide +kernel) ?_
      refine fx_li 1 29 (by decide +kernel) rfl ?_
      refine fx_c2 309 21 32 2 [] (by decide +kernel) (by decide) (by decide) (fI_n4 _) rfl (by first | decide | omega) ?_
      refine sp_misHome hp (fun u => fK1 ?_) (fun u => fK1 ?_)
      all_goals rw [fu_nc (by decide), fu_nc (by decide)] at u
      · refine fx_zeq 51 35 (by decide +kernel) (by unfold fR; omega) (fun hc => absurd hc (by decide)) (fun _ => ?_)
        refine fx_la 0 36 (v := 1186) (by decide +kernel) rfl (by decide +kernel) ?_
        refine fx_gp 1186 148 1 1194 39 (by decide +kernel) ?_
        refine fx_ci (8) 41 (by decide +kernel) ?_
        refine fx_al 1194 149 764 42 (by decide +kernel) rfl (by omega) (by omega) rfl ?_
        try simp only [fu_app, fcy_app, Nat.reduceEqDiff, and_true, and_false, false_and, true_and, if_true, if_false, ite_true, ite_false, reduceIte, Int.reduceToNat, fx_simp0]
        refine fx_la 0 43 (v := 1186) (by decide +kernel) rfl (by decide +kernel) ?_
        refine fx_li 1 44 (by decide +kernel) rfl ?_
        refine fx_ci (2) 45 (by decide +kernel) ?_
        refine fx_c3 299 21 48 0 [] (by decide +kernel) (by decide) (by decide) (fI_n4 _) (fI_n4 _) rfl (by first | decide | omega) ?_
        refine sp_mof (w := 2) hp (by decide) (fK1 ?_)
        rw [fu_nc (by decide), show 12 + 7 * p + 2 = 14 + 7 * p by omega]
        refine fx_ige 55 51 (by decide +kernel) (by unfold fR; omega) (by unfold fR; omega) (fun h48 => ?_) (fun h48 => ?_)
        · refine fx_ci (0) 56 (by decide +kernel) ?_
          refine fx_pi 1186 148 0 59 (by decide +kernel) (by unfold fR; omega) ?_
          refine fx_la 0 60 (v := 1186) (by decide +kernel) rfl (by decide +kernel) ?_
          refine fx_gi 1186 148 0 63 (by decide +kernel) ?_
          try simp only [fu_app, fcy_app, Nat.reduceEqDiff, and_true, and_false, false_and, true_and, if_true, if_false, ite_true, ite_false, reduceIte, Int.reduceToNat, fx_simp0]
          refine fx_zle 68 66 (by decide +kernel) (by unfold fR; omega) (fun h63 => ?_) (fun h63 => ?_)
          · refine fx_la 0 69 (v := 1186) (by decide +kernel) rfl (by decide +kernel) ?_
            refine fx_c1 320 21 72 0 [7] (by decide +kernel) (by decide) rfl (by first | decide | omega) ?_
            rw [fu_fu]
            refine sp_mrem (by rw [fu_nj (by decide)]; exact bA.1) (by rw [fu_nj (by decide)]; exact bA.2) (fK0 ?_)
            have eG : mRem (fu g 148 0 0) = frow (mRem (fu g 148 0 0)) (g 149) := by
              have e := frow_self (mRem (fu g 148 0 0))
              rw [mRem_m, fu_row (by decide)] at e
              exact e.symm
            rw [eG]
            have k3 := k3 p rfl (by omega) u.1 u.2 (by omega)
            generalize mRem (fu g 148 0 0) = G at k3 ⊢
            refine fx_la 0 73 (v := 1186) (by decide +kernel) rfl (by decide +kernel) ?_
            refine fx_la 0 74 (v := 1186) (by decide +kernel) rfl (by decide +kernel) ?_
            refine fx_li 1 75 (by decide +kernel) rfl ?_
            refine fx_ci (2) 76 (by decide +kernel) ?_
            refine fx_c3 299 21 79 0 [] (by decide +kernel) (by decide) (by decide) (fI_n4 _) (fI_n4 _) rfl (by first | decide | omega) ?_
            refine sp_mof (w := 2) hp (by decide) (fK1 ?_)
            rw [frow_m, show 12 + 7 * p + 2 = 14 + 7 * p by omega]
            refine fx_ineg 80 (by decide +kernel) rfl ?_
            refine fx_c2 321 21 83 1 [] (by decide +kernel) (by decide) (by decide) (fI_n4 _) rfl (by first | decide | omega) ?_
            refine sp_mgivesE b8.1 b8.2 (by omega) (by omega) (fK0 ?_)
            refine fx_la 0 84 (v := 1186) (by decide +kernel) rfl (by decide +kernel) ?_
            refine fx_li 1 85 (by decide +kernel) rfl ?_
            refine fx_ci (0) 86 (by decide +kernel) ?_
            refine fx_ci (0) 87 (by decide +kernel) ?_
            refine fx_c4 288 21 90 0 [] (by decide +kernel) (by decide) (by decide) (fI_n4 _) (fI_n4 _) (fI_n4 _) rfl (by first | decide | omega) ?_
            refine sp_mputF (w := 0) hp (by decide) (by unfold fR; omega) (fK0 ?_)
            refine fx_la 0 91 (v := 1186) (by decide +kernel) rfl (by decide +kernel) ?_
            refine fx_li 1 92 (by decide +kernel) rfl ?_
            refine fx_ci (6) 94 (by decide +kernel) ?_
            refine fx_ci (0) 95 (by decide +kernel) ?_
            refine fx_c4 288 21 98 0 [] (by decide +kernel) (by decide) (by decide) (fI_n4 _) (fI_n4 _) (fI_n4 _) rfl (by first | decide | omega) ?_
            refine sp_mputF (w := 6) hp (by decide) (by unfold fR; omega) (fK0 ?_)
            refine fx_la 0 99 (v := 1186) (by decide +kernel) rfl (by decide +kernel) ?_
            refine fx_li 1 100 (by decide +kernel) rfl ?_
            refine fx_ci (0) 101 (by decide +kernel) ?_
            refine fx_ci (0) 102 (by decide +kernel) ?_
            refine fx_c4 323 21 105 1 [7] (by decide +kernel) (by decide) (by decide) (fI_n4 _) (fI_n4 _) (fI_n4 _) rfl (by first | decide | omega) ?_
            refine sp_mlogsF (by unfold fR; omega) (by unfold fR; omega) (by unfold fR; omega) (by rw [tU_ne (by omega), tU_ne (by omega)]; unfold tIron; rw [tU_ne (by decide)]; exact b10.1) (by rw [tU_ne (by omega), tU_ne (by omega)]; unfold tIron; rw [tU_ne (by decide)]; exact b10.2) (fK0 ?_)
            refine fx_la 0 106 (v := 1186) (by decide +kernel) rfl (by decide +kernel) ?_
            refine fx_gp 1186 148 1 1194 109 (by decide +kernel) ?_
            refine fx_ci (8) 111 (by decide +kernel) ?_
            refine fx_al 1194 149 764 112 (by decide +kernel) rfl (by omega) (by omega) rfl ?_
            try simp only [fu_app, fcy_app, Nat.reduceEqDiff, and_true, and_false, false_and, true_and, if_true, if_false, ite_true, ite_false, reduceIte, Int.reduceToNat, fx_simp0]
            refine fx_ret (by decide +kernel) ?_
            exact k3
          · refine fx_ci (0) 67 (by decide +kernel) ?_
            refine fx_ret (by decide +kernel) ?_
            exfalso; omega
        · refine fx_ci (2) 52 (by decide +kernel) ?_
          refine fx_go 56 (by decide +kernel) ?_
          refine fx_pi 1186 148 0 59 (by decide +kernel) (by unfold fR; omega) ?_
          refine fx_la 0 60 (v := 1186) (by decide +kernel) rfl (by decide +kernel) ?_
          refine fx_gi 1186 148 0 63 (by decide +kernel) ?_
          try simp only [fu_app, fcy_app, Nat.reduceEqDiff, and_true, and_false, false_and, true_and, if_true, if_false, ite_true, ite_false, reduceIte, Int.reduceToNat, fx_simp0]
          refine fx_zle 68 66 (by decide +kernel) (by unfold fR; omega) (fun h63 => ?_) (fun h63 => ?_)
          · exfalso; omega
          · refine fx_ci (0) 67 (by decide +kernel) ?_
            refine fx_ret (by decide +kernel) ?_
            rw [fu_fu]
            exact k2 p rfl (by omega) (fun q => by omega)
      · refine fx_zeq 51 35 (by decide +kernel) (by unfold fR; omega) (fun _ => ?_) (fun hc => absurd hc (by decide))
        refine fx_ci (2) 52 (by decide +kernel) ?_
        refine fx_go 56 (by decide +kernel) ?_
        refine fx_pi 1186 148 0 59 (by decide +kernel) (by unfold fR; omega) ?_
        refine fx_la 0 60 (v := 1186) (by decide +kernel) rfl (by decide +kernel) ?_
        refine fx_gi 1186 148 0 63 (by decide +kernel) ?_
        try simp only [fu_app, fcy_app, Nat.reduceEqDiff, and_true, and_false, false_and, true_and, if_true, if_false, ite_true, ite_false, reduceIte, Int.reduceToNat, fx_simp0]
        refine fx_zle 68 66 (by decide +kernel) (by unfold fR; omega) (fun h63 => ?_) (fun h63 => ?_)
        · exfalso; omega
        · refine fx_ci (0) 67 (by decide +kernel) ?_
          refine fx_ret (by decide +kernel) ?_
          rw [fu_fu]
          exact k2 p rfl (by omega) (fun q => u q.1)
    · refine fx_ci (0) 25 (by decide +kernel) ?_
      refine fx_ret (by decide +kernel) ?_
      exfalso; omega
  · refine fx_zne 13 9 (by decide +kernel) (by unfold fR; omega) (fun hc => absurd hc (by decide)) (fun _ => ?_)
    refine fx_ci (1) 10 (by decide +kernel) ?_
    refine fx_go 14 (by decide +kernel) ?_
    refine fx_pi 1186 148 0 17 (by decide +kernel) (by unfold fR; omega) ?_
    refine fx_la 0 18 (v := 1186) (by decide +kernel) rfl (by decide +kernel) ?_
    refine fx_gi 1186 148 0 21 (by decide +kernel) ?_
    try simp only [fu_app, fcy_app, Nat.reduceEqDiff, and_true, and_false, false_and, true_and, if_true, if_false, ite_true, ite_false, reduceIte, Int.reduceToNat, fx_simp0]
    refine fx_zle 26 24 (by decide +kernel) (by unfold fR; omega) (fun h21 => ?_) (fun h21 => ?_)
    · exfalso; omega
    · refine fx_ci (0) 25 (by decide +kernel) ?_
      refine fx_ret (by decide +kernel) ?_
      exact k1 t
end FHL
