/-! fx: the class's lines of the house -/
def apCP (g : Nat → Nat → Int) (w pl v l : Int) : Nat → Nat → Int := fu (fu (fu (fu (fu (fu (fu g 30 (g 29 4).toNat w) 31 (g 29 4).toNat l) 29 4 (g 29 4 + 1)) 23 (g 29 4).toNat pl) 24 (g 29 4).toNat v) 25 (g 29 4).toNat (-1)) 26 (g 29 4).toNat 0
def dshC (T : Int → Int) (f d : Int) : Nat → (Nat → Nat → Int) → Nat → Nat → Int
  | 0, g => g
  | k + 1, g => fu (dshC T f d k g) 32 (d * 8 + k).toNat (T (f + k) - 48)
def apCD (T : Int → Int) (f : Int) (g : Nat → Nat → Int) : Nat → Nat → Int := fu (dshC T f (g 29 5) 8 g) 29 5 (g 29 5 + 1)
noncomputable def apCR (one other : Int) (g : Nat → Nat → Int) : Nat → Nat → Int := fu (fu g 33 one.toNat (fop 4 (g 33 one.toNat) (fop 6 1 other))) 33 other.toNat (fop 4 (fu g 33 one.toNat (fop 4 (g 33 one.toNat) (fop 6 1 other)) 33 other.toNat) (fop 6 1 one))
def apCV (one other : Int) (g : Nat → Nat → Int) : Nat → Nat → Int := fu g 25 one.toNat other
def apCS (x y : Int) (g : Nat → Nat → Int) : Nat → Nat → Int := if x = 5 then fu g 29 7 y else if x = 6 then fu g 29 8 y else if x = 7 then fu g 29 9 y else if x = 8 then fu g 22 8 y else fu g 22 9 y
/-- what a line does in the class -/
noncomputable def apC (T : Int → Int) (u : List Int) (g : Nat → Nat → Int) : Nat → Nat → Int :=
  if u.getD 0 0 = 0 then apCP g (u.getD 1 0) (u.getD 2 0) (u.getD 3 0) (u.getD 4 0) else if u.getD 0 0 = 1 then apCD T (u.getD 1 0) g else if u.getD 0 0 = 2 then apCR (u.getD 1 0) (u.getD 2 0) g else if u.getD 0 0 = 3 then apCS (u.getD 1 0) (u.getD 2 0) g else apCV (u.getD 1 0) (u.getD 2 0) g
theorem apC_0 (T : Int → Int) (g : Nat → Nat → Int) (w pl v l : Int) : apC T [0, w, pl, v, l] g = apCP g w pl v l := by unfold apC; simp
theorem apC_1 (T : Int → Int) (g : Nat → Nat → Int) (f : Int) : apC T [1, f] g = apCD T f g := by unfold apC; simp
theorem apC_2 (T : Int → Int) (g : Nat → Nat → Int) (x y : Int) : apC T [2, x, y] g = apCR x y g := by unfold apC; simp
theorem apC_3 (T : Int → Int) (g : Nat → Nat → Int) (x y : Int) : apC T [3, x, y] g = apCS x y g := by unfold apC; simp
theorem apC_4 (T : Int → Int) (g : Nat → Nat → Int) (x y : Int) : apC T [4, x, y] g = apCV x y g := by unfold apC; simp
/-- nothing but the text's own, the draft and what is tried out -/
def eqc (g g' : Nat → Nat → Int) : Prop := ∀ c j, ¬ (22 ≤ c ∧ c ≤ 33) → g' c j = g c j
theorem eqc_refl (g : Nat → Nat → Int) : eqc g g := fun _ _ _ => rfl
theorem eqc_tr {g g' g'' : Nat → Nat → Int} (h : eqc g g') (h2 : eqc g' g'') : eqc g g'' := fun c j a => (h2 c j a).trans (h c j a)
theorem eqc_fu (g : Nat → Nat → Int) (c j : Nat) (z : Int) (h : 22 ≤ c ∧ c ≤ 33) : eqc g (fu g c j z) := fun c' j' a => fu_ne (fun t => a (by omega))
theorem eqc_at (T : Int → Int) (E : Int) (g : Nat → Nat → Int) (f : Int) : eqc g (cAt T E g f) := eqc_tr (eqc_fu _ _ _ _ (by decide)) (eqc_fu _ _ _ _ (by decide))
theorem cSt_fu {T : Int → Int} {E : Int} {g : Nat → Nat → Int} {f z : Int} {c j : Nat} (h : cSt T E g f) (h1 : c ≠ 2) (h2 : c ≠ 28) : cSt T E (fu g c j z) f := ⟨CT_fu h.1 h1 (fun t => h2 t.1.symm), by rw [fu_nc (Ne.symm h2)]; exact h.2.1, by rw [fu_nc (Ne.symm h2)]; exact h.2.2.1, h.2.2.2⟩
theorem cSt_w {T : Int → Int} {E : Int} {g : Nat → Nat → Int} {f z : Int} (h : cSt T E g f) : cSt T E (fu g 28 1 z) f := ⟨CT_fu h.1 (by decide) (by decide), by rw [fu_nj (by decide)]; exact h.2.1, by rw [fu_nj (by decide)]; exact h.2.2.1, h.2.2.2⟩
theorem cAt_fu {T : Int → Int} {E : Int} {g : Nat → Nat → Int} {f z : Int} {c j : Nat} (h : c ≠ 28) : cAt T E (fu g c j z) f = fu (cAt T E g f) c j z := by
  unfold cAt
  rw [fu_sw _ _ _ (fun t => h t.1), fu_sw _ _ _ (fun t => h t.1)]
section FXT
variable {W : ax_W} {r : Nat} {g : Nat → Nat → Int} {Q : Nat → Nat → (Nat → Nat → Int) → Prop} {T : Int → Int} {E : Int} {s : Nat} {f : Int}
theorem sp_takeTold_f {lo hi df : Int} (hs : f_sk s) (hw : g 28 1 ≠ -1) (kq : Q 1 (fI df) g) : fx W r 6 95 0 [226, s, fI lo, fI hi, fI df] [] g Q := by
  refine fx_rg (fun hg => ?_)
  refine fx_la 0 1 (v := 226) (by decide +kernel) rfl (by decide +kernel) ?_
  refine fx_gi 226 28 1 4 (by decide +kernel) ?_
  refine fx_ci (-1) 5 (by decide +kernel) ?_
  refine fx_ine 25 8 (by decide +kernel) (by first | exact hg 28 1 (by decide) (by decide +kernel) (by decide +kernel) | (unfold fR; omega)) (by unfold fR; omega) (fun h5 => ?_) (fun h5 => ?_)
  · refine fx_li 4 27 (by decide +kernel) rfl ?_
    refine fx_ret (by decide +kernel) ?_
    exact kq
  · refine fx_la 0 9 (v := 226) (by decide +kernel) rfl (by decide +kernel) ?_
    refine fx_la 1 10 (v := s) (by decide +kernel) rfl (f_sty hs) ?_
    refine fx_c2 78 21 13 5 [] (by decide +kernel) (by decide) (by decide) (f_s4 hs) rfl (by first | decide | omega) ?_
    exact absurd h5 hw
theorem sp_takeTold {lo hi df : Int} (ws : List Nat) (hsw : f_swb s ws = true) (hsl : f_lw ws = true) (h : cSt T E g f) (hw : g 28 1 = -1) (hlo : fR lo) (hhi : fR hi) (hdf : fR df)
    (k1 : ∀ f' v, pOpt T E ws lo hi df f = Sum.inr (f', v) → Q 1 (fI v) (cAt T E g f'))
    (k2 : ∀ q, pOpt T E ws lo hi df f = Sum.inl q → ∀ v, v = -1 → Q 1 (fI v) (fu (cAt T E g q) 28 1 q)) : fx W r 6 95 0 [226, s, fI lo, fI hi, fI df] [] g Q := by
  have hs := (f_sw hsw).1
  refine fx_rg (fun hg => ?_)
  unfold pOpt at k1 k2
  refine fx_la 0 1 (v := 226) (by decide +kernel) rfl (by decide +kernel) ?_
  refine fx_gi 226 28 1 4 (by decide +kernel) ?_
  refine fx_ci (-1) 5 (by decide +kernel) ?_
  refine fx_ine 25 8 (by decide +kernel) (by first | exact hg 28 1 (by decide) (by decide +kernel) (by decide +kernel) | (unfold fR; omega)) (by unfold fR; omega) (fun h5 => ?_) (fun h5 => ?_)
  · refine fx_li 4 27 (by decide +kernel) rfl ?_
    refine fx_ret (by decide +kernel) ?_
    exact absurd hw h5
  · refine fx_la 0 9 (v := 226) (by decide +kernel) rfl (by decide +kernel) ?_
    refine fx_la 1 10 (v := s) (by decide +kernel) rfl (f_sty hs) ?_
    refine fx_c2 78 21 13 5 [] (by decide +kernel) (by decide) (by decide) (f_s4 hs) rfl (by first | decide | omega) ?_
    refine sp_takesWord ws hsw hsl h (fun b => fK1 ?_) (fun b => fK1 ?_)
    · refine fx_zeq 25 16 (by decide +kernel) (by unfold fR; omega) (fun hc => absurd hc (by decide)) (fun _ => ?_)
      refine fx_la 0 17 (v := 226) (by decide +kernel) rfl (by decide +kernel) ?_
      refine fx_li 2 18 (by decide +kernel) rfl ?_
      refine fx_li 3 19 (by decide +kernel) rfl ?_
      refine fx_c3 93 21 22 1 [7, 7, 7] (by decide +kernel) (by decide) (by decide) (fI_n4 _) (fI_n4 _) rfl (by first | decide | omega) ?_
      refine sp_takeNumber (cSt_at h.1 (pOk_we h.2.2.2)) hlo hhi (fun p => fK1 ?_) (fun p v hv => fK1 ?_)
      · rw [cAt_at]
        refine fx_go 27 (by decide +kernel) ?_
        refine fx_ret (by decide +kernel) ?_
        exact k1 _ _ (by rw [cif_t b, cif_t p])
      · refine fx_go 27 (by decide +kernel) ?_
        refine fx_ret (by decide +kernel) ?_
        exact k2 _ (by rw [cif_t b, cif_f p]) v hv
    · refine fx_zeq 25 16 (by decide +kernel) (by unfold fR; omega) (fun _ => ?_) (fun hc => absurd hc (by decide))
      refine fx_li 4 27 (by decide +kernel) rfl ?_
      refine fx_ret (by decide +kernel) ?_
      have := k1 f df (by rw [cif_f b])
      rw [cAt_self h] at this
      exact this
theorem sp_takeOther {one many : Int} (h : cSt T E g f) (h1 : 0 ≤ one) (h1b : one ≤ 100) (hm0 : 0 ≤ many) (hm1 : many ≤ 100) (k1 : pN T E 0 (many - 1) f ∧ pNu T E f ≠ one → Q 1 (fI (pNu T E f)) (cAt T E g (pSk T E (pDg T E f)))) (k2 : ¬ (pN T E 0 (many - 1) f ∧ pNu T E f ≠ one) → ∀ g' v, v = -1 → eqc g g' → g' 28 1 = f → Q 1 (fI v) g') : fx W r 2 99 0 [226, fI one, fI many, 7, 7] [] g Q := by
  have f0 := h.2.2.2.1
  have f1 := h.2.2.2.2.1
  have a3 := h.1.2.2.1
  refine fx_rg (fun hg => ?_)
  refine fx_la 0 1 (v := 226) (by decide +kernel) rfl (by decide +kernel) ?_
  refine fx_gi 226 28 2 4 (by decide +kernel) ?_
  rw [h.2.1]
  refine fx_si 3 5 (by decide +kernel) (Or.inr (fI_n4 _)) rfl ?_
  dsimp only [List.set]
  refine fx_la 0 6 (v := 226) (by decide +kernel) rfl (by decide +kernel) ?_
  refine fx_ci (0) 7 (by decide +kernel) ?_
  refine fx_li 2 8 (by decide +kernel) rfl ?_
  refine fx_ci (1) 9 (by decide +kernel) ?_
  refine fx_sub 10 (by decide +kernel) rfl ?_
  refine fx_c3 93 21 13 1 [7, 7, 7] (by decide +kernel) (by decide) (by decide) (fI_n4 _) (fI_n4 _) rfl (by first | decide | omega) ?_
  refine sp_takeNumber h (by unfold fR; omega) (by unfold fR; omega) (fun p => fK1 ?_) (fun p v hv => fK1 ?_)
  · have pn : _ ≤ pNu T E f ∧ pNu T E f ≤ _ := p.2.2
    refine fx_si 4 15 (by decide +kernel) (Or.inr (fI_n4 _)) rfl ?_
    dsimp only [List.set]
    refine fx_li 4 17 (by decide +kernel) rfl ?_
    refine fx_li 1 18 (by decide +kernel) rfl ?_
    refine fx_ine 28 21 (by decide +kernel) (by unfold fR; omega) (by unfold fR; omega) (fun h18 => ?_) (fun h18 => ?_)
    · refine fx_li 4 30 (by decide +kernel) rfl ?_
      refine fx_ret (by decide +kernel) ?_
      exact k1 ⟨p, by omega⟩
    · refine fx_la 0 22 (v := 226) (by decide +kernel) rfl (by decide +kernel) ?_
      refine fx_li 3 23 (by decide +kernel) rfl ?_
      refine fx_pi 226 28 1 26 (by decide +kernel) (by first | exact hg 28 2 (by decide) (by decide +kernel) (by decide +kernel) | (unfold fR; omega)) ?_
      refine fx_ci (-1) 27 (by decide +kernel) ?_
      refine fx_ret (by decide +kernel) ?_
      exact k2 (fun t => t.2 (by omega)) _ _ rfl (eqc_tr (eqc_at _ _ _ _) (eqc_fu _ _ _ _ (by decide))) (fu_eq _ _ _ _)
  · refine fx_si 4 15 (by decide +kernel) (Or.inr (fI_n4 _)) rfl ?_
    dsimp only [List.set]
    refine fx_li 4 17 (by decide +kernel) rfl ?_
    refine fx_li 1 18 (by decide +kernel) rfl ?_
    refine fx_ine 28 21 (by decide +kernel) (by unfold fR; omega) (by unfold fR; omega) (fun h18 => ?_) (fun h18 => ?_)
    · refine fx_li 4 30 (by decide +kernel) rfl ?_
      refine fx_ret (by decide +kernel) ?_
      exact k2 (fun t => p t.1) _ v hv (eqc_fu _ _ _ _ (by decide)) (fu_eq _ _ _ _)
    · exfalso; omega
theorem sp_settle {p pl v : Int} (hp0 : 0 ≤ p) (hp1 : p ≤ 7) (h1 : fR pl) (h2 : fR v) (kq : Q 0 0 (fu (fu (fu (fu g 23 p.toNat pl) 24 p.toNat v) 25 p.toNat (-1)) 26 p.toNat 0)) : fx W r 0 96 0 [178, fI p, fI pl, fI v] [] g Q := by
  unfold fR at h1 h2
  refine fx_la 0 1 (v := 178) (by decide +kernel) rfl (by decide +kernel) ?_
  refine fx_gp 178 22 0 186 4 (by decide +kernel) ?_
  refine fx_li 1 5 (by decide +kernel) rfl ?_
  refine fx_li 2 6 (by decide +kernel) rfl ?_
  refine fx_as 186 23 8 7 (by decide +kernel) rfl (by omega) (by omega) rfl (by unfold fR; omega) ?_
  refine fx_la 0 8 (v := 178) (by decide +kernel) rfl (by decide +kernel) ?_
  refine fx_gp 178 22 1 194 11 (by decide +kernel) ?_
  refine fx_li 1 12 (by decide +kernel) rfl ?_
  refine fx_li 3 13 (by decide +kernel) rfl ?_
  refine fx_as 194 24 8 14 (by decide +kernel) rfl (by omega) (by omega) rfl (by unfold fR; omega) ?_
  refine fx_la 0 15 (v := 178) (by decide +kernel) rfl (by decide +kernel) ?_
  refine fx_gp 178 22 2 202 18 (by decide +kernel) ?_
  refine fx_li 1 19 (by decide +kernel) rfl ?_
  refine fx_ci (-1) 20 (by decide +kernel) ?_
  refine fx_as 202 25 8 21 (by decide +kernel) rfl (by omega) (by omega) rfl (by unfold fR; omega) ?_
  refine fx_la 0 22 (v := 178) (by decide +kernel) rfl (by decide +kernel) ?_
  refine fx_gp 178 22 3 210 25 (by decide +kernel) ?_
  refine fx_li 1 26 (by decide +kernel) rfl ?_
  refine fx_ci (0) 27 (by decide +kernel) ?_
  refine fx_as 210 26 8 28 (by decide +kernel) rfl (by omega) (by omega) rfl (by unfold fR; omega) ?_
  refine fx_vret (by decide +kernel) ?_
  exact kq
theorem sp_rp_F {w pl v l : Int} (hw : g 28 1 ≠ -1) (kq : Q 1 (fI 0) g) : fx W r 7 91 59 [226, fI w, fI pl, fI v, fI l, 7] [] g Q := by
  refine fx_rg (fun hg => ?_)
  refine fx_la 0 60 (v := 226) (by decide +kernel) rfl (by decide +kernel) ?_
  refine fx_gp 226 28 5 234 63 (by decide +kernel) ?_
  refine fx_gi 234 29 4 66 (by decide +kernel) ?_
  refine fx_si 5 68 (by decide +kernel) (Or.inr (fI_n4 _)) rfl ?_
  dsimp only [List.set]
  refine fx_la 0 69 (v := 226) (by decide +kernel) rfl (by decide +kernel) ?_
  refine fx_gi 226 28 1 72 (by decide +kernel) ?_
  refine fx_ci (-1) 73 (by decide +kernel) ?_
  refine fx_ine 83 76 (by decide +kernel) (by first | exact hg 28 1 (by decide) (by decide +kernel) (by decide +kernel) | (unfold fR; omega)) (by unfold fR; omega) (fun h73 => ?_) (fun h73 => ?_)
  · refine fx_ci (0) 84 (by decide +kernel) ?_
    refine fx_retb (by decide +kernel) (by first | exact Or.inl rfl | exact Or.inr rfl | omega) ?_
    exact kq
  · exact absurd h73 hw
theorem sp_rp_D {w pl v l : Int} (hw : g 28 1 = -1) (hp0 : 0 ≤ g 29 4) (hp1 : g 29 4 ≤ 7) (r1 : fR w) (r2 : fR pl) (r3 : fR v) (r4 : fR l) (kq : Q 1 (fI 1) (apCP g w pl v l)) : fx W r 7 91 59 [226, fI w, fI pl, fI v, fI l, 7] [] g Q := by
  refine fx_rg (fun hg => ?_)
  unfold fR at r1 r4
  refine fx_la 0 60 (v := 226) (by decide +kernel) rfl (by decide +kernel) ?_
  refine fx_gp 226 28 5 234 63 (by decide +kernel) ?_
  refine fx_gi 234 29 4 66 (by decide +kernel) ?_
  refine fx_si 5 68 (by decide +kernel) (Or.inr (fI_n4 _)) rfl ?_
  dsimp only [List.set]
  refine fx_la 0 69 (v := 226) (by decide +kernel) rfl (by decide +kernel) ?_
  refine fx_gi 226 28 1 72 (by decide +kernel) ?_
  refine fx_ci (-1) 73 (by decide +kernel) ?_
  refine fx_ine 83 76 (by decide +kernel) (by first | exact hg 28 1 (by decide) (by decide +kernel) (by decide +kernel) | (unfold fR; omega)) (by unfold fR; omega) (fun h73 => ?_) (fun h73 => ?_)
  · refine fx_ci (0) 84 (by decide +kernel) ?_
    refine fx_retb (by decide +kernel) (by first | exact Or.inl rfl | exact Or.inr rfl | omega) ?_
    first | exact absurd hw h73 | (exfalso; omega)
  · refine fx_li 5 78 (by decide +kernel) rfl ?_
    refine fx_ci (8) 80 (by decide +kernel) ?_
    refine fx_ilt 85 83 (by decide +kernel) (by first | exact hg 29 4 (by decide) (by decide +kernel) (by decide +kernel) | (unfold fR; omega)) (by unfold fR; omega) (fun h80 => ?_) (fun h80 => ?_)
    · refine fx_la 0 86 (v := 226) (by decide +kernel) rfl (by decide +kernel) ?_
      refine fx_gp 226 28 5 234 89 (by decide +kernel) ?_
      refine fx_gp 234 29 0 242 92 (by decide +kernel) ?_
      refine fx_li 5 94 (by decide +kernel) rfl ?_
      refine fx_li 1 95 (by decide +kernel) rfl ?_
      refine fx_as 242 30 8 96 (by decide +kernel) rfl (by omega) (by omega) rfl (by unfold fR; omega) ?_
      refine fx_la 0 97 (v := 226) (by decide +kernel) rfl (by decide +kernel) ?_
      refine fx_gp 226 28 5 234 100 (by decide +kernel) ?_
      refine fx_gp 234 29 1 250 103 (by decide +kernel) ?_
      refine fx_li 5 105 (by decide +kernel) rfl ?_
      refine fx_li 4 107 (by decide +kernel) rfl ?_
      refine fx_as 250 31 8 108 (by decide +kernel) rfl (by omega) (by omega) rfl (by unfold fR; omega) ?_
      refine fx_la 0 109 (v := 226) (by decide +kernel) rfl (by decide +kernel) ?_
      refine fx_gp 226 28 5 234 112 (by decide +kernel) ?_
      refine fx_dup 113 (by decide +kernel) rfl (by decide) ?_
      refine fx_gi 234 29 4 116 (by decide +kernel) ?_
      try simp only [fu_app, fcy_app, Nat.reduceEqDiff, and_true, and_false, false_and, true_and, if_true, if_false, ite_true, ite_false, reduceIte, Int.reduceToNat, fx_simp0]
      refine fx_ci (1) 117 (by decide +kernel) ?_
      refine fx_add 118 (by decide +kernel) rfl ?_
      refine fx_pi 234 29 4 121 (by decide +kernel) (by unfold fR; omega) ?_
      refine fx_la 0 122 (v := 226) (by decide +kernel) rfl (by decide +kernel) ?_
      refine fx_gp 226 28 6 178 125 (by decide +kernel) ?_
      refine fx_li 5 127 (by decide +kernel) rfl ?_
      refine fx_li 2 128 (by decide +kernel) rfl ?_
      refine fx_li 3 129 (by decide +kernel) rfl ?_
      refine fx_c4 96 21 132 0 [] (by decide +kernel) (by decide) (by decide) (fI_n4 _) (fI_n4 _) (fI_n4 _) rfl (by first | decide | omega) ?_
      refine sp_settle hp0 hp1 r2 r3 (fK0 ?_)
      refine fx_ci (1) 133 (by decide +kernel) ?_
      refine fx_retb (by decide +kernel) (by first | exact Or.inl rfl | exact Or.inr rfl | omega) ?_
      exact kq
    · refine fx_ci (0) 84 (by decide +kernel) ?_
      refine fx_retb (by decide +kernel) (by first | exact Or.inl rfl | exact Or.inr rfl | omega) ?_
      first | exact absurd hw h73 | (exfalso; omega)
theorem sp_readPerson (h : cSt T E g f) (hw : g 28 1 = -1) (hp0 : 0 ≤ g 29 4) (hp1 : g 29 4 ≤ 7)
    (kq : ∀ f' w pl v l, pPerson T E f = Sum.inr (f', [0, w, pl, v, l]) → Q 1 (fI 1) (apCP (cAt T E g f') w pl v l))
    (kf : ∀ q, pPerson T E f = Sum.inl q → ∀ g', eqc g g' → g' 28 1 = q → Q 1 (fI 0) g') : fx W r 7 91 0 [226, 7, 7, 7, 7, 7] [] g Q := by
  have f0 := h.2.2.2.1
  have f1 := h.2.2.2.2.1
  have a3 := h.1.2.2.1
  have hA : ∀ f', pOk T E f' → cSt T E (cAt T E g f') f' := fun f' t => cSt_at h.1 t
  have hW : ∀ f', cAt T E g f' 28 1 = -1 := fun f' => by unfold cAt; rw [fu_nj (by decide), fu_nj (by decide)]; exact hw
  have hP : ∀ f', cAt T E g f' 29 4 = g 29 4 := fun f' => by unfold cAt; rw [fu_nc (by decide), fu_nc (by decide)]
  have h0w := pOk_we h.2.2.2
  have h0d := pOk_dg h0w
  have b0 := h0w.1
  have b1 := h0w.2.1
  refine fx_la 0 1 (v := 226) (by decide +kernel) rfl (by decide +kernel) ?_
  refine fx_lds 29 3 (by decide +kernel) ?_
  refine fx_c2 78 21 6 5 [] (by decide +kernel) (by decide) (by decide) (by decide) rfl (by first | decide | omega) ?_
  refine sp_takesWord [119, 101, 105, 103, 104, 116] (by decide +kernel) (by decide +kernel) h (fun p1 => fK1 ?_) (fun p1 => fK1 ?_)
  · refine fx_zne 18 9 (by decide +kernel) (by unfold fR; omega) (fun _ => ?_) (fun hc => absurd hc (by decide))
    refine fx_la 0 19 (v := 226) (by decide +kernel) rfl (by decide +kernel) ?_
    refine fx_ci (1) 20 (by decide +kernel) ?_
    refine fx_ci (99) 22 (by decide +kernel) ?_
    refine fx_c3 93 21 25 1 [7, 7, 7] (by decide +kernel) (by decide) (by decide) (fI_n4 _) (fI_n4 _) rfl (by first | decide | omega) ?_
    refine sp_takeNumber (hA _ h0w) (by unfold fR; omega) (by unfold fR; omega) (fun p2 => fK1 ?_) (fun p2 x1 hx1 => fK1 ?_)
    · rw [cAt_at]
      have nw : _ ≤ pNu T E (pSk T E (pWe T E f)) ∧ pNu T E (pSk T E (pWe T E f)) ≤ _ := p2.2.2
      have e0 : pPerson T E f = bS (pOpt T E [97, 116] 0 7 (-1) (pSk T E (pDg T E (pSk T E (pWe T E f))))) (fun a => bS (pOpt T E [118, 111, 116, 101] 0 20 1 a.1) (fun b => bS (pOpt T E [108, 101, 103, 115] 3 4 4 b.1) (fun c => Sum.inr (c.1, [0, pNu T E (pSk T E (pWe T E f)), a.2, b.2, c.2])))) := by
        unfold pPerson
        rw [cif_t p1, cif_t p2]
      refine fx_si 1 26 (by decide +kernel) (Or.inr (f_n4p (v := 226) rfl (by decide))) rfl ?_
      dsimp only [List.set]
      refine fx_la 0 27 (v := 226) (by decide +kernel) rfl (by decide +kernel) ?_
      refine fx_lds 37 29 (by decide +kernel) ?_
      refine fx_ci (0) 30 (by decide +kernel) ?_
      refine fx_ci (7) 32 (by decide +kernel) ?_
      refine fx_cn (-1) 33 (by decide +kernel) (fun v32 c32 => ?_)
      refine fx_c5 95 21 36 6 [] (by decide +kernel) (by decide) (by decide) (by decide) (fI_n4 _) (fI_n4 _) (fI_n4 _) rfl (by first | decide | omega) ?_
      refine sp_takeTold [97, 116] (by decide +kernel) (by decide +kernel) (hA _ h0d) (hW _) (by unfold fR; omega) (by unfold fR; omega) (by unfold fR; omega) (fun f1' pl o1 => fK1 ?_) (fun q o1 x1 hx1 => fK1 ?_)
      · rw [c32] at o1
        rw [cAt_at]
        obtain ⟨k1, r1⟩ := pOpt_ok o1 h0d
        refine fx_si 2 37 (by decide +kernel) (Or.inr (fI_n4 _)) rfl ?_
        dsimp only [List.set]
        refine fx_la 0 38 (v := 226) (by decide +kernel) rfl (by decide +kernel) ?_
        refine fx_lds 45 40 (by decide +kernel) ?_
        refine fx_ci (0) 41 (by decide +kernel) ?_
        refine fx_ci (20) 43 (by decide +kernel) ?_
        refine fx_ci (1) 44 (by decide +kernel) ?_
        refine fx_c5 95 21 47 6 [] (by decide +kernel) (by decide) (by decide) (by decide) (fI_n4 _) (fI_n4 _) (fI_n4 _) rfl (by first | decide | omega) ?_
        refine sp_takeTold [118, 111, 116, 101] (by decide +kernel) (by decide +kernel) (hA _ k1) (hW _) (by unfold fR; omega) (by unfold fR; omega) (by unfold fR; omega) (fun f2' v o2 => fK1 ?_) (fun q o2 x1 hx1 => fK1 ?_)
        · rw [cAt_at]
          obtain ⟨k2, r2⟩ := pOpt_ok o2 k1
          refine fx_si 3 48 (by decide +kernel) (Or.inr (fI_n4 _)) rfl ?_
          dsimp only [List.set]
          refine fx_la 0 49 (v := 226) (by decide +kernel) rfl (by decide +kernel) ?_
          refine fx_lds 53 51 (by decide +kernel) ?_
          refine fx_ci (3) 52 (by decide +kernel) ?_
          refine fx_ci (4) 53 (by decide +kernel) ?_
          refine fx_ci (4) 54 (by decide +kernel) ?_
          refine fx_c5 95 21 57 6 [] (by decide +kernel) (by decide) (by decide) (by decide) (fI_n4 _) (fI_n4 _) (fI_n4 _) rfl (by first | decide | omega) ?_
          refine sp_takeTold [108, 101, 103, 115] (by decide +kernel) (by decide +kernel) (hA _ k2) (hW _) (by unfold fR; omega) (by unfold fR; omega) (by unfold fR; omega) (fun f3' l o3 => fK1 ?_) (fun q o3 x1 hx1 => fK1 ?_)
          · rw [cAt_at]
            obtain ⟨k3, r3⟩ := pOpt_ok o3 k2
            refine fx_si 4 59 (by decide +kernel) (Or.inr (fI_n4 _)) rfl ?_
            dsimp only [List.set]
            refine sp_rp_D (hW _) (by rw [hP]; exact hp0) (by rw [hP]; exact hp1) (by unfold fR; omega) (by unfold fR; omega) (by unfold fR; omega) (by unfold fR; omega) ?_
            exact kq f3' _ pl v l (by rw [e0, o1]; show bS (pOpt T E _ 0 20 1 f1') _ = _; rw [o2]; show bS (pOpt T E _ 3 4 4 f2') _ = _; rw [o3]; rfl)
          · rw [cAt_at]
            have qb := pOpt_bad o3 k2
            refine fx_si 4 59 (by decide +kernel) (Or.inr (fI_n4 _)) rfl ?_
            dsimp only [List.set]
            exact sp_rp_F (by rw [fu_eq]; omega) (kf q (by rw [e0, o1]; show bS (pOpt T E _ 0 20 1 f1') _ = _; rw [o2]; show bS (pOpt T E _ 3 4 4 f2') _ = _; rw [o3]; rfl) _ (eqc_tr (eqc_at _ _ _ _) (eqc_fu _ _ _ _ (by decide))) (fu_eq _ _ _ _))
        · rw [cAt_at]
          have qb := pOpt_bad o2 k1
          refine fx_si 3 48 (by decide +kernel) (Or.inr (fI_n4 _)) rfl ?_
          dsimp only [List.set]
          refine fx_la 0 49 (v := 226) (by decide +kernel) rfl (by decide +kernel) ?_
          refine fx_lds 53 51 (by decide +kernel) ?_
          refine fx_ci (3) 52 (by decide +kernel) ?_
          refine fx_ci (4) 53 (by decide +kernel) ?_
          refine fx_ci (4) 54 (by decide +kernel) ?_
          refine fx_c5 95 21 57 6 [] (by decide +kernel) (by decide) (by decide) (by decide) (fI_n4 _) (fI_n4 _) (fI_n4 _) rfl (by first | decide | omega) ?_
          refine sp_takeTold_f (f_sw (ws := [108, 101, 103, 115]) (by decide +kernel)).1 (by rw [fu_eq]; omega) (fK1 ?_)
          refine fx_si 4 59 (by decide +kernel) (Or.inr (fI_n4 _)) rfl ?_
          dsimp only [List.set]
          exact sp_rp_F (by rw [fu_eq]; omega) (kf q (by rw [e0, o1]; show bS (pOpt T E _ 0 20 1 f1') _ = _; rw [o2]; rfl) _ (eqc_tr (eqc_at _ _ _ _) (eqc_fu _ _ _ _ (by decide))) (fu_eq _ _ _ _))
      · rw [c32] at o1
        rw [cAt_at]
        have qb := pOpt_bad o1 h0d
        refine fx_si 2 37 (by decide +kernel) (Or.inr (fI_n4 _)) rfl ?_
        dsimp only [List.set]
        refine fx_la 0 38 (v := 226) (by decide +kernel) rfl (by decide +kernel) ?_
        refine fx_lds 45 40 (by decide +kernel) ?_
        refine fx_ci (0) 41 (by decide +kernel) ?_
        refine fx_ci (20) 43 (by decide +kernel) ?_
        refine fx_ci (1) 44 (by decide +kernel) ?_
        refine fx_c5 95 21 47 6 [] (by decide +kernel) (by decide) (by decide) (by decide) (fI_n4 _) (fI_n4 _) (fI_n4 _) rfl (by first | decide | omega) ?_
        refine sp_takeTold_f (f_sw (ws := [118, 111, 116, 101]) (by decide +kernel)).1 (by rw [fu_eq]; omega) (fK1 ?_)
        refine fx_si 3 48 (by decide +kernel) (Or.inr (fI_n4 _)) rfl ?_
        dsimp only [List.set]
        refine fx_la 0 49 (v := 226) (by decide +kernel) rfl (by decide +kernel) ?_
        refine fx_lds 53 51 (by decide +kernel) ?_
        refine fx_ci (3) 52 (by decide +kernel) ?_
        refine fx_ci (4) 53 (by decide +kernel) ?_
        refine fx_ci (4) 54 (by decide +kernel) ?_
        refine fx_c5 95 21 57 6 [] (by decide +kernel) (by decide) (by decide) (by decide) (fI_n4 _) (fI_n4 _) (fI_n4 _) rfl (by first | decide | omega) ?_
        refine sp_takeTold_f (f_sw (ws := [108, 101, 103, 115]) (by decide +kernel)).1 (by rw [fu_eq]; omega) (fK1 ?_)
        refine fx_si 4 59 (by decide +kernel) (Or.inr (fI_n4 _)) rfl ?_
        dsimp only [List.set]
        exact sp_rp_F (by rw [fu_eq]; omega) (kf q (by rw [e0, o1]; rfl) _ (eqc_tr (eqc_at _ _ _ _) (eqc_fu _ _ _ _ (by decide))) (fu_eq _ _ _ _))
    · refine fx_si 1 26 (by decide +kernel) (Or.inr (f_n4p (v := 226) rfl (by decide))) rfl ?_
      dsimp only [List.set]
      refine fx_la 0 27 (v := 226) (by decide +kernel) rfl (by decide +kernel) ?_
      refine fx_lds 37 29 (by decide +kernel) ?_
      refine fx_ci (0) 30 (by decide +kernel) ?_
      refine fx_ci (7) 32 (by decide +kernel) ?_
      refine fx_cn (-1) 33 (by decide +kernel) (fun v32 c32 => ?_)
      refine fx_c5 95 21 36 6 [] (by decide +kernel) (by decide) (by decide) (by decide) (fI_n4 _) (fI_n4 _) (fI_n4 _) rfl (by first | decide | omega) ?_
      refine sp_takeTold_f (f_sw (ws := [97, 116]) (by decide +kernel)).1 (by rw [fu_eq]; omega) (fK1 ?_)
      refine fx_si 2 37 (by decide +kernel) (Or.inr (fI_n4 _)) rfl ?_
      dsimp only [List.set]
      refine fx_la 0 38 (v := 226) (by decide +kernel) rfl (by decide +kernel) ?_
      refine fx_lds 45 40 (by decide +kernel) ?_
      refine fx_ci (0) 41 (by decide +kernel) ?_
      refine fx_ci (20) 43 (by decide +kernel) ?_
      refine fx_ci (1) 44 (by decide +kernel) ?_
      refine fx_c5 95 21 47 6 [] (by decide +kernel) (by decide) (by decide) (by decide) (fI_n4 _) (fI_n4 _) (fI_n4 _) rfl (by first | decide | omega) ?_
      refine sp_takeTold_f (f_sw (ws := [118, 111, 116, 101]) (by decide +kernel)).1 (by rw [fu_eq]; omega) (fK1 ?_)
      refine fx_si 3 48 (by decide +kernel) (Or.inr (fI_n4 _)) rfl ?_
      dsimp only [List.set]
      refine fx_la 0 49 (v := 226) (by decide +kernel) rfl (by decide +kernel) ?_
      refine fx_lds 53 51 (by decide +kernel) ?_
      refine fx_ci (3) 52 (by decide +kernel) ?_
      refine fx_ci (4) 53 (by decide +kernel) ?_
      refine fx_ci (4) 54 (by decide +kernel) ?_
      refine fx_c5 95 21 57 6 [] (by decide +kernel) (by decide) (by decide) (by decide) (fI_n4 _) (fI_n4 _) (fI_n4 _) rfl (by first | decide | omega) ?_
      refine sp_takeTold_f (f_sw (ws := [108, 101, 103, 115]) (by decide +kernel)).1 (by rw [fu_eq]; omega) (fK1 ?_)
      refine fx_si 4 59 (by decide +kernel) (Or.inr (fI_n4 _)) rfl ?_
      dsimp only [List.set]
      exact sp_rp_F (by rw [fu_eq]; omega) (kf _ (by unfold pPerson; rw [cif_t p1, cif_f p2]) _ (eqc_tr (eqc_at _ _ _ _) (eqc_fu _ _ _ _ (by decide))) (fu_eq _ _ _ _))
  · refine fx_zne 18 9 (by decide +kernel) (by unfold fR; omega) (fun hc => absurd hc (by decide)) (fun _ => ?_)
    refine fx_la 0 10 (v := 226) (by decide +kernel) rfl (by decide +kernel) ?_
    refine fx_la 0 11 (v := 226) (by decide +kernel) rfl (by decide +kernel) ?_
    refine fx_gi 226 28 2 14 (by decide +kernel) ?_
    try simp only [fu_app, fcy_app, Nat.reduceEqDiff, and_true, and_false, false_and, true_and, if_true, if_false, ite_true, ite_false, reduceIte, Int.reduceToNat, fx_simp0]
    rw [h.2.1]
    refine fx_c2 92 21 17 0 [] (by decide +kernel) (by decide) (by decide) (fI_n4 _) rfl (by first | decide | omega) ?_
    refine sp_wrongAt (by unfold fR; omega) (fK1 ?_)
    refine fx_retb (by decide +kernel) (by first | exact Or.inl rfl | exact Or.inr rfl | omega) ?_
    exact kf f (by unfold pPerson; rw [cif_f p1]) _ (eqc_fu _ _ _ _ (by decide)) (fu_eq _ _ _ _)
end FXT
