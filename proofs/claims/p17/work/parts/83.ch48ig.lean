/-! fx: what is eaten, what may be taken off: both sides alike -/
/-- what a person of the row t eats of a dish at a place -/
noncomputable def eV (t : Nat → Int) (segs : List (List Int × Int × Int)) (p : Nat) (pl d : Int) : Int := if 0 ≤ t (68 + (d * 8 + pl).toNat) + lwM (mFv t p pl d) segs 0 then t (68 + (d * 8 + pl).toNat) + lwM (mFv t p pl d) segs 0 else 0
noncomputable def mMay (t : Nat → Int) (segs : List (List Int × Int × Int)) (p : Nat) : Prop := if lwH segs = true then lwO (mFv t p (t (12 + 7 * p)) 0) segs = true else t 7 ≤ t (18 + 7 * p)
def awT (t : Nat → Int) (p : Nat) : Prop := t (12 + 7 * p) ≠ -1 ∧ t (17 + 7 * p) ≠ 1
theorem cF_m_table {g : Nat → Nat → Int} {t : Nat → Int} {p : Nat} {pl d : Int} (hH : RHf 3 g t) (hT : RTf 16 g t) (hp : p < 8) : cFv_table g p pl d = mFv t p pl d := by
  obtain ⟨-, -, -, -, -, -, a7, a8, -, -⟩ := hH
  obtain ⟨-, b2, b3, b4, -, -, b7, -⟩ := hT
  funext k
  unfold cFv_table mFv
  rw [show g 20 p = t (18 + 7 * p) from b4 p hp, show g 18 p = t (13 + 7 * p) from b2 p hp, show g 4 p = t (14 + 7 * p) from a7 p hp, show g 16 9 = t 9 from b7, show g 19 p = t (16 + 7 * p) from b3 p hp, show g 5 p = t (15 + 7 * p) from a8 p hp]
theorem cF_m_scratch {g : Nat → Nat → Int} {t : Nat → Int} {p : Nat} {pl d : Int} (hH : RHf 3 g t) (hT : RTf 22 g t) (hp : p < 8) : cFv_scratch g p pl d = mFv t p pl d := by
  obtain ⟨-, -, -, -, -, -, a7, a8, -, -⟩ := hH
  obtain ⟨-, b2, b3, b4, -, -, b7, -⟩ := hT
  funext k
  unfold cFv_scratch mFv
  rw [show g 26 p = t (18 + 7 * p) from b4 p hp, show g 24 p = t (13 + 7 * p) from b2 p hp, show g 4 p = t (14 + 7 * p) from a7 p hp, show g 22 9 = t 9 from b7, show g 25 p = t (16 + 7 * p) from b3 p hp, show g 5 p = t (15 + 7 * p) from a8 p hp]
theorem cMay_m_table {g : Nat → Nat → Int} {t : Nat → Int} {p : Nat} {segs : List (List Int × Int × Int)} (hH : RHf 3 g t) (hT : RTf 16 g t) (hp : p < 8) : cMay_table g segs p = mMay t segs p := by
  unfold cMay_table mMay
  rw [cF_m_table hH hT hp, show g 17 p = t (12 + 7 * p) from hT.1 p hp, show g 3 9 = t 7 from hH.2.2.2.2.2.1, show g 20 p = t (18 + 7 * p) from hT.2.2.2.1 p hp]
theorem cMay_m_scratch {g : Nat → Nat → Int} {t : Nat → Int} {p : Nat} {segs : List (List Int × Int × Int)} (hH : RHf 3 g t) (hT : RTf 22 g t) (hp : p < 8) : cMay_scratch g segs p = mMay t segs p := by
  unfold cMay_scratch mMay
  rw [cF_m_scratch hH hT hp, show g 23 p = t (12 + 7 * p) from hT.1 p hp, show g 3 9 = t 7 from hH.2.2.2.2.2.1, show g 26 p = t (18 + 7 * p) from hT.2.2.2.1 p hp]
/-- what asking writes, the row apart -/
def rN (g g' : Nat → Nat → Int) : Prop := ∀ c j, c ≠ 149 → c ≠ 154 → ¬ (c = 148 ∧ (j = 9 ∨ j = 10 ∨ j = 11 ∨ j = 13 ∨ (15 ≤ j ∧ j ≤ 19))) → g' c j = g c j
theorem rN.rf {g : Nat → Nat → Int} : rN g g := fun _ _ _ _ _ => rfl
theorem rN.tr {g g1 g2 : Nat → Nat → Int} (h : rN g g1) (h2 : rN g1 g2) : rN g g2 := fun c j a b d => by rw [h2 c j a b d, h c j a b d]
theorem rA.row {G g' : Nat → Nat → Int} {t : Nat → Int} (h : rA (frow G t) g') : g' = frow g' t ∧ rN G g' := by
  have e : g' 149 = t := by
    funext j
    rw [h _ _ (by decide) (fun u => absurd u.1 (by decide)), frow_m]
  refine ⟨?_, fun c j a b d => by rw [h c j b d, frow_ne a]⟩
  have := frow_self g'
  rw [e] at this
  exact this.symm
section FIG
variable {W : ax_W} {r : Nat} {g : Nat → Nat → Int} {Q : Nat → Nat → (Nat → Nat → Int) → Prop} {segs : List (List Int × Int × Int)}
theorem sp_meatsBy {p : Nat} {pl d : Int} (h : LwR (g 149) segs) (hp : p < 8) (hpl : 0 ≤ pl ∧ pl ≤ 7) (hd : 0 ≤ d ∧ d < 6) (he : 0 ≤ g 149 (68 + (d * 8 + pl).toNat) ∧ g 149 (68 + (d * 8 + pl).toNat) ≤ 9)
    (kq : ∀ g', rA g g' → Q 1 (fI (eV (g 149) segs p pl d)) g') : fx W r 36 316 0 [1186, fI (p : Int), fI pl, fI d] [] g Q := by
  have hok := h.ok (mFv_78 (g 149) p pl d)
  have hmb := lwM_b (F := mFv (g 149) p pl d) segs 0 (fun s hs => (hok s hs).2.2)
  have h12 := h.2.2.2
  unfold eV at kq
  refine fx_la 0 1 (v := 1186) (by decide +kernel) rfl (by decide +kernel) ?_
  refine fx_li 1 2 (by decide +kernel) rfl ?_
  refine fx_li 2 3 (by decide +kernel) rfl ?_
  refine fx_li 3 4 (by decide +kernel) rfl ?_
  refine fx_c4 303 21 7 35 [7, 7] (by decide +kernel) (by decide) (by decide) (fI_n4 _) (fI_n4 _) (fI_n4 _) rfl (by first | decide | omega) ?_
  refine sp_masks h hp (by unfold fR; omega) (by unfold fR; omega) (fun g1 x1 m1 m2 m3 => fK0 ?_)
  have kq := kq g1 x1
  refine fx_ci (0) 8 (by decide +kernel) ?_
  refine fx_la 0 9 (v := 1186) (by decide +kernel) rfl (by decide +kernel) ?_
  refine fx_li 3 10 (by decide +kernel) rfl ?_
  refine fx_li 2 11 (by decide +kernel) rfl ?_
  refine fx_c3 314 21 14 0 [] (by decide +kernel) (by decide) (by decide) (fI_n4 _) (fI_n4 _) rfl (by first | decide | omega) ?_
  refine sp_meatenOf hd hpl (fK1 ?_)
  rw [x1 _ _ (by decide) (fun t => absurd t.1 (by decide)), show (68 + 8 * d + pl).toNat = 68 + (d * 8 + pl).toNat by omega]
  refine fx_la 0 15 (v := 1186) (by decide +kernel) rfl (by decide +kernel) ?_
  refine fx_gi 1186 148 17 18 (by decide +kernel) ?_
  try simp only [fu_app, fcy_app, Nat.reduceEqDiff, and_true, and_false, false_and, true_and, if_true, if_false, ite_true, ite_false, reduceIte, Int.reduceToNat, fx_simp0]
  rw [m1]
  refine fx_add 19 (by decide +kernel) rfl ?_
  refine fx_c2 317 22 22 0 [] (f_q22 (by decide +kernel)) (by decide) (fI_n4 _) (fI_n4 _) rfl (by first | decide | omega) ?_
  generalize g 149 (68 + (d * 8 + pl).toNat) = e at *
  generalize lwM (mFv (g 149) p pl d) segs 0 = M at *
  refine sp_mgreater (by unfold fR; omega) (by unfold fR; omega) (fK1 ?_)
  refine fx_ret (by decide +kernel) ?_
  by_cases c : 0 ≤ e + M
  · rw [if_pos c] at kq
    rw [if_neg (by omega)]
    exact kq
  · rw [if_neg c] at kq
    rw [if_pos (by omega)]
    exact kq
theorem sp_mmayBeOff {p : Nat} (h : LwR (g 149) segs) (hp : p < 8) (k1 : awT (g 149) p → mMay (g 149) segs p → ∀ g', rA g g' → Q 1 (fI 1) g') (k2 : ¬ (awT (g 149) p ∧ mMay (g 149) segs p) → ∀ g', rA g g' → Q 1 (fI 0) g') : fx W r 36 300 0 [1186, fI (p : Int)] [] g Q := by
  refine fx_rg (fun hg => ?_)
  have rm : ∀ j : Nat, j < 764 → fR (g 149 j) := fun j hj => hgA hg 764 (c := 149) (j := j) (by decide +kernel) hj
  have rp := rm (12 + 7 * p) (by omega)
  have r7 := rm 7 (by decide)
  have rc := rm (18 + 7 * p) (by omega)
  unfold fR at r7 rc
  unfold mMay awT at k1 k2
  refine fx_la 0 1 (v := 1186) (by decide +kernel) rfl (by decide +kernel) ?_
  refine fx_li 1 2 (by decide +kernel) rfl ?_
  refine fx_c2 301 21 5 2 [] (by decide +kernel) (by decide) (by decide) (fI_n4 _) rfl (by first | decide | omega) ?_
  refine sp_misAway hp (fun t => fK1 ?_) (fun t => fK1 ?_)
  · refine fx_zne 10 8 (by decide +kernel) (by unfold fR; omega) (fun _ => ?_) (fun hc => absurd hc (by decide))
    refine fx_la 0 11 (v := 1186) (by decide +kernel) rfl (by decide +kernel) ?_
    refine fx_li 1 12 (by decide +kernel) rfl ?_
    refine fx_la 0 13 (v := 1186) (by decide +kernel) rfl (by decide +kernel) ?_
    refine fx_li 1 14 (by decide +kernel) rfl ?_
    refine fx_ci (0) 15 (by decide +kernel) ?_
    refine fx_c3 299 21 18 0 [] (by decide +kernel) (by decide) (by decide) (fI_n4 _) (fI_n4 _) rfl (by first | decide | omega) ?_
    refine sp_mof (w := 0) hp (by decide) (fK1 ?_)
    refine fx_ci (0) 19 (by decide +kernel) ?_
    refine fx_c4 303 21 22 35 [7, 7] (by decide +kernel) (by decide) (by decide) (fI_n4 _) (fI_n4 _) (fI_n4 _) rfl (by first | decide | omega) ?_
    refine sp_masks h hp (show fR (g 149 (12 + 7 * p)) from rp) (by unfold fR; omega) (fun g1 x1 m1 m2 m3 => fK0 ?_)
    have xm : ∀ j, g1 149 j = g 149 j := fun j => x1 _ _ (by decide) (fun t => absurd t.1 (by decide))
    have hz : (if lwH segs = true then (1 : Int) else 0) = 0 ∨ (if lwH segs = true then (1 : Int) else 0) = 1 := if_01
    refine fx_la 0 23 (v := 1186) (by decide +kernel) rfl (by decide +kernel) ?_
    refine fx_gi 1186 148 18 26 (by decide +kernel) ?_
    try simp only [fu_app, fcy_app, Nat.reduceEqDiff, and_true, and_false, false_and, true_and, if_true, if_false, ite_true, ite_false, reduceIte, Int.reduceToNat, fx_simp0]
    rw [m2]
    generalize ez : (if lwH segs = true then (1 : Int) else 0) = z at *
    refine fx_zeq 36 29 (by decide +kernel) (by unfold fR; omega) (fun h26 => ?_) (fun h26 => ?_)
    · have e0 : ¬ lwH segs = true := fun u => by rw [if_pos u] at ez; omega
      rw [if_neg e0] at k1 k2
      refine fx_la 0 37 (v := 1186) (by decide +kernel) rfl (by decide +kernel) ?_
      refine fx_li 1 38 (by decide +kernel) rfl ?_
      refine fx_ci (6) 40 (by decide +kernel) ?_
      refine fx_c3 299 21 43 0 [] (by decide +kernel) (by decide) (by decide) (fI_n4 _) (fI_n4 _) rfl (by first | decide | omega) ?_
      refine sp_mof (w := 6) hp (by decide) (fK1 ?_)
      rw [xm, show 12 + 7 * p + 6 = 18 + 7 * p by omega]
      refine fx_la 0 44 (v := 1186) (by decide +kernel) rfl (by decide +kernel) ?_
      refine fx_gp 1186 148 1 1194 47 (by decide +kernel) ?_
      refine fx_ci (7) 49 (by decide +kernel) ?_
      refine fx_al 1194 149 764 50 (by decide +kernel) rfl (by omega) (by omega) rfl ?_
      try simp only [fu_app, fcy_app, Nat.reduceEqDiff, and_true, and_false, false_and, true_and, if_true, if_false, ite_true, ite_false, reduceIte, Int.reduceToNat, fx_simp0]
      rw [xm]
      refine fx_ilt 57 53 (by decide +kernel) (by unfold fR; omega) (by unfold fR; omega) (fun h50 => ?_) (fun h50 => ?_)
      · refine fx_ci (0) 58 (by decide +kernel) ?_
        refine fx_retb (by decide +kernel) (by first | exact Or.inl rfl | exact Or.inr rfl | omega) ?_
        exact k2 (fun u => by have := u.2; omega) _ x1
      · refine fx_ci (1) 54 (by decide +kernel) ?_
        refine fx_go 58 (by decide +kernel) ?_
        refine fx_retb (by decide +kernel) (by first | exact Or.inl rfl | exact Or.inr rfl | omega) ?_
        exact k1 t (by omega) _ x1
    · have e0 : lwH segs = true := Classical.byContradiction (fun u => by rw [if_neg u] at ez; omega)
      rw [if_pos e0] at k1 k2
      refine fx_la 0 30 (v := 1186) (by decide +kernel) rfl (by decide +kernel) ?_
      refine fx_gi 1186 148 19 33 (by decide +kernel) ?_
      try simp only [fu_app, fcy_app, Nat.reduceEqDiff, and_true, and_false, false_and, true_and, if_true, if_false, ite_true, ite_false, reduceIte, Int.reduceToNat, fx_simp0]
      rw [m3]
      refine fx_go 58 (by decide +kernel) ?_
      refine fx_retb (by decide +kernel) (by first | exact Or.inl rfl | exact Or.inr rfl | omega) ?_
      by_cases c : lwO (mFv (g 149) p (g 149 (12 + 7 * p)) 0) segs = true
      · rw [show (12 + 7 * p + 0) = 12 + 7 * p from rfl, if_pos c]; exact k1 t c _ x1
      · rw [show (12 + 7 * p + 0) = 12 + 7 * p from rfl, if_neg c]; exact k2 (fun u => c u.2) _ x1
  · refine fx_zne 10 8 (by decide +kernel) (by unfold fR; omega) (fun hc => absurd hc (by decide)) (fun _ => ?_)
    refine fx_ci (0) 9 (by decide +kernel) ?_
    refine fx_retb (by decide +kernel) (by first | exact Or.inl rfl | exact Or.inr rfl | omega) ?_
    exact k2 (fun u => t u.1) _ rA.rf
end FIG
