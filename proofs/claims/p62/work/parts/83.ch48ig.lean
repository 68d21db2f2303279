/-! joined: 83.ch48ig 83.ch49ih 83.ch50ii 83.ch51ij 83.ch52ik -/
section
/-! fx: what is eaten, what may be taken off: both sides alike -/
/-- what a person of the row t eats of a dish at a place -/
noncomputable def eV (t : Nat → Int) (segs : List (List Int × Int × Int)) (p : Nat) (pl d : Int) : Int := if 0 ≤ t (68 + (d * 8 + pl).toNat) + lwM (mFv t p pl d) segs 0 then t (68 + (d * 8 + pl).toNat) + lwM (mFv t p pl d) segs 0 else 0
noncomputable def mMay (t : Nat → Int) (segs : List (List Int × Int × Int)) (p : Nat) : Prop := if lwH segs = true then lwO (mFv t p (t (12 + 7 * p)) 0) segs = true else t 7 ≤ t (18 + 7 * p)
def awT (t : Nat → Int) (p : Nat) : Prop := t (12 + 7 * p) ≠ -1 ∧ t (17 + 7 * p) ≠ 1
theorem cF_m_table {g : Nat → Nat → Int} {t : Nat → Int} {p : Nat} {pl d : Int} (hH : RHf 3 g t) (hT : RTf 16 g t) (hp : p < 8) : cFv_table g p pl d = mFv t p pl d := by
  obtain ⟨-, -, -, -, -, -, a7, a8, -, -⟩ := hH
  obtain ⟨-, b2, b3, b4, -, -, b7, -⟩ := hT
  funext k
  unfold cFv_table mFv
  rw [show g 20 p = t (18 + 7 * p) from b4 p hp, show g 18 p = t (13 + 7 * p) from b2 p hp, show g 4 p = t (14 + 7 * p) from a7 p hp, show g 16 9 = t 9 from b7, show g 19 p = t (16 + 7 * p) from b3 p hp, show g 5 p = t (15 + 7 * p) from a8 p hp]
theorem cF_m_scratch {g : Nat → Nat → Int} {t : Nat → Int} {p : Nat} {pl d : Int} (hH : RHf 3 g t) (hT : RTf 22 g t) (hp : p < 8) : cFv_scratch g p pl d = mFv t p pl d := by
  obtain ⟨-, -, -, -, -, -, a7, a8, -, -⟩ := hH
  obtain ⟨-, b2, b3, b4, -, -, b7, -⟩ := hT
  funext k
  unfold cFv_scratch mFv
  rw [show g 26 p = t (18 + 7 * p) from b4 p hp, show g 24 p = t (13 + 7 * p) from b2 p hp, show g 4 p = t (14 + 7 * p) from a7 p hp, show g 22 9 = t 9 from b7, show g 25 p = t (16 + 7 * p) from b3 p hp, show g 5 p = t (15 + 7 * p) from a8 p hp]
theorem cMay_m_table {g : Nat → Nat → Int} {t : Nat → Int} {p : Nat} {segs : List (List Int × Int × Int)} (hH : RHf 3 g t) (hT : RTf 16 g t) (hp : p < 8) : cMay_table g segs p = mMay t segs p := by
  unfold cMay_table mMay
  rw [cF_m_table hH hT hp, show g 17 p = t (12 + 7 * p) from hT.1 p hp, show g 3 9 = t 7 from hH.2.2.2.2.2.1, show g 20 p = t (18 + 7 * p) from hT.2.2.2.1 p hp]
theorem cMay_m_scratch {g : Nat → Nat → Int} {t : Nat → Int} {p : Nat} {segs : List (List Int × Int × Int)} (hH : RHf 3 g t) (hT : RTf 22 g t) (hp : p < 8) : cMay_scratch g segs p = mMay t segs p := by
  unfold cMay_scratch mMay
  rw [cF_m_scratch hH hT hp, show g 23 p = t (12 + 7 * p) from hT.1 p hp, show g 3 9 = t 7 from hH.2.2.2.2.2.1, show g 26 p = t (18 + 7 * p) from hT.2.2.2.1 p hp]
/-- what asking writes, the row apart -/
def rN (g g' : Nat → Nat → Int) : Prop := ∀ c j, c ≠ 149 → c ≠ 154 → ¬ (c = 148 ∧ (j = 9 ∨ j = 10 ∨ j = 11 ∨ j = 13 ∨ (15 ≤ j ∧ j ≤ 19))) → g' c j = g c j
theorem rN.rf {g : Nat → Nat → Int} : rN g g := fun _ _ _ _ _ => rfl
theorem rN.tr {g g1 g2 : Nat → Nat → Int} (h : rN g g1) (h2 : rN g1 g2) : rN g g2 := fun c j a b d => by rw [h2 c j a b d, h c j a b d]
theorem rA.row {G g' : Nat → Nat → Int} {t : Nat → Int} (h : rA (frow G t) g') : g' = frow g' t ∧ rN G g' := by
  have e : g' 149 = t := by
    funext j
    rw [h _ _ (by decide) (fun u => absurd u.1 (by decide)), frow_m]
  refine ⟨?_, fun c j a b d => by rw [h c j b d, frow_ne a]⟩
  have := frow_self g'
  rw [e] at this
  exact this.symm
section FIG
variable {W : ax_W} {r : Nat} {g : Nat → Nat → Int} {Q : Nat → Nat → (Nat → Nat → Int) → Prop} {segs : List (List Int × Int × Int)}
theorem sp_meatsBy {p : Nat} {pl d : Int} (h : LwR (g 149) segs) (hp : p < 8) (hpl : 0 ≤ pl ∧ pl ≤ 7) (hd : 0 ≤ d ∧ d < 6) (he : 0 ≤ g 149 (68 + (d * 8 + pl).toNat) ∧ g 149 (68 + (d * 8 + pl).toNat) ≤ 9)
    (kq : ∀ g', rA g g' → Q 1 (fI (eV (g 149) segs p pl d)) g') : fx W r 36 315 0 [1186, fI (p : Int), fI pl, fI d] [] g Q := by
  have hok := h.ok (mFv_78 (g 149) p pl d)
  have hmb := lwM_b (F := mFv (g 149) p pl d) segs 0 (fun s hs => (hok s hs).2.2)
  have h12 := h.2.2.2
  unfold eV at kq
  refine fx_la 0 1 (v := 1186) (by decide +kernel) rfl (by decide +kernel) ?_
  refine fx_li 1 2 (by decide +kernel) rfl ?_
  refine fx_li 2 3 (by decide +kernel) rfl ?_
  refine fx_li 3 4 (by decide +kernel) rfl ?_
  refine fx_c4 302 21 7 35 [7, 7] (by decide +kernel) (by decide) (by decide) (fI_n4 _) (fI_n4 _) (fI_n4 _) rfl (by first | decide | omega) ?_
  refine sp_masks h hp (by unfold fR; omega) (by unfold fR; omega) (fun g1 x1 m1 m2 m3 => fK0 ?_)
  have kq := kq g1 x1
  refine fx_ci (0) 8 (by decide +kernel) ?_
  refine fx_la 0 9 (v := 1186) (by decide +kernel) rfl (by decide +kernel) ?_
  refine fx_li 3 10 (by decide +kernel) rfl ?_
  refine fx_li 2 11 (by decide +kernel) rfl ?_
  refine fx_c3 313 21 14 0 [] (by decide +kernel) (by decide) (by decide) (fI_n4 _) (fI_n4 _) rfl (by first | decide | omega) ?_
  refine sp_meatenOf hd hpl (fK1 ?_)
  rw [x1 _ _ (by decide) (fun t => absurd t.1 (by decide)), show (68 + 8 * d + pl).toNat = 68 + (d * 8 + pl).toNat by omega]
  refine fx_la 0 15 (v := 1186) (by decide +kernel) rfl (by decide +kernel) ?_
  refine fx_gi 1186 148 17 18 (by decide +kernel) ?_
  try simp only [fu_app, fcy_app, Nat.reduceEqDiff, and_true, and_false, false_and, true_and, if_true, if_false, ite_true, ite_false, reduceIte, Int.reduceToNat, fx_simp0]
  rw [m1]
  refine fx_add 19 (by decide +kernel) rfl ?_
  refine fx_c2 316 22 22 0 [] (f_q22 (by decide +kernel)) (by decide) (fI_n4 _) (fI_n4 _) rfl (by first | decide | omega) ?_
  generalize g 149 (68 + (d * 8 + pl).toNat) = e at *
  generalize lwM (mFv (g 149) p pl d) segs 0 = M at *
  refine sp_mgreater (by unfold fR; omega) (by unfold fR; omega) (fK1 ?_)
  refine fx_ret (by decide +kernel) ?_
  by_cases c : 0 ≤ e + M
  · rw [if_pos c] at kq
    rw [if_neg (by omega)]
    exact kq
  · rw [if_neg c] at kq
    rw [if_pos (by omega)]
    exact kq
theorem sp_mmayBeOff {p : Nat} (h : LwR (g 149) segs) (hp : p < 8) (k1 : awT (g 149) p → mMay (g 149) segs p → ∀ g', rA g g' → Q 1 (fI 1) g') (k2 : ¬ (awT (g 149) p ∧ mMay (g 149) segs p) → ∀ g', rA g g' → Q 1 (fI 0) g') : fx W r 36 299 0 [1186, fI (p : Int)] [] g Q := by
  refine fx_rg (fun hg => ?_)
  have rm : ∀ j : Nat, j < 764 → fR (g 149 j) := fun j hj => hgA hg 764 (c := 149) (j := j) (by decide +kernel) hj
  have rp := rm (12 + 7 * p) (by omega)
  have r7 := rm 7 (by decide)
  have rc := rm (18 + 7 * p) (by omega)
  unfold fR at r7 rc
  unfold mMay awT at k1 k2
  refine fx_la 0 1 (v := 1186) (by decide +kernel) rfl (by decide +kernel) ?_
  refine fx_li 1 2 (by decide +kernel) rfl ?_
  refine fx_c2 300 21 5 2 [] (by decide +kernel) (by decide) (by decide) (fI_n4 _) rfl (by first | decide | omega) ?_
  refine sp_misAway hp (fun t => fK1 ?_) (fun t => fK1 ?_)
  · refine fx_zne 10 8 (by decide +kernel) (by unfold fR; omega) (fun _ => ?_) (fun hc => absurd hc (by decide))
    refine fx_la 0 11 (v := 1186) (by decide +kernel) rfl (by decide +kernel) ?_
    refine fx_li 1 12 (by decide +kernel) rfl ?_
    refine fx_la 0 13 (v := 1186) (by decide +kernel) rfl (by decide +kernel) ?_
    refine fx_li 1 14 (by decide +kernel) rfl ?_
    refine fx_ci (0) 15 (by decide +kernel) ?_
    refine fx_c3 298 21 18 0 [] (by decide +kernel) (by decide) (by decide) (fI_n4 _) (fI_n4 _) rfl (by first | decide | omega) ?_
    refine sp_mof (w := 0) hp (by decide) (fK1 ?_)
    refine fx_ci (0) 19 (by decide +kernel) ?_
    refine fx_c4 302 21 22 35 [7, 7] (by decide +kernel) (by decide) (by decide) (fI_n4 _) (fI_n4 _) (fI_n4 _) rfl (by first | decide | omega) ?_
    refine sp_masks h hp (show fR (g 149 (12 + 7 * p)) from rp) (by unfold fR; omega) (fun g1 x1 m1 m2 m3 => fK0 ?_)
    have xm : ∀ j, g1 149 j = g 149 j := fun j => x1 _ _ (by decide) (fun t => absurd t.1 (by decide))
    have hz : (if lwH segs = true then (1 : Int) else 0) = 0 ∨ (if lwH segs = true then (1 : Int) else 0) = 1 := if_01
    refine fx_la 0 23 (v := 1186) (by decide +kernel) rfl (by decide +kernel) ?_
    refine fx_gi 1186 148 18 26 (by decide +kernel) ?_
    try simp only [fu_app, fcy_app, Nat.reduceEqDiff, and_true, and_false, false_and, true_and, if_true, if_false, ite_true, ite_false, reduceIte, Int.reduceToNat, fx_simp0]
    rw [m2]
    generalize ez : (if lwH segs = true then (1 : Int) else 0) = z at *
    refine fx_zeq 36 29 (by decide +kernel) (by unfold fR; omega) (fun h26 => ?_) (fun h26 => ?_)
    · have e0 : ¬ lwH segs = true := fun u => by rw [if_pos u] at ez; omega
      rw [if_neg e0] at k1 k2
      refine fx_la 0 37 (v := 1186) (by decide +kernel) rfl (by decide +kernel) ?_
      refine fx_li 1 38 (by decide +kernel) rfl ?_
      refine fx_ci (6) 40 (by decide +kernel) ?_
      refine fx_c3 298 21 43 0 [] (by decide +kernel) (by decide) (by decide) (fI_n4 _) (fI_n4 _) rfl (by first | decide | omega) ?_
      refine sp_mof (w := 6) hp (by decide) (fK1 ?_)
      rw [xm, show 12 + 7 * p + 6 = 18 + 7 * p by omega]
      refine fx_la 0 44 (v := 1186) (by decide +kernel) rfl (by decide +kernel) ?_
      refine fx_gp 1186 148 1 1194 47 (by decide +kernel) ?_
      refine fx_ci (7) 49 (by decide +kernel) ?_
      refine fx_al 1194 149 764 50 (by decide +kernel) rfl (by omega) (by omega) rfl ?_
      try simp only [fu_app, fcy_app, Nat.reduceEqDiff, and_true, and_false, false_and, true_and, if_true, if_false, ite_true, ite_false, reduceIte, Int.reduceToNat, fx_simp0]
      rw [xm]
      refine fx_ilt 57 53 (by decide +kernel) (by unfold fR; omega) (by unfold fR; omega) (fun h50 => ?_) (fun h50 => ?_)
      · refine fx_ci (0) 58 (by decide +kernel) ?_
        refine fx_retb (by decide +kernel) (by first | exact Or.inl rfl | exact Or.inr rfl | omega) ?_
        exact k2 (fun u => by have := u.2; omega) _ x1
      · refine fx_ci (1) 54 (by decide +kernel) ?_
        refine fx_go 58 (by decide +kernel) ?_
        refine fx_retb (by decide +kernel) (by first | exact Or.inl rfl | exact Or.inr rfl | omega) ?_
        exact k1 t (by omega) _ x1
    · have e0 : lwH segs = true := Classical.byContradiction (fun u => by rw [if_neg u] at ez; omega)
      rw [if_pos e0] at k1 k2
      refine fx_la 0 30 (v := 1186) (by decide +kernel) rfl (by decide +kernel) ?_
      refine fx_gi 1186 148 19 33 (by decide +kernel) ?_
      try simp only [fu_app, fcy_app, Nat.reduceEqDiff, and_true, and_false, false_and, true_and, if_true, if_false, ite_true, ite_false, reduceIte, Int.reduceToNat, fx_simp0]
      rw [m3]
      refine fx_go 58 (by decide +kernel) ?_
      refine fx_retb (by decide +kernel) (by first | exact Or.inl rfl | exact Or.inr rfl | omega) ?_
      by_cases c : lwO (mFv (g 149) p (g 149 (12 + 7 * p)) 0) segs = true
      · rw [show (12 + 7 * p + 0) = 12 + 7 * p from rfl, if_pos c]; exact k1 t c _ x1
      · rw [show (12 + 7 * p + 0) = 12 + 7 * p from rfl, if_neg c]; exact k2 (fun u => c u.2) _ x1
  · refine fx_zne 10 8 (by decide +kernel) (by unfold fR; omega) (fun hc => absurd hc (by decide)) (fun _ => ?_)
    refine fx_ci (0) 9 (by decide +kernel) ?_
    refine fx_retb (by decide +kernel) (by first | exact Or.inl rfl | exact Or.inr rfl | omega) ?_
    exact k2 (fun u => t u.1) _ rA.rf
end FIG
end
section
/-! fx: draws, members of a set, bits: both sides -/
/-- the draws go on -/
noncomputable def nxS (s : Int) : Int := fop 0 (1103515245 * s) 12345
/-- what is drawn -/
noncomputable def dwS (s : Int) : Int := fop 3 (fop 8 s 16) 32767
theorem fop_and15 (x : Int) : 0 ≤ fop 3 x 32767 ∧ fop 3 x 32767 ≤ 32767 := by
  have e : sx_bf 3 (Int32.ofInt x) (Int32.ofInt 32767) = Int32.ofInt x &&& Int32.ofInt 32767 := rfl
  have t : (Int32.ofInt x &&& Int32.ofInt 32767).toBitVec.toNat ≤ 32767 := by
    rw [Int32.toBitVec_and, BitVec.toNat_and]
    exact Nat.and_le_right
  unfold fop
  rw [e]
  show 0 ≤ (Int32.ofInt x &&& Int32.ofInt 32767).toBitVec.toInt ∧ (Int32.ofInt x &&& Int32.ofInt 32767).toBitVec.toInt ≤ 32767
  rw [BitVec.toInt_eq_toNat_of_lt (by omega)]
  omega
theorem dwS_b (s : Int) : 0 ≤ dwS s ∧ dwS s ≤ 32767 := fop_and15 _
theorem fop_1s {x y : Int} (h : fR (x - y)) : fop 1 x y = x - y := fI_inj (fop_R _ _ _) h (fI_sub x y)
theorem fop_2s {x y : Int} (h : fR (x * y)) : fop 2 x y = x * y := fI_inj (fop_R _ _ _) h (fI_mul x y)
theorem fop_10 (d n : Int) : fop 10 d n = fop 1 d (fop 2 (fop 9 d n) n) := by
  have e1 : fop 10 d n = (Int32.ofInt d - Int32.ofInt d / Int32.ofInt n * Int32.ofInt n).toInt := rfl
  have e2 : fop 9 d n = (Int32.ofInt d / Int32.ofInt n).toInt := rfl
  have e3 : fop 2 (fop 9 d n) n = (Int32.ofInt (fop 9 d n) * Int32.ofInt n).toInt := rfl
  have e4 : fop 1 d (fop 2 (fop 9 d n) n) = (Int32.ofInt d - Int32.ofInt (fop 2 (fop 9 d n) n)).toInt := rfl
  rw [e4, e3, e2, Int32.ofInt_toInt, Int32.ofInt_toInt, e1]
theorem fop_9 {d n : Int} (h0 : 0 ≤ d) (h1 : d ≤ 2147483647) (n0 : 0 < n) (n1 : n ≤ 2147483647) : fop 9 d n = d / n := by
  have e2 : fop 9 d n = (Int32.ofInt d / Int32.ofInt n).toInt := rfl
  have l0 : 0 ≤ d / n := Int.ediv_nonneg h0 (by omega)
  have l1 : d / n ≤ d := Int.ediv_le_self _ h0
  rw [e2, Int32.toInt_div, Int32.toInt_ofInt_of_le (by omega) (by omega), Int32.toInt_ofInt_of_le (by omega) (by omega), Int.tdiv_eq_ediv_of_nonneg h0]
  exact Int.bmod_eq_of_le (by omega) (by omega)
theorem fop_rm {d n : Int} (h0 : 0 ≤ d) (h1 : d ≤ 2147483647) (n0 : 0 < n) (n1 : n ≤ 2147483647) : fop 10 d n = d % n := by
  have l0 : 0 ≤ d / n := Int.ediv_nonneg h0 (by omega)
  have m0 : 0 ≤ d % n := Int.emod_nonneg _ (by omega)
  have m1 : d % n < n := Int.emod_lt_of_pos _ n0
  have k := Int.mul_ediv_add_emod d n
  have k2 : d / n * n = d - d % n := by rw [Int.mul_comm]; omega
  have q0 : 0 ≤ d / n * n := Int.mul_nonneg l0 (by omega)
  rw [fop_10, fop_9 h0 h1 n0 n1, fop_2s (by unfold fR; omega), fop_1s (by unfold fR; omega)]
  omega
theorem fop_rm_b {d n : Int} (h0 : 0 ≤ d) (h1 : d ≤ 2147483647) (n0 : 0 < n) (n1 : n ≤ 2147483647) : 0 ≤ fop 10 d n ∧ fop 10 d n < n := by
  rw [fop_rm h0 h1 n0 n1]
  exact ⟨Int.emod_nonneg _ (by omega), Int.emod_lt_of_pos _ n0⟩
theorem i32_n0 {n : Int} (n0 : 0 < n) (n1 : n ≤ 2147483647) : ¬ Int32.ofInt n = 0 := fun h => by
  have h2 := congrArg Int32.toInt h
  rw [Int32.toInt_ofInt_of_le (by omega) (by omega)] at h2
  have h2 : n = 0 := h2
  omega
/-- how many of the lowest bits of a set -/
noncomputable def pB (s : Int) : Nat → Int
  | 0 => 0
  | k + 1 => pB s k + fop 3 (fop 7 s (k : Int)) 1
/-- the member of a number, of those from i on -/
noncomputable def pKl (s k : Int) : Nat → Int → Int → Int
  | 0, _, _ => -1
  | l + 1, i, n => if fbt s i = 1 then (if n = k then i else pKl s k l (i + 1) (n + 1)) else pKl s k l (i + 1) n
noncomputable def pKt (s k : Int) : Int := pKl s k 8 0 0
noncomputable def pMl (s : Int) : Nat → Int
  | 0 => s
  | n + 1 => fop 3 (pMl s n) (pMl s n - 1)
theorem pB_8 : ∀ q : Fin 256, 0 ≤ pB ((q.val : Nat) : Int) 31 ∧ pB ((q.val : Nat) : Int) 31 ≤ 8 ∧ (q.val ≠ 0 → 1 ≤ pB ((q.val : Nat) : Int) 31) ∧ (q.val = 0 → pB ((q.val : Nat) : Int) 31 = 0) := by decide +kernel
theorem pB_b {s : Int} (h0 : 0 ≤ s) (h1 : s ≤ 255) : 0 ≤ pB s 31 ∧ pB s 31 ≤ 8 ∧ (s ≠ 0 → 1 ≤ pB s 31) ∧ (s = 0 → pB s 31 = 0) := by
  have h := pB_8 ⟨s.toNat, by omega⟩
  have e : ((s.toNat : Nat) : Int) = s := by omega
  dsimp only at h
  rw [e] at h
  exact ⟨h.1, h.2.1, fun t => h.2.2.1 (by omega), fun t => h.2.2.2 (by omega)⟩
theorem pM_0 : ∀ q : Fin 64, ∀ n : Fin 8, ((n.val : Nat) : Int) < pB ((q.val : Nat) : Int) 31 → 1 ≤ pMl ((q.val : Nat) : Int) n.val ∧ pMl ((q.val : Nat) : Int) n.val ≤ 255 ∧ pKl (pMl ((q.val : Nat) : Int) n.val) 0 8 0 0 = pKl ((q.val : Nat) : Int) ((n.val : Nat) : Int) 8 0 0 ∧ 0 ≤ pKl ((q.val : Nat) : Int) ((n.val : Nat) : Int) 8 0 0 ∧ pKl ((q.val : Nat) : Int) ((n.val : Nat) : Int) 8 0 0 ≤ 7 := by decide +kernel
theorem pM_1 : ∀ q : Fin 64, ∀ n : Fin 8, ((n.val : Nat) : Int) < pB ((q.val + 64 : Nat) : Int) 31 → 1 ≤ pMl ((q.val + 64 : Nat) : Int) n.val ∧ pMl ((q.val + 64 : Nat) : Int) n.val ≤ 255 ∧ pKl (pMl ((q.val + 64 : Nat) : Int) n.val) 0 8 0 0 = pKl ((q.val + 64 : Nat) : Int) ((n.val : Nat) : Int) 8 0 0 ∧ 0 ≤ pKl ((q.val + 64 : Nat) : Int) ((n.val : Nat) : Int) 8 0 0 ∧ pKl ((q.val + 64 : Nat) : Int) ((n.val : Nat) : Int) 8 0 0 ≤ 7 := by decide +kernel
theorem pM_2 : ∀ q : Fin 64, ∀ n : Fin 8, ((n.val : Nat) : Int) < pB ((q.val + 128 : Nat) : Int) 31 → 1 ≤ pMl ((q.val + 128 : Nat) : Int) n.val ∧ pMl ((q.val + 128 : Nat) : Int) n.val ≤ 255 ∧ pKl (pMl ((q.val + 128 : Nat) : Int) n.val) 0 8 0 0 = pKl ((q.val + 128 : Nat) : Int) ((n.val : Nat) : Int) 8 0 0 ∧ 0 ≤ pKl ((q.val + 128 : Nat) : Int) ((n.val : Nat) : Int) 8 0 0 ∧ pKl ((q.val + 128 : Nat) : Int) ((n.val : Nat) : Int) 8 0 0 ≤ 7 := by decide +kernel
theorem pM_3 : ∀ q : Fin 64, ∀ n : Fin 8, ((n.val : Nat) : Int) < pB ((q.val + 192 : Nat) : Int) 31 → 1 ≤ pMl ((q.val + 192 : Nat) : Int) n.val ∧ pMl ((q.val + 192 : Nat) : Int) n.val ≤ 255 ∧ pKl (pMl ((q.val + 192 : Nat) : Int) n.val) 0 8 0 0 = pKl ((q.val + 192 : Nat) : Int) ((n.val : Nat) : Int) 8 0 0 ∧ 0 ≤ pKl ((q.val + 192 : Nat) : Int) ((n.val : Nat) : Int) 8 0 0 ∧ pKl ((q.val + 192 : Nat) : Int) ((n.val : Nat) : Int) 8 0 0 ≤ 7 := by decide +kernel
/-- the class's member is the reference's -/
theorem pM_ok {s n : Int} (s0 : 0 ≤ s) (s1 : s ≤ 255) (n0 : 0 ≤ n) (n1 : n < pB s 31) : 1 ≤ pMl s n.toNat ∧ pMl s n.toNat ≤ 255 ∧ pKt (pMl s n.toNat) 0 = pKt s n ∧ 0 ≤ pKt s n ∧ pKt s n ≤ 7 := by
  have hb := pB_b s0 s1
  have en : ((n.toNat : Nat) : Int) = n := by omega
  unfold pKt
  have go : ∀ (b : Nat) (q : Nat), ((q + b : Nat) : Int) = s → (((n.toNat : Nat) : Int) < pB ((q + b : Nat) : Int) 31 → 1 ≤ pMl ((q + b : Nat) : Int) n.toNat ∧ pMl ((q + b : Nat) : Int) n.toNat ≤ 255 ∧ pKl (pMl ((q + b : Nat) : Int) n.toNat) 0 8 0 0 = pKl ((q + b : Nat) : Int) ((n.toNat : Nat) : Int) 8 0 0 ∧ 0 ≤ pKl ((q + b : Nat) : Int) ((n.toNat : Nat) : Int) 8 0 0 ∧ pKl ((q + b : Nat) : Int) ((n.toNat : Nat) : Int) 8 0 0 ≤ 7) → 1 ≤ pMl s n.toNat ∧ pMl s n.toNat ≤ 255 ∧ pKl (pMl s n.toNat) 0 8 0 0 = pKl s n 8 0 0 ∧ 0 ≤ pKl s n 8 0 0 ∧ pKl s n 8 0 0 ≤ 7 := fun b q e h => by
    rw [e, en] at h
    exact h n1
  rcases (by omega : s < 64 ∨ (64 ≤ s ∧ s < 128) ∨ (128 ≤ s ∧ s < 192) ∨ 192 ≤ s) with h | h | h | h
  · exact go 0 s.toNat (by omega) (pM_0 ⟨s.toNat, by omega⟩ ⟨n.toNat, by omega⟩)
  · exact go 64 (s.toNat - 64) (by omega) (pM_1 ⟨s.toNat - 64, by omega⟩ ⟨n.toNat, by omega⟩)
  · exact go 128 (s.toNat - 128) (by omega) (pM_2 ⟨s.toNat - 128, by omega⟩ ⟨n.toNat, by omega⟩)
  · exact go 192 (s.toNat - 192) (by omega) (pM_3 ⟨s.toNat - 192, by omega⟩ ⟨n.toNat, by omega⟩)
section FIH
variable {W : ax_W} {r : Nat} {g : Nat → Nat → Int} {Q : Nat → Nat → (Nat → Nat → Int) → Prop}
theorem sp_bitCount8 {s : Int} (h0 : 0 ≤ s) (h1 : s ≤ 255) (kq : Q 1 (fI (pB s 31)) g) : fx W r 0 20 0 [fI s] [] g Q := by
  refine fx_li 0 1 (by decide +kernel) rfl ?_
  refine fx_li 0 2 (by decide +kernel) rfl ?_
  refine fx_ci (1) 3 (by decide +kernel) ?_
  refine fx_bin 8 4 (by decide +kernel) rfl (fun h => absurd h (by decide)) ?_
  refine fx_ci (1431655765) 7 (by decide +kernel) ?_
  refine fx_bin 3 8 (by decide +kernel) rfl (fun h => absurd h (by decide)) ?_
  refine fx_sub 9 (by decide +kernel) rfl ?_
  refine fx_si 0 10 (by decide +kernel) (Or.inl rfl) rfl ?_
  dsimp only [List.set]
  refine fx_li 0 11 (by decide +kernel) rfl ?_
  refine fx_ci (858993459) 14 (by decide +kernel) ?_
  refine fx_bin 3 15 (by decide +kernel) rfl (fun h => absurd h (by decide)) ?_
  refine fx_li 0 16 (by decide +kernel) rfl ?_
  refine fx_ci (2) 17 (by decide +kernel) ?_
  refine fx_bin 8 18 (by decide +kernel) rfl (fun h => absurd h (by decide)) ?_
  refine fx_ci (858993459) 21 (by decide +kernel) ?_
  refine fx_bin 3 22 (by decide +kernel) rfl (fun h => absurd h (by decide)) ?_
  refine fx_add 23 (by decide +kernel) rfl ?_
  refine fx_si 0 24 (by decide +kernel) (Or.inl rfl) rfl ?_
  dsimp only [List.set]
  refine fx_li 0 25 (by decide +kernel) rfl ?_
  refine fx_li 0 26 (by decide +kernel) rfl ?_
  refine fx_ci (4) 27 (by decide +kernel) ?_
  refine fx_bin 8 28 (by decide +kernel) rfl (fun h => absurd h (by decide)) ?_
  refine fx_add 29 (by decide +kernel) rfl ?_
  refine fx_ci (252645135) 32 (by decide +kernel) ?_
  refine fx_bin 3 33 (by decide +kernel) rfl (fun h => absurd h (by decide)) ?_
  refine fx_si 0 34 (by decide +kernel) (Or.inl rfl) rfl ?_
  dsimp only [List.set]
  refine fx_li 0 35 (by decide +kernel) rfl ?_
  refine fx_li 0 36 (by decide +kernel) rfl ?_
  refine fx_ci (8) 38 (by decide +kernel) ?_
  refine fx_bin 8 39 (by decide +kernel) rfl (fun h => absurd h (by decide)) ?_
  refine fx_add 40 (by decide +kernel) rfl ?_
  refine fx_si 0 41 (by decide +kernel) (Or.inl rfl) rfl ?_
  dsimp only [List.set]
  refine fx_li 0 42 (by decide +kernel) rfl ?_
  refine fx_li 0 43 (by decide +kernel) rfl ?_
  refine fx_ci (16) 45 (by decide +kernel) ?_
  refine fx_bin 8 46 (by decide +kernel) rfl (fun h => absurd h (by decide)) ?_
  refine fx_add 47 (by decide +kernel) rfl ?_
  refine fx_si 0 48 (by decide +kernel) (Or.inl rfl) rfl ?_
  dsimp only [List.set]
  refine fx_li 0 49 (by decide +kernel) rfl ?_
  refine fx_ci (63) 51 (by decide +kernel) ?_
  refine fx_bin 3 52 (by decide +kernel) rfl (fun h => absurd h (by decide)) ?_
  refine fx_ret (by decide +kernel) ?_
  refine Eq.mp (congrArg (fun z => Q 1 (fI z) g) ?_) kq
  obtain ⟨q, rfl⟩ : ∃ q : Fin 256, s = ((q.val : Nat) : Int) := ⟨⟨s.toNat, by omega⟩, by show s = ((s.toNat : Nat) : Int); omega⟩
  clear kq h0 h1
  revert q
  decide +kernel
theorem sp_mbits8_1 {s : Int} (kq : Q 1 (fI (pB s 31)) g) : ∀ (l k : Nat), k + l = 31 → fx W r 0 328 4 [fI s, fI (pB s k), fI (k : Int)] [] g Q
  | l, k, hl => by
    refine fx_li 2 5 (by decide +kernel) rfl ?_
    refine fx_ci (31) 7 (by decide +kernel) ?_
    refine fx_ige 24 10 (by decide +kernel) (by unfold fR; omega) (by unfold fR; omega) (fun h7 => ?_) (fun h7 => ?_)
    · refine fx_li 1 25 (by decide +kernel) rfl ?_
      refine fx_ret (by decide +kernel) ?_
      have e : k = 31 := by omega
      subst e
      exact kq
    · refine fx_li 1 11 (by decide +kernel) rfl ?_
      refine fx_li 0 12 (by decide +kernel) rfl ?_
      refine fx_li 2 13 (by decide +kernel) rfl ?_
      refine fx_bin 7 14 (by decide +kernel) rfl (fun h => absurd h (by decide)) ?_
      refine fx_ci (1) 15 (by decide +kernel) ?_
      refine fx_bin 3 16 (by decide +kernel) rfl (fun h => absurd h (by decide)) ?_
      refine fx_add 17 (by decide +kernel) rfl ?_
      refine fx_si 1 18 (by decide +kernel) (Or.inr (fI_n4 _)) rfl ?_
      dsimp only [List.set]
      refine fx_inc 2 21 (1) (by decide +kernel) rfl (Or.inr (fI_n4 _)) rfl ?_
      dsimp only [List.set]
      refine fx_go 4 (by decide +kernel) ?_
      match l, hl with
      | 0, hl => exfalso; omega
      | l + 1, hl => exact sp_mbits8_1 kq l (k + 1) (by omega)
theorem sp_mbits8 {s : Int} (kq : Q 1 (fI (pB s 31)) g) : fx W r 0 328 0 [fI s, 7, 7] [] g Q := by
  refine fx_ci (0) 1 (by decide +kernel) ?_
  refine fx_si 1 2 (by decide +kernel) (Or.inr (fI_n4 _)) rfl ?_
  dsimp only [List.set]
  refine fx_ci (0) 3 (by decide +kernel) ?_
  refine fx_si 2 4 (by decide +kernel) (Or.inr (fI_n4 _)) rfl ?_
  dsimp only [List.set]
  exact sp_mbits8_1 kq 31 0 rfl
theorem tz_1 : ∀ q : Fin 256, q.val ≠ 0 → (fop 3 (fop 5 ((q.val : Nat) : Int) (-1)) (((q.val : Nat) : Int) - 1) ≤ 0 → fop 3 (fop 3 (fop 5 ((q.val : Nat) : Int) (-1)) (((q.val : Nat) : Int) - 1)) 32 = pKl ((q.val : Nat) : Int) 0 8 0 0) ∧ fop 3 (fop 5 ((q.val : Nat) : Int) (-1)) (((q.val : Nat) : Int) - 1) < 256 ∧ 0 ≤ fop 3 (fop 5 ((q.val : Nat) : Int) (-1)) (((q.val : Nat) : Int) - 1) := by decide +kernel
noncomputable def tzR (y : Int) : Int := if 16 < y then (if 4 < fop 8 y 4 then (1 + 4 + 2) + fop 8 (fop 8 (fop 8 y 4) 2) 1 else (1 + 4) + fop 8 (fop 8 y 4) 1) else (if 4 < y then (1 + 2) + fop 8 (fop 8 y 2) 1 else 1 + fop 8 y 1)
theorem tz_2 : ∀ q : Fin 256, q.val ≠ 0 → 0 < fop 3 (fop 5 ((q.val : Nat) : Int) (-1)) (((q.val : Nat) : Int) - 1) → tzR (fop 3 (fop 5 ((q.val : Nat) : Int) (-1)) (((q.val : Nat) : Int) - 1)) = pKl ((q.val : Nat) : Int) 0 8 0 0 := by decide +kernel
theorem sp_ntz8 {s : Int} (h0 : 1 ≤ s) (h1 : s ≤ 255) (kq : Q 1 (fI (pKt s 0)) g) : fx W r 0 32 0 [fI s, 7] [] g Q := by
  unfold pKt at kq
  have t1 := tz_1 ⟨s.toNat, by omega⟩ (by show s.toNat ≠ 0; omega)
  have t2 := tz_2 ⟨s.toNat, by omega⟩ (by show s.toNat ≠ 0; omega)
  have e : ((s.toNat : Nat) : Int) = s := by omega
  dsimp only at t1 t2
  rw [e] at t1 t2
  refine fx_li 0 1 (by decide +kernel) rfl ?_
  refine fx_cn (-1) 2 (by decide +kernel) (fun v1 c1 => ?_)
  refine fx_bin 5 3 (by decide +kernel) rfl (fun h => absurd h (by decide)) ?_
  subst c1
  refine fx_li 0 4 (by decide +kernel) rfl ?_
  refine fx_ci (1) 5 (by decide +kernel) ?_
  refine fx_sub 6 (by decide +kernel) rfl ?_
  refine fx_bin 3 7 (by decide +kernel) rfl (fun h => absurd h (by decide)) ?_
  refine fx_si 0 8 (by decide +kernel) (Or.inl rfl) rfl ?_
  dsimp only [List.set]
  generalize fop 3 (fop 5 s (-1)) (s - 1) = y at *
  have f84 := fop_R 8 y 4
  have f82 := fop_R 8 y 2
  have f842 := fop_R 8 (fop 8 y 4) 2
  unfold fR at f84 f82 f842
  unfold tzR at t2
  refine fx_li 0 9 (by decide +kernel) rfl ?_
  refine fx_zgt 17 12 (by decide +kernel) (by first | exact fop_R _ _ _ | (unfold fR; omega)) (fun h9 => ?_) (fun h9 => ?_)
  · refine fx_ci (1) 18 (by decide +kernel) ?_
    refine fx_si 1 19 (by decide +kernel) (Or.inr (fI_n4 _)) rfl ?_
    dsimp only [List.set]
    refine fx_li 0 20 (by decide +kernel) rfl ?_
    refine fx_ci (65536) 23 (by decide +kernel) ?_
    refine fx_ile 34 26 (by decide +kernel) (by first | exact fop_R _ _ _ | (unfold fR; omega)) (by unfold fR; omega) (fun h23 => ?_) (fun h23 => ?_)
    · refine fx_li 0 35 (by decide +kernel) rfl ?_
      refine fx_ci (256) 38 (by decide +kernel) ?_
      refine fx_ile 49 41 (by decide +kernel) (by first | exact fop_R _ _ _ | (unfold fR; omega)) (by unfold fR; omega) (fun h38 => ?_) (fun h38 => ?_)
      · refine fx_li 0 50 (by decide +kernel) rfl ?_
        refine fx_ci (16) 52 (by decide +kernel) ?_
        refine fx_ile 62 55 (by decide +kernel) (by first | exact fop_R _ _ _ | (unfold fR; omega)) (by unfold fR; omega) (fun h52 => ?_) (fun h52 => ?_)
        · refine fx_li 0 63 (by decide +kernel) rfl ?_
          refine fx_ci (4) 64 (by decide +kernel) ?_
          refine fx_ile 74 67 (by decide +kernel) (by first | exact fop_R _ _ _ | (unfold fR; omega)) (by unfold fR; omega) (fun h64 => ?_) (fun h64 => ?_)
          · refine fx_li 1 75 (by decide +kernel) rfl ?_
            refine fx_li 0 76 (by decide +kernel) rfl ?_
            refine fx_ci (1) 77 (by decide +kernel) ?_
            refine fx_bin 8 78 (by decide +kernel) rfl (fun h => absurd h (by decide)) ?_
            refine fx_add 79 (by decide +kernel) rfl ?_
            refine fx_ret (by decide +kernel) ?_
            rw [if_neg (by omega), if_neg (by omega)] at t2
            rw [← t2 (by omega)] at kq
            exact kq
          · refine fx_inc 1 70 (2) (by decide +kernel) rfl (Or.inr (fI_n4 _)) rfl ?_
            dsimp only [List.set]
            refine fx_li 0 71 (by decide +kernel) rfl ?_
            refine fx_ci (2) 72 (by decide +kernel) ?_
            refine fx_bin 8 73 (by decide +kernel) rfl (fun h => absurd h (by decide)) ?_
            refine fx_si 0 74 (by decide +kernel) (Or.inl rfl) rfl ?_
            dsimp only [List.set]
            refine fx_li 1 75 (by decide +kernel) rfl ?_
            refine fx_li 0 76 (by decide +kernel) rfl ?_
            refine fx_ci (1) 77 (by decide +kernel) ?_
            refine fx_bin 8 78 (by decide +kernel) rfl (fun h => absurd h (by decide)) ?_
            refine fx_add 79 (by decide +kernel) rfl ?_
            refine fx_ret (by decide +kernel) ?_
            rw [if_neg (by omega), if_pos (by omega)] at t2
            rw [← t2 (by omega)] at kq
            exact kq
        · refine fx_inc 1 58 (4) (by decide +kernel) rfl (Or.inr (fI_n4 _)) rfl ?_
          dsimp only [List.set]
          refine fx_li 0 59 (by decide +kernel) rfl ?_
          refine fx_ci (4) 60 (by decide +kernel) ?_
          refine fx_bin 8 61 (by decide +kernel) rfl (fun h => absurd h (by decide)) ?_
          refine fx_si 0 62 (by decide +kernel) (Or.inl rfl) rfl ?_
          dsimp only [List.set]
          refine fx_li 0 63 (by decide +kernel) rfl ?_
          refine fx_ci (4) 64 (by decide +kernel) ?_
          refine fx_ile 74 67 (by decide +kernel) (by first | exact fop_R _ _ _ | (unfold fR; omega)) (by unfold fR; omega) (fun h64 => ?_) (fun h64 => ?_)
          · refine fx_li 1 75 (by decide +kernel) rfl ?_
            refine fx_li 0 76 (by decide +kernel) rfl ?_
            refine fx_ci (1) 77 (by decide +kernel) ?_
            refine fx_bin 8 78 (by decide +kernel) rfl (fun h => absurd h (by decide)) ?_
            refine fx_add 79 (by decide +kernel) rfl ?_
            refine fx_ret (by decide +kernel) ?_
            rw [if_pos (by omega), if_neg (by omega)] at t2
            rw [← t2 (by omega)] at kq
            exact kq
          · refine fx_inc 1 70 (2) (by decide +kernel) rfl (Or.inr (fI_n4 _)) rfl ?_
            dsimp only [List.set]
            refine fx_li 0 71 (by decide +kernel) rfl ?_
            refine fx_ci (2) 72 (by decide +kernel) ?_
            refine fx_bin 8 73 (by decide +kernel) rfl (fun h => absurd h (by decide)) ?_
            refine fx_si 0 74 (by decide +kernel) (Or.inl rfl) rfl ?_
            dsimp only [List.set]
            refine fx_li 1 75 (by decide +kernel) rfl ?_
            refine fx_li 0 76 (by decide +kernel) rfl ?_
            refine fx_ci (1) 77 (by decide +kernel) ?_
            refine fx_bin 8 78 (by decide +kernel) rfl (fun h => absurd h (by decide)) ?_
            refine fx_add 79 (by decide +kernel) rfl ?_
            refine fx_ret (by decide +kernel) ?_
            rw [if_pos (by omega), if_pos (by omega)] at t2
            rw [← t2 (by omega)] at kq
            exact kq
      · exfalso; omega
    · exfalso; omega
  · refine fx_li 0 13 (by decide +kernel) rfl ?_
    refine fx_ci (32) 15 (by decide +kernel) ?_
    refine fx_bin 3 16 (by decide +kernel) rfl (fun h => absurd h (by decide)) ?_
    refine fx_ret (by decide +kernel) ?_
    rw [t1.1 (by omega)]
    exact kq
theorem sp_cmem_1 {s n : Int} (s0 : 0 ≤ s) (s1 : s ≤ 255) (n0 : 0 ≤ n) (n1 : n < pB s 31) (kq : Q 1 (fI (pKt s n)) g) : ∀ (l k : Nat), (k : Int) + l = n → fx W r 1 164 4 [fI s, fI n, fI (pMl s k), fI (k : Int)] [] g Q
  | l, k, hl => by
    have hb := pB_b s0 s1
    obtain ⟨m1, m2, m3, m4, m5⟩ := pM_ok s0 s1 n0 n1
    refine fx_li 3 5 (by decide +kernel) rfl ?_
    refine fx_li 1 6 (by decide +kernel) rfl ?_
    refine fx_ige 21 9 (by decide +kernel) (by unfold fR; omega) (by unfold fR; omega) (fun h6 => ?_) (fun h6 => ?_)
    · refine fx_li 2 22 (by decide +kernel) rfl ?_
      refine fx_c1 32 22 25 0 [7] (f_q22 (by decide +kernel)) (fI_n4 _) rfl (by first | decide | omega) ?_
      have e : k = n.toNat := by omega
      subst e
      refine sp_ntz8 m1 m2 (fK1 ?_)
      rw [m3]
      refine fx_ret (by decide +kernel) ?_
      exact kq
    · refine fx_li 2 10 (by decide +kernel) rfl ?_
      refine fx_li 2 11 (by decide +kernel) rfl ?_
      refine fx_ci (1) 12 (by decide +kernel) ?_
      refine fx_sub 13 (by decide +kernel) rfl ?_
      refine fx_bin 3 14 (by decide +kernel) rfl (fun h => absurd h (by decide)) ?_
      refine fx_si 2 15 (by decide +kernel) (Or.inr (fI_n4 _)) rfl ?_
      dsimp only [List.set]
      refine fx_inc 3 18 (1) (by decide +kernel) rfl (Or.inr (fI_n4 _)) rfl ?_
      dsimp only [List.set]
      refine fx_go 4 (by decide +kernel) ?_
      match l, hl with
      | 0, hl => exfalso; omega
      | l + 1, hl => exact sp_cmem_1 s0 s1 n0 n1 kq l (k + 1) (by omega)
theorem sp_cmem {s n : Int} (s0 : 0 ≤ s) (s1 : s ≤ 255) (n0 : 0 ≤ n) (n1 : n < pB s 31) (kq : Q 1 (fI (pKt s n)) g) : fx W r 1 164 0 [fI s, fI n, 7, 7] [] g Q := by
  refine fx_li 0 1 (by decide +kernel) rfl ?_
  refine fx_si 2 2 (by decide +kernel) (Or.inr (fI_n4 _)) rfl ?_
  dsimp only [List.set]
  refine fx_ci (0) 3 (by decide +kernel) ?_
  refine fx_si 3 4 (by decide +kernel) (Or.inr (fI_n4 _)) rfl ?_
  dsimp only [List.set]
  exact sp_cmem_1 s0 s1 n0 n1 kq n.toNat 0 (by omega)
theorem sp_mkth_1 {s k : Int} (hk : fR k) (kq : Q 1 (fI (pKt s k)) g) : ∀ (l : Nat) (i n : Int), i + l = 8 → 0 ≤ i → 0 ≤ n → n ≤ i → pKl s k l i n = pKt s k → fx W r 1 329 4 [fI s, fI k, fI n, fI i] [] g Q
  | l, i, n, hl, i0, n0, ni, e => by
    have hk2 := hk
    unfold fR at hk2
    refine fx_li 3 5 (by decide +kernel) rfl ?_
    refine fx_ci (8) 7 (by decide +kernel) ?_
    refine fx_ige 37 10 (by decide +kernel) (by unfold fR; omega) (by unfold fR; omega) (fun h7 => ?_) (fun h7 => ?_)
    · refine fx_cn (-1) 38 (by decide +kernel) (fun v37 c37 => ?_)
      refine fx_ret (by decide +kernel) ?_
      have e0 : l = 0 := by omega
      subst e0
      have e : (-1 : Int) = pKt s k := e
      rw [c37, e]
      exact kq
    · refine fx_li 0 11 (by decide +kernel) rfl ?_
      refine fx_li 3 12 (by decide +kernel) rfl ?_
      refine fx_c2 306 22 15 0 [] (f_q22 (by decide +kernel)) (by decide) (fI_n4 _) (fI_n4 _) rfl (by first | decide | omega) ?_
      refine sp_misOf (fK1 ?_)
      have h01 := fbt_01 s i
      obtain ⟨l', rfl⟩ : ∃ l', l = l' + 1 := ⟨l - 1, by omega⟩
      have e : (if fbt s i = 1 then (if n = k then i else pKl s k l' (i + 1) (n + 1)) else pKl s k l' (i + 1) n) = pKt s k := e
      refine fx_zne 21 18 (by decide +kernel) (by unfold fR; omega) (fun h15 => ?_) (fun h15 => ?_)
      · refine fx_li 2 22 (by decide +kernel) rfl ?_
        refine fx_li 1 23 (by decide +kernel) rfl ?_
        refine fx_ine 28 26 (by decide +kernel) (by unfold fR; omega) (by unfold fR; omega) (fun h23 => ?_) (fun h23 => ?_)
        · refine fx_inc 2 31 (1) (by decide +kernel) rfl (Or.inr (fI_n4 _)) rfl ?_
          dsimp only [List.set]
          refine fx_inc 3 34 (1) (by decide +kernel) rfl (Or.inr (fI_n4 _)) rfl ?_
          dsimp only [List.set]
          refine fx_go 4 (by decide +kernel) ?_
          rw [if_pos (by omega), if_neg (by omega)] at e
          exact sp_mkth_1 hk kq l' (i + 1) (n + 1) (by omega) (by omega) (by omega) (by omega) e
        · refine fx_li 3 27 (by decide +kernel) rfl ?_
          refine fx_ret (by decide +kernel) ?_
          rw [if_pos (by omega), if_pos (by omega)] at e
          rw [e]
          exact kq
      · refine fx_go 31 (by decide +kernel) ?_
        refine fx_inc 3 34 (1) (by decide +kernel) rfl (Or.inr (fI_n4 _)) rfl ?_
        dsimp only [List.set]
        refine fx_go 4 (by decide +kernel) ?_
        rw [if_neg (by omega)] at e
        exact sp_mkth_1 hk kq l' (i + 1) n (by omega) (by omega) (by omega) (by omega) e
theorem sp_mkth {s k : Int} (hk : fR k) (kq : Q 1 (fI (pKt s k)) g) : fx W r 1 329 0 [fI s, fI k, 7, 7] [] g Q := by
  refine fx_ci (0) 1 (by decide +kernel) ?_
  refine fx_si 2 2 (by decide +kernel) (Or.inr (fI_n4 _)) rfl ?_
  dsimp only [List.set]
  refine fx_ci (0) 3 (by decide +kernel) ?_
  refine fx_si 3 4 (by decide +kernel) (Or.inr (fI_n4 _)) rfl ?_
  dsimp only [List.set]
  exact sp_mkth_1 hk kq 8 0 0 rfl (by decide) (by decide) (by decide) rfl
theorem sp_mdraw {G : Nat → Nat → Int} {t : Nat → Int} {n : Int} (n0 : 0 < n) (n1 : n ≤ 2147483647) (kq : Q 1 (fI (fop 10 (dwS (nxS (t 11))) n)) (frow G (tU t 11 (nxS (t 11))))) : fx W r 0 327 0 [1186, fI n] [] (frow G t) Q := by
  unfold dwS nxS at kq
  refine fx_la 0 1 (v := 1186) (by decide +kernel) rfl (by decide +kernel) ?_
  refine fx_gp 1186 148 1 1194 4 (by decide +kernel) ?_
  refine fx_ci (11) 6 (by decide +kernel) ?_
  refine fx_ci (1103515245) 8 (by decide +kernel) ?_
  refine fx_la 0 9 (v := 1186) (by decide +kernel) rfl (by decide +kernel) ?_
  refine fx_gp 1186 148 1 1194 12 (by decide +kernel) ?_
  refine fx_ci (11) 14 (by decide +kernel) ?_
  refine fx_al 1194 149 764 15 (by decide +kernel) rfl (by omega) (by omega) rfl ?_
  try simp only [fu_app, fcy_app, Nat.reduceEqDiff, and_true, and_false, false_and, true_and, if_true, if_false, ite_true, ite_false, reduceIte, Int.reduceToNat, fx_simp0]
  rw [frow_m]
  refine fx_mul 16 (by decide +kernel) rfl ?_
  refine fx_ci (12345) 19 (by decide +kernel) ?_
  refine fx_add 20 (by decide +kernel) rfl ?_
  rw [show fI (1103515245 * t 11 + 12345) = fI (fop 0 (1103515245 * t 11) 12345) from (fI_add _ _).symm]
  have rs := fop_R 0 (1103515245 * t 11) 12345
  unfold fR at rs
  refine fx_as 1194 149 764 21 (by decide +kernel) rfl (by omega) (by omega) rfl (by unfold fR; omega) ?_
  refine fx_la 0 22 (v := 1186) (by decide +kernel) rfl (by decide +kernel) ?_
  refine fx_gp 1186 148 1 1194 25 (by decide +kernel) ?_
  refine fx_ci (11) 27 (by decide +kernel) ?_
  refine fx_al 1194 149 764 28 (by decide +kernel) rfl (by omega) (by omega) rfl ?_
  try simp only [fu_app, fcy_app, Nat.reduceEqDiff, and_true, and_false, false_and, true_and, if_true, if_false, ite_true, ite_false, reduceIte, Int.reduceToNat, fx_simp0]
  rw [frow_fu]
  refine fx_ci (16) 30 (by decide +kernel) ?_
  refine fx_bin 8 31 (by decide +kernel) rfl (fun h => absurd h (by decide)) ?_
  refine fx_ci (32767) 34 (by decide +kernel) ?_
  refine fx_bin 3 35 (by decide +kernel) rfl (fun h => absurd h (by decide)) ?_
  refine fx_li 1 36 (by decide +kernel) rfl ?_
  refine fx_bin 10 37 (by decide +kernel) rfl (fun _ => i32_n0 n0 n1) ?_
  refine fx_ret (by decide +kernel) ?_
  exact kq
theorem sp_cdraw_table (kq : Q 1 (fI (dwS (nxS (g 16 10)))) (fu g 16 10 (nxS (g 16 10)))) : fx W r 0 163 0 [130] [] g Q := by
  unfold dwS nxS at kq
  refine fx_la 0 1 (v := 130) (by decide +kernel) rfl (by decide +kernel) ?_
  refine fx_ci (1103515245) 3 (by decide +kernel) ?_
  refine fx_la 0 4 (v := 130) (by decide +kernel) rfl (by decide +kernel) ?_
  refine fx_gi 130 16 10 7 (by decide +kernel) ?_
  refine fx_mul 8 (by decide +kernel) rfl ?_
  refine fx_ci (12345) 11 (by decide +kernel) ?_
  refine fx_add 12 (by decide +kernel) rfl ?_
  rw [show fI (1103515245 * g 16 10 + 12345) = fI (fop 0 (1103515245 * g 16 10) 12345) from (fI_add _ _).symm]
  have rs := fop_R 0 (1103515245 * g 16 10) 12345
  unfold fR at rs
  refine fx_pi 130 16 10 15 (by decide +kernel) (by unfold fR; omega) ?_
  refine fx_la 0 16 (v := 130) (by decide +kernel) rfl (by decide +kernel) ?_
  refine fx_gi 130 16 10 19 (by decide +kernel) ?_
  try simp only [fu_app, fcy_app, Nat.reduceEqDiff, and_true, and_false, false_and, true_and, if_true, if_false, ite_true, ite_false, reduceIte, Int.reduceToNat, fx_simp0]
  refine fx_ci (16) 21 (by decide +kernel) ?_
  refine fx_bin 8 22 (by decide +kernel) rfl (fun h => absurd h (by decide)) ?_
  refine fx_ci (32767) 25 (by decide +kernel) ?_
  refine fx_bin 3 26 (by decide +kernel) rfl (fun h => absurd h (by decide)) ?_
  refine fx_ret (by decide +kernel) ?_
  exact kq
theorem sp_cdraw_scratch (kq : Q 1 (fI (dwS (nxS (g 22 10)))) (fu g 22 10 (nxS (g 22 10)))) : fx W r 0 163 0 [178] [] g Q := by
  unfold dwS nxS at kq
  refine fx_la 0 1 (v := 178) (by decide +kernel) rfl (by decide +kernel) ?_
  refine fx_ci (1103515245) 3 (by decide +kernel) ?_
  refine fx_la 0 4 (v := 178) (by decide +kernel) rfl (by decide +kernel) ?_
  refine fx_gi 178 22 10 7 (by decide +kernel) ?_
  refine fx_mul 8 (by decide +kernel) rfl ?_
  refine fx_ci (12345) 11 (by decide +kernel) ?_
  refine fx_add 12 (by decide +kernel) rfl ?_
  rw [show fI (1103515245 * g 22 10 + 12345) = fI (fop 0 (1103515245 * g 22 10) 12345) from (fI_add _ _).symm]
  have rs := fop_R 0 (1103515245 * g 22 10) 12345
  unfold fR at rs
  refine fx_pi 178 22 10 15 (by decide +kernel) (by unfold fR; omega) ?_
  refine fx_la 0 16 (v := 178) (by decide +kernel) rfl (by decide +kernel) ?_
  refine fx_gi 178 22 10 19 (by decide +kernel) ?_
  try simp only [fu_app, fcy_app, Nat.reduceEqDiff, and_true, and_false, false_and, true_and, if_true, if_false, ite_true, ite_false, reduceIte, Int.reduceToNat, fx_simp0]
  refine fx_ci (16) 21 (by decide +kernel) ?_
  refine fx_bin 8 22 (by decide +kernel) rfl (fun h => absurd h (by decide)) ?_
  refine fx_ci (32767) 25 (by decide +kernel) ?_
  refine fx_bin 3 26 (by decide +kernel) rfl (fun h => absurd h (by decide)) ?_
  refine fx_ret (by decide +kernel) ?_
  exact kq
end FIH
end
section
/-! fx: a night: the reference -/
/-- what the walks of a night need of a row -/
def NB (t : Nat → Int) : Prop := (0 ≤ t 3 ∧ t 3 ≤ 8) ∧ (0 ≤ t 4 ∧ t 4 ≤ 6) ∧ (1 ≤ t 7 ∧ t 7 ≤ 99) ∧ (0 ≤ t 9 ∧ t 9 ≤ 9999) ∧ (0 ≤ t 10 ∧ t 10 ≤ 60) ∧ (∀ p : Nat, p < 8 → -1 ≤ t (12 + 7 * p) ∧ t (12 + 7 * p) ≤ 7) ∧ (∀ p : Nat, p < 8 → 0 ≤ t (18 + 7 * p) ∧ t (18 + 7 * p) ≤ 99) ∧ (∀ j : Nat, j < 8 → 0 ≤ t (116 + j) ∧ t (116 + j) ≤ 255) ∧ (∀ j : Nat, (j : Int) < 8 * t 4 → 0 ≤ t (68 + j) ∧ t (68 + j) ≤ 9)
/-- what a night leaves as it is -/
def NF (t t' : Nat → Int) : Prop := ∀ k, ¬ (k = 9 ∨ k = 10 ∨ k = 11 ∨ (12 ≤ k ∧ k < 68 ∧ ((k - 12) % 7 = 0 ∨ (k - 12) % 7 = 6)) ∨ (124 ≤ k ∧ k < 364)) → t' k = t k
theorem NF.rf {t : Nat → Int} : NF t t := fun _ _ => rfl
theorem NF.tr {t t1 t2 : Nat → Int} (h : NF t t1) (h2 : NF t1 t2) : NF t t2 := fun k hk => by rw [h2 k hk, h k hk]
theorem NF.u {t : Nat → Int} {k : Nat} {z : Int} (hk : k = 9 ∨ k = 10 ∨ k = 11 ∨ (12 ≤ k ∧ k < 68 ∧ ((k - 12) % 7 = 0 ∨ (k - 12) % 7 = 6))) : NF t (tU t k z) := fun j hj => tU_ne (by omega)
theorem NF.nt {t : Nat → Int} {p k w : Int} : NF t (tNote t p k w) := fun j hj => by
  unfold tNote
  rw [if_neg (by omega), if_neg (by omega), if_neg (by omega), if_neg (by omega), if_neg (by omega), if_neg (by omega)]
theorem LwR.nf {t t' : Nat → Int} {segs : List (List Int × Int × Int)} (h : LwR t segs) (hf : NF t t') : LwR t' segs := by
  obtain ⟨h1, h2, h3, h4⟩ := h
  have e1 := hf 1 (by decide)
  have e2 := hf 2 (by decide)
  have ex : ∀ k : Nat, k < 400 → t' (364 + k) = t (364 + k) := fun k hk => hf _ (by omega)
  refine ⟨fun k hk => by rw [ex k hk]; exact h1 k hk, by rw [e2]; exact h2, ?_, h4⟩
  rw [e1, e2]
  rcases h3 with h3 | ⟨a1, a2⟩
  · exact Or.inl h3
  · refine Or.inr ⟨?_, a2⟩
    rw [← a1]
    refine lawR_n h2.1 (fun k hk => ?_) (tTx_0 _) (tTx_0 _)
    unfold tTx
    exact ex _ (by omega)
theorem tU_tU (t : Nat → Int) (k : Nat) (y z : Int) : tU (tU t k y) k z = tU t k z := by
  funext j
  unfold tU
  split <;> rfl
/-- one goes, or stays -/
noncomputable def wanT (t : Nat → Int) (p : Nat) : Nat → Int :=
  if fop 10 (dwS (nxS (t 11))) 100 < t 6 then
    (if t (116 + (t (12 + 7 * p)).toNat) = 0 then tU t 11 (nxS (t 11)) else tU (tU t 11 (nxS (nxS (t 11)))) (12 + 7 * p + 0) (pKt (t (116 + (t (12 + 7 * p)).toNat)) (fop 10 (dwS (nxS (nxS (t 11)))) (pB (t (116 + (t (12 + 7 * p)).toNat)) 31))))
  else tU t 11 (nxS (t 11))
noncomputable def wan1 (t : Nat → Int) (p : Nat) : Nat → Int := if t (12 + 7 * p) ≠ -1 ∧ t (17 + 7 * p) ≠ 1 then wanT t p else t
noncomputable def wanL : Nat → Nat → (Nat → Int) → Nat → Int
  | 0, _, t => t
  | l + 1, p, t => wanL l (p + 1) (wan1 t p)
noncomputable def eaT (segs : List (List Int × Int × Int)) (d : Int) (t : Nat → Int) (p : Nat) : Nat → Int :=
  if eV t segs p (t (12 + 7 * p)) d = 0 then
    (if t (18 + 7 * p) < t 7 ∧ (if 99 < t (18 + 7 * p) + 1 then 99 else t (18 + 7 * p) + 1) = t 7 then tNote (tU t (12 + 7 * p + 6) (if 99 < t (18 + 7 * p) + 1 then 99 else t (18 + 7 * p) + 1)) p 3 (t (12 + 7 * p)) else tU t (12 + 7 * p + 6) (if 99 < t (18 + 7 * p) + 1 then 99 else t (18 + 7 * p) + 1))
  else tU t (12 + 7 * p + 6) 0
noncomputable def ea1 (segs : List (List Int × Int × Int)) (d : Int) (t : Nat → Int) (p : Nat) : Nat → Int := if t (12 + 7 * p) ≠ -1 ∧ t (17 + 7 * p) ≠ 1 then eaT segs d t p else t
noncomputable def eaL (segs : List (List Int × Int × Int)) (d : Int) : Nat → Nat → (Nat → Int) → Nat → Int
  | 0, _, t => t
  | l + 1, p, t => eaL segs d l (p + 1) (ea1 segs d t p)
noncomputable def eaN (segs : List (List Int × Int × Int)) (d : Int) : Nat → Nat → (Nat → Int) → Int → Int
  | 0, _, _, n => n
  | l + 1, p, t, n => eaN segs d l (p + 1) (ea1 segs d t p) (if (t (12 + 7 * p) ≠ -1 ∧ t (17 + 7 * p) ≠ 1) ∧ eV t segs p (t (12 + 7 * p)) d = 0 then n + 1 else n)
noncomputable def niW (dr : Bool) (t : Nat → Int) : Nat → Int := cond dr (wanL (t 3).toNat 0 t) t
noncomputable def niE (segs : List (List Int × Int × Int)) (d : Int) (t : Nat → Int) : Nat → Int := if d = -1 then t else eaL segs d (t 3).toNat 0 t
noncomputable def niN (segs : List (List Int × Int × Int)) (d : Int) (t : Nat → Int) : Int := if d = -1 then 0 else eaN segs d (t 3).toNat 0 t 0
/-- a night of a dish -/
noncomputable def niT (segs : List (List Int × Int × Int)) (d : Int) (dr : Bool) (t : Nat → Int) : Nat → Int := tU (niE segs d (niW dr t)) 9 (if 9999 < niE segs d (niW dr t) 9 + 1 then 9999 else niE segs d (niW dr t) 9 + 1)
def dsT (t : Nat → Int) : Int := if t 4 = 0 then -1 else t 9 % t 4
noncomputable def goL (segs : List (List Int × Int × Int)) (dr : Bool) : Nat → (Nat → Int) → Nat → Int
  | 0, t => t
  | n + 1, t => goL segs dr n (niT segs (dsT t) dr t)
noncomputable def goN (segs : List (List Int × Int × Int)) (dr : Bool) : Nat → (Nat → Int) → Int → Int
  | 0, _, a => a
  | n + 1, t, a => goN segs dr n (niT segs (dsT t) dr t) (a + niN segs (dsT t) (niW dr t))
/-- a row that a night may begin with -/
def NI (t : Nat → Int) : Prop := NB t ∧ RIv t
theorem wanT_ok {t : Nat → Int} {p : Nat} (h : NI t) (hp : p < 8) (ha : t (12 + 7 * p) ≠ -1) : NI (wanT t p) ∧ NF t (wanT t p) := by
  obtain ⟨⟨b3, b4, b7, b9, b10, bp, bc, br, be⟩, i1, i2, i3⟩ := h
  have s : NI (tU t 11 (nxS (t 11))) ∧ NF t (tU t 11 (nxS (t 11))) := by
    refine ⟨⟨⟨b3, b4, b7, b9, b10, fun q hq => ?_, fun q hq => ?_, fun j hj => ?_, fun j hj => ?_⟩, RIv_u ⟨i1, i2, i3⟩ ⟨by decide, Or.inl (by decide)⟩⟩, NF.u (by decide)⟩
    · rw [tU_ne (by omega)]; exact bp q hq
    · rw [tU_ne (by omega)]; exact bc q hq
    · rw [tU_ne (by omega)]; exact br j hj
    · rw [tU_ne (by omega)]; exact be j hj
  have bpp := bp p hp
  unfold wanT
  by_cases c1 : fop 10 (dwS (nxS (t 11))) 100 < t 6
  · rw [if_pos c1]
    by_cases c2 : t (116 + (t (12 + 7 * p)).toNat) = 0
    · rw [if_pos c2]; exact s
    · rw [if_neg c2]
      have rb := br (t (12 + 7 * p)).toNat (by omega)
      have hb := pB_b rb.1 rb.2
      have dw := dwS_b (nxS (nxS (t 11)))
      have n1 := hb.2.2.1 c2
      have rm := fop_rm_b (d := dwS (nxS (nxS (t 11)))) (n := pB (t (116 + (t (12 + 7 * p)).toNat)) 31) dw.1 (by omega) (by omega) (by omega)
      obtain ⟨-, -, -, k0, k1⟩ := pM_ok rb.1 rb.2 rm.1 rm.2
      generalize pKt (t (116 + (t (12 + 7 * p)).toNat)) (fop 10 (dwS (nxS (nxS (t 11)))) (pB (t (116 + (t (12 + 7 * p)).toNat)) 31)) = z at k0 k1 ⊢
      generalize nxS (nxS (t 11)) = y
      have ne : ∀ k, k ≠ 11 → k ≠ 12 + 7 * p + 0 → tU (tU t 11 y) (12 + 7 * p + 0) z k = t k := fun k h1 h2 => by rw [tU_ne h2, tU_ne h1]
      have nz : tU (tU t 11 y) (12 + 7 * p + 0) z (12 + 7 * p) = z := tU_eq _ _ _
      refine ⟨⟨⟨by rw [ne _ (by decide) (by omega)]; exact b3, by rw [ne _ (by decide) (by omega)]; exact b4, by rw [ne _ (by decide) (by omega)]; exact b7, by rw [ne _ (by decide) (by omega)]; exact b9, by rw [ne _ (by decide) (by omega)]; exact b10, fun q hq => ?_, fun q hq => ?_, fun j hj => ?_, fun j hj => ?_⟩, fun q hq => ?_, fun q hq => ?_, fun q hq => ?_⟩, (NF.u (by decide)).tr (NF.u (by omega))⟩
      · by_cases e : q = p
        · subst e; rw [nz]; omega
        · rw [ne _ (by omega) (by omega)]; exact bp q hq
      · rw [ne _ (by omega) (by omega)]; exact bc q hq
      · rw [ne _ (by omega) (by omega)]; exact br j hj
      · rw [ne 4 (by decide) (by omega)] at hj
        rw [ne _ (by omega) (by omega)]; exact be j hj
      · by_cases e : q = p
        · subst e; rw [nz]; intro u; exfalso; omega
        · rw [ne _ (by omega) (by omega), ne _ (by omega) (by omega)]; exact i1 q hq
      · by_cases e : q = p
        · subst e; rw [nz]; intro _; omega
        · rw [ne _ (by omega) (by omega), ne _ (by omega) (by omega)]; exact i2 q hq
      · rw [ne _ (by decide) (by omega), ne _ (by omega) (by omega)]; exact i3 q hq
  · rw [if_neg c1]; exact s
theorem wan1_ok {t : Nat → Int} {p : Nat} (h : NI t) (hp : p < 8) : NI (wan1 t p) ∧ NF t (wan1 t p) := by
  unfold wan1
  by_cases c : t (12 + 7 * p) ≠ -1 ∧ t (17 + 7 * p) ≠ 1
  · rw [if_pos c]; exact wanT_ok h hp c.1
  · rw [if_neg c]; exact ⟨h, NF.rf⟩
theorem cold_ok {t : Nat → Int} {p : Nat} {v : Int} (h : NI t) (hp : p < 8) (ha : t (12 + 7 * p) ≠ -1) (v0 : 0 ≤ v) (v1 : v ≤ 99) : NI (tU t (12 + 7 * p + 6) v) ∧ NF t (tU t (12 + 7 * p + 6) v) := by
  obtain ⟨⟨b3, b4, b7, b9, b10, bp, bc, br, be⟩, i1, i2, i3⟩ := h
  refine ⟨⟨⟨by rw [tU_ne (by omega)]; exact b3, by rw [tU_ne (by omega)]; exact b4, by rw [tU_ne (by omega)]; exact b7, by rw [tU_ne (by omega)]; exact b9, by rw [tU_ne (by omega)]; exact b10, fun q hq => ?_, fun q hq => ?_, fun j hj => ?_, fun j hj => ?_⟩, fun q hq => ?_, fun q hq => ?_, fun q hq => ?_⟩, NF.u (by omega)⟩
  · rw [tU_ne (by omega)]; exact bp q hq
  · by_cases e : q = p
    · subst e; rw [show 18 + 7 * q = 12 + 7 * q + 6 by omega, tU_eq]; exact ⟨v0, v1⟩
    · rw [tU_ne (by omega)]; exact bc q hq
  · rw [tU_ne (by omega)]; exact br j hj
  · rw [tU_ne (by omega)] at hj
    rw [tU_ne (by omega)]; exact be j hj
  · by_cases e : q = p
    · subst e; rw [tU_ne (by omega)]; intro u; exact absurd u ha
    · rw [tU_ne (by omega), tU_ne (by omega)]; exact i1 q hq
  · rw [tU_ne (by omega), tU_ne (by omega)]; exact i2 q hq
  · rw [tU_ne (by omega), tU_ne (by omega)]; exact i3 q hq
theorem note_ok {t : Nat → Int} {p k w : Int} (h : NI t) : NI (tNote t p k w) := by
  obtain ⟨⟨b3, b4, b7, b9, b10, bp, bc, br, be⟩, i⟩ := h
  have tn : ∀ j, j < 124 → j ≠ 10 → tNote t p k w j = t j := fun j h1 h2 => by
    unfold tNote
    rw [if_neg h2, if_neg (by omega), if_neg (by omega), if_neg (by omega), if_neg (by omega), if_neg (by omega)]
  have t10 : tNote t p k w 10 = (if 60 < t 10 + 1 then 60 else t 10 + 1) := if_pos rfl
  refine ⟨⟨by rw [tn _ (by decide) (by decide)]; exact b3, by rw [tn _ (by decide) (by decide)]; exact b4, by rw [tn _ (by decide) (by decide)]; exact b7, by rw [tn _ (by decide) (by decide)]; exact b9, by rw [t10]; split <;> omega, fun q hq => ?_, fun q hq => ?_, fun j hj => ?_, fun j hj => ?_⟩, RIv_note i⟩
  · rw [tn _ (by omega) (by omega)]; exact bp q hq
  · rw [tn _ (by omega) (by omega)]; exact bc q hq
  · rw [tn _ (by omega) (by omega)]; exact br j hj
  · rw [tn 4 (by decide) (by decide)] at hj
    rw [tn _ (by omega) (by omega)]; exact be j hj
theorem eaT_ok {segs : List (List Int × Int × Int)} {d : Int} {t : Nat → Int} {p : Nat} (h : NI t) (hp : p < 8) (ha : t (12 + 7 * p) ≠ -1) : NI (eaT segs d t p) ∧ NF t (eaT segs d t p) := by
  have bc := h.1.2.2.2.2.2.2.1 p hp
  unfold eaT
  by_cases c1 : eV t segs p (t (12 + 7 * p)) d = 0
  · rw [if_pos c1]
    generalize hv : (if 99 < t (18 + 7 * p) + 1 then 99 else t (18 + 7 * p) + 1) = v
    have hv2 : 0 ≤ v ∧ v ≤ 99 := by rw [← hv]; split <;> omega
    have k := cold_ok (v := v) h hp ha hv2.1 hv2.2
    by_cases c2 : t (18 + 7 * p) < t 7 ∧ v = t 7
    · rw [if_pos c2]
      exact ⟨note_ok k.1, k.2.tr NF.nt⟩
    · rw [if_neg c2]; exact k
  · rw [if_neg c1]
    exact cold_ok h hp ha (by decide) (by decide)
theorem ea1_ok {segs : List (List Int × Int × Int)} {d : Int} {t : Nat → Int} {p : Nat} (h : NI t) (hp : p < 8) : NI (ea1 segs d t p) ∧ NF t (ea1 segs d t p) := by
  unfold ea1
  by_cases c : t (12 + 7 * p) ≠ -1 ∧ t (17 + 7 * p) ≠ 1
  · rw [if_pos c]; exact eaT_ok h hp c.1
  · rw [if_neg c]; exact ⟨h, NF.rf⟩
theorem wanL_ok : ∀ (l p : Nat) (t : Nat → Int), NI t → p + l ≤ 8 → NI (wanL l p t) ∧ NF t (wanL l p t)
  | 0, _, _, h, _ => ⟨h, NF.rf⟩
  | l + 1, p, t, h, hl => by
    have a := wan1_ok (p := p) h (by omega)
    have b := wanL_ok l (p + 1) _ a.1 (by omega)
    exact ⟨b.1, a.2.tr b.2⟩
theorem eaL_ok {segs : List (List Int × Int × Int)} {d : Int} : ∀ (l p : Nat) (t : Nat → Int), NI t → p + l ≤ 8 → NI (eaL segs d l p t) ∧ NF t (eaL segs d l p t)
  | 0, _, _, h, _ => ⟨h, NF.rf⟩
  | l + 1, p, t, h, hl => by
    have a := ea1_ok (segs := segs) (d := d) (p := p) h (by omega)
    have b := eaL_ok (segs := segs) (d := d) l (p + 1) _ a.1 (by omega)
    exact ⟨b.1, a.2.tr b.2⟩
theorem eaN_b {segs : List (List Int × Int × Int)} {d : Int} : ∀ (l p : Nat) (t : Nat → Int) (n : Int), n ≤ eaN segs d l p t n ∧ eaN segs d l p t n ≤ n + l
  | 0, _, _, n => ⟨Int.le_refl n, by show n ≤ n + 0; omega⟩
  | l + 1, p, t, n => by
    have h := eaN_b (segs := segs) (d := d) l (p + 1) (ea1 segs d t p) (if (t (12 + 7 * p) ≠ -1 ∧ t (17 + 7 * p) ≠ 1) ∧ eV t segs p (t (12 + 7 * p)) d = 0 then n + 1 else n)
    have e : eaN segs d (l + 1) p t n = eaN segs d l (p + 1) (ea1 segs d t p) (if (t (12 + 7 * p) ≠ -1 ∧ t (17 + 7 * p) ≠ 1) ∧ eV t segs p (t (12 + 7 * p)) d = 0 then n + 1 else n) := rfl
    rw [e]
    have hx : (if (t (12 + 7 * p) ≠ -1 ∧ t (17 + 7 * p) ≠ 1) ∧ eV t segs p (t (12 + 7 * p)) d = 0 then n + 1 else n) = n + 1 ∨ (if (t (12 + 7 * p) ≠ -1 ∧ t (17 + 7 * p) ≠ 1) ∧ eV t segs p (t (12 + 7 * p)) d = 0 then n + 1 else n) = n := by
      split
      · exact Or.inl rfl
      · exact Or.inr rfl
    generalize (if (t (12 + 7 * p) ≠ -1 ∧ t (17 + 7 * p) ≠ 1) ∧ eV t segs p (t (12 + 7 * p)) d = 0 then n + 1 else n) = z at h hx ⊢
    omega
theorem niW_ok {dr : Bool} {t : Nat → Int} (h : NI t) : NI (niW dr t) ∧ NF t (niW dr t) := by
  unfold niW
  cases dr
  · exact ⟨h, NF.rf⟩
  · have := h.1.1
    exact wanL_ok _ _ _ h (by omega)
theorem niE_ok {segs : List (List Int × Int × Int)} {d : Int} {t : Nat → Int} (h : NI t) : NI (niE segs d t) ∧ NF t (niE segs d t) := by
  unfold niE
  split
  · exact ⟨h, NF.rf⟩
  · have := h.1.1
    exact eaL_ok _ _ _ h (by omega)
theorem niN_b {segs : List (List Int × Int × Int)} {d : Int} {t : Nat → Int} (h : NI t) : 0 ≤ niN segs d t ∧ niN segs d t ≤ 8 := by
  unfold niN
  split
  · omega
  · have := h.1.1
    have := eaN_b (segs := segs) (d := d) (t 3).toNat 0 t 0
    omega
theorem ni9_ok {t : Nat → Int} {v : Int} (h : NI t) (v0 : 0 ≤ v) (v1 : v ≤ 9999) : NI (tU t 9 v) ∧ NF t (tU t 9 v) := by
  obtain ⟨⟨b3, b4, b7, b9, b10, bp, bc, br, be⟩, i⟩ := h
  refine ⟨⟨⟨b3, b4, b7, ⟨v0, v1⟩, b10, fun q hq => ?_, fun q hq => ?_, fun j hj => ?_, fun j hj => ?_⟩, RIv_u i ⟨by decide, Or.inl (by decide)⟩⟩, NF.u (by decide)⟩
  · rw [tU_ne (by omega)]; exact bp q hq
  · rw [tU_ne (by omega)]; exact bc q hq
  · rw [tU_ne (by omega)]; exact br j hj
  · rw [tU_ne (by omega)]; exact be j hj
theorem niT_ok {segs : List (List Int × Int × Int)} {d : Int} {dr : Bool} {t : Nat → Int} (h : NI t) : NI (niT segs d dr t) ∧ NF t (niT segs d dr t) := by
  have a := niW_ok (dr := dr) h
  have b := niE_ok (segs := segs) (d := d) a.1
  have b9 := b.1.1.2.2.2.1
  unfold niT
  have c := ni9_ok (v := if 9999 < niE segs d (niW dr t) 9 + 1 then 9999 else niE segs d (niW dr t) 9 + 1) b.1 (by split <;> omega) (by split <;> omega)
  exact ⟨c.1, (a.2.tr b.2).tr c.2⟩
theorem goL_ok {segs : List (List Int × Int × Int)} {dr : Bool} : ∀ (n : Nat) (t : Nat → Int), NI t → NI (goL segs dr n t) ∧ NF t (goL segs dr n t)
  | 0, _, h => ⟨h, NF.rf⟩
  | n + 1, t, h => by
    have a := niT_ok (segs := segs) (d := dsT t) (dr := dr) h
    have b := goL_ok (segs := segs) (dr := dr) n _ a.1
    exact ⟨b.1, a.2.tr b.2⟩
theorem goN_b {segs : List (List Int × Int × Int)} {dr : Bool} : ∀ (n : Nat) (t : Nat → Int) (a : Int), NI t → a ≤ goN segs dr n t a ∧ goN segs dr n t a ≤ a + 8 * n
  | 0, _, a, _ => ⟨Int.le_refl a, by show a ≤ a + 8 * 0; omega⟩
  | n + 1, t, a, h => by
    have b := niT_ok (segs := segs) (d := dsT t) (dr := dr) h
    have c := niN_b (segs := segs) (d := dsT t) (niW_ok (dr := dr) h).1
    have e := goN_b (segs := segs) (dr := dr) n (niT segs (dsT t) dr t) (a + niN segs (dsT t) (niW dr t)) b.1
    have e2 : goN segs dr (n + 1) t a = goN segs dr n (niT segs (dsT t) dr t) (a + niN segs (dsT t) (niW dr t)) := rfl
    rw [e2]
    omega
theorem dsT_b {t : Nat → Int} (h : NI t) : -1 ≤ dsT t ∧ dsT t ≤ 5 ∧ (dsT t ≠ -1 → 0 ≤ dsT t ∧ dsT t < t 4) := by
  have b4 := h.1.2.1
  have b9 := h.1.2.2.2.1
  unfold dsT
  by_cases c : t 4 = 0
  · rw [if_pos c]; omega
  · rw [if_neg c]
    have m0 : 0 ≤ t 9 % t 4 := Int.emod_nonneg _ c
    have m1 : t 9 % t 4 < t 4 := Int.emod_lt_of_pos _ (by omega)
    omega
section FII
variable {W : ax_W} {r : Nat} {G : Nat → Nat → Int} {t : Nat → Int} {Q : Nat → Nat → (Nat → Nat → Int) → Prop} {segs : List (List Int × Int × Int)}
theorem sp_mwanders {p : Nat} (h : NB t) (hp : p < 8) (ha : t (12 + 7 * p) ≠ -1) (kq : Q 0 0 (frow G (wanT t p))) : fx W r 2 326 0 [1186, fI (p : Int), 7] [] (frow G t) Q := by
  refine fx_rg (fun hg => ?_)
  have r6 := hgA hg 764 (c := 149) (j := 6) (by decide +kernel) (by decide)
  rw [frow_m] at r6
  unfold fR at r6
  obtain ⟨b3, b4, b7, b9, b10, bp, bc, br, be⟩ := h
  have bpp := bp p hp
  have rb := br (t (12 + 7 * p)).toNat (by omega)
  have hb := pB_b rb.1 rb.2
  have d1 := dwS_b (nxS (t 11))
  have d2 := dwS_b (nxS (nxS (t 11)))
  have m1 := fop_rm_b (d := dwS (nxS (t 11))) (n := 100) d1.1 (by omega) (by decide) (by decide)
  unfold wanT at kq
  refine fx_la 0 1 (v := 1186) (by decide +kernel) rfl (by decide +kernel) ?_
  refine fx_ci (100) 3 (by decide +kernel) ?_
  refine fx_c2 327 21 6 0 [] (by decide +kernel) (by decide) (by decide) (fI_n4 _) rfl (by first | decide | omega) ?_
  refine sp_mdraw (by decide) (by decide) (fK1 ?_)
  refine fx_la 0 7 (v := 1186) (by decide +kernel) rfl (by decide +kernel) ?_
  refine fx_gp 1186 148 1 1194 10 (by decide +kernel) ?_
  refine fx_ci (6) 12 (by decide +kernel) ?_
  refine fx_al 1194 149 764 13 (by decide +kernel) rfl (by omega) (by omega) rfl ?_
  try simp only [fu_app, fcy_app, Nat.reduceEqDiff, and_true, and_false, false_and, true_and, if_true, if_false, ite_true, ite_false, reduceIte, Int.reduceToNat, fx_simp0]
  rw [frow_m, tU_ne (by decide)]
  refine fx_ilt 17 16 (by decide +kernel) (by unfold fR; omega) (by unfold fR; omega) (fun h13 => ?_) (fun h13 => ?_)
  · rw [if_pos (by omega)] at kq
    refine fx_la 0 18 (v := 1186) (by decide +kernel) rfl (by decide +kernel) ?_
    refine fx_gp 1186 148 1 1194 21 (by decide +kernel) ?_
    refine fx_ci (116) 23 (by decide +kernel) ?_
    refine fx_la 0 24 (v := 1186) (by decide +kernel) rfl (by decide +kernel) ?_
    refine fx_li 1 25 (by decide +kernel) rfl ?_
    refine fx_ci (0) 26 (by decide +kernel) ?_
    refine fx_c3 298 21 29 0 [] (by decide +kernel) (by decide) (by decide) (fI_n4 _) (fI_n4 _) rfl (by first | decide | omega) ?_
    refine sp_mof (w := 0) hp (by decide) (fK1 ?_)
    rw [frow_m, tU_ne (by omega), show 12 + 7 * p + 0 = 12 + 7 * p from rfl]
    refine fx_add 30 (by decide +kernel) rfl ?_
    refine fx_al 1194 149 764 31 (by decide +kernel) rfl (by omega) (by omega) rfl ?_
    try simp only [fu_app, fcy_app, Nat.reduceEqDiff, and_true, and_false, false_and, true_and, if_true, if_false, ite_true, ite_false, reduceIte, Int.reduceToNat, fx_simp0]
    rw [frow_m, show (116 + t (12 + 7 * p)).toNat = 116 + (t (12 + 7 * p)).toNat by omega, tU_ne (by omega)]
    refine fx_si 2 32 (by decide +kernel) (Or.inr (fI_n4 _)) rfl ?_
    dsimp only [List.set]
    refine fx_li 2 33 (by decide +kernel) rfl ?_
    refine fx_zeq 54 36 (by decide +kernel) (by unfold fR; omega) (fun h33 => ?_) (fun h33 => ?_)
    · refine fx_vret (by decide +kernel) ?_
      rw [if_pos (by omega)] at kq
      exact kq
    · rw [if_neg (by omega)] at kq
      have n1 := hb.2.2.1 (by omega)
      have rm := fop_rm_b (d := dwS (nxS (nxS (t 11)))) (n := pB (t (116 + (t (12 + 7 * p)).toNat)) 31) d2.1 (by omega) (by omega) (by omega)
      obtain ⟨-, -, -, k0, k1⟩ := pM_ok rb.1 rb.2 rm.1 rm.2
      refine fx_la 0 37 (v := 1186) (by decide +kernel) rfl (by decide +kernel) ?_
      refine fx_li 1 38 (by decide +kernel) rfl ?_
      refine fx_ci (0) 39 (by decide +kernel) ?_
      refine fx_li 2 40 (by decide +kernel) rfl ?_
      refine fx_la 0 41 (v := 1186) (by decide +kernel) rfl (by decide +kernel) ?_
      refine fx_li 2 42 (by decide +kernel) rfl ?_
      refine fx_c1 328 22 45 0 [7, 7] (f_q22 (by decide +kernel)) (fI_n4 _) rfl (by first | decide | omega) ?_
      refine sp_mbits8 (fK1 ?_)
      refine fx_c2 327 21 48 0 [] (by decide +kernel) (by decide) (by decide) (fI_n4 _) rfl (by first | decide | omega) ?_
      refine sp_mdraw (by omega) (by omega) (fK1 ?_)
      rw [tU_eq, tU_tU]
      refine fx_c2 329 22 51 1 [7, 7] (f_q22 (by decide +kernel)) (by decide) (fI_n4 _) (fI_n4 _) rfl (by first | decide | omega) ?_
      refine sp_mkth (fop_R _ _ _) (fK1 ?_)
      refine fx_c4 287 21 54 0 [] (by decide +kernel) (by decide) (by decide) (fI_n4 _) (fI_n4 _) (fI_n4 _) rfl (by first | decide | omega) ?_
      refine sp_mputF (w := 0) hp (by decide) (by unfold fR; omega) (fK0 ?_)
      refine fx_vret (by decide +kernel) ?_
      exact kq
  · refine fx_vret (by decide +kernel) ?_
    rw [if_neg (by omega)] at kq
    exact kq
theorem sp_mliesCold {p : Nat} {d : Int} (h : NB t) (hl : LwR t segs) (hp : p < 8) (ha : t (12 + 7 * p) ≠ -1) (hd : 0 ≤ d ∧ d < t 4) (kq : ∀ G', rN G G' → Q 1 (fI (if eV t segs p (t (12 + 7 * p)) d = 0 then 1 else 0)) (frow G' (eaT segs d t p))) : fx W r 37 330 0 [1186, fI (p : Int), fI d, 7, 7] [] (frow G t) Q := by
  obtain ⟨b3, b4, b7, b9, b10, bp, bc, br, be⟩ := h
  have bpp := bp p hp
  have bcp := bc p hp
  unfold eaT at kq
  refine fx_la 0 1 (v := 1186) (by decide +kernel) rfl (by decide +kernel) ?_
  refine fx_li 1 2 (by decide +kernel) rfl ?_
  refine fx_la 0 3 (v := 1186) (by decide +kernel) rfl (by decide +kernel) ?_
  refine fx_li 1 4 (by decide +kernel) rfl ?_
  refine fx_ci (0) 5 (by decide +kernel) ?_
  refine fx_c3 298 21 8 0 [] (by decide +kernel) (by decide) (by decide) (fI_n4 _) (fI_n4 _) rfl (by first | decide | omega) ?_
  refine sp_mof (w := 0) hp (by decide) (fK1 ?_)
  rw [frow_m, show 12 + 7 * p + 0 = 12 + 7 * p from rfl]
  refine fx_li 2 9 (by decide +kernel) rfl ?_
  refine fx_c4 315 21 12 36 [] (by decide +kernel) (by decide) (by decide) (fI_n4 _) (fI_n4 _) (fI_n4 _) rfl (by first | decide | omega) ?_
  refine sp_meatsBy (segs := segs) (by rw [frow_mm]; exact hl) hp ⟨by omega, bpp.2⟩ ⟨hd.1, by omega⟩ (by rw [frow_m]; exact be _ (by omega)) (fun g1 x1 => fK1 ?_)
  obtain ⟨e1, x2⟩ := x1.row
  rw [frow_mm, e1]
  have kq := kq g1 x2
  have ev : 0 ≤ eV t segs p (t (12 + 7 * p)) d ∧ eV t segs p (t (12 + 7 * p)) d ≤ 1000 := by
    have hok := hl.ok (mFv_78 t p (t (12 + 7 * p)) d)
    have hmb := lwM_b (F := mFv t p (t (12 + 7 * p)) d) segs 0 (fun s hs => (hok s hs).2.2)
    have h12 := hl.2.2.2
    have be2 := be (d * 8 + t (12 + 7 * p)).toNat (by omega)
    unfold eV
    split <;> omega
  refine fx_zne 19 15 (by decide +kernel) (by unfold fR; omega) (fun h12 => ?_) (fun h12 => ?_)
  · rw [if_neg (by omega), if_neg (by omega)] at kq
    refine fx_ci (0) 20 (by decide +kernel) ?_
    refine fx_si 3 21 (by decide +kernel) (Or.inr (fI_n4 _)) rfl ?_
    dsimp only [List.set]
    refine fx_la 0 22 (v := 1186) (by decide +kernel) rfl (by decide +kernel) ?_
    refine fx_li 1 23 (by decide +kernel) rfl ?_
    refine fx_ci (6) 25 (by decide +kernel) ?_
    refine fx_c3 298 21 28 0 [] (by decide +kernel) (by decide) (by decide) (fI_n4 _) (fI_n4 _) rfl (by first | decide | omega) ?_
    refine sp_mof (w := 6) hp (by decide) (fK1 ?_)
    rw [frow_m, show 12 + 7 * p + 6 = 18 + 7 * p by omega]
    refine fx_si 4 30 (by decide +kernel) (Or.inr (fI_n4 _)) rfl ?_
    dsimp only [List.set]
    refine fx_la 0 31 (v := 1186) (by decide +kernel) rfl (by decide +kernel) ?_
    refine fx_li 1 32 (by decide +kernel) rfl ?_
    refine fx_ci (6) 34 (by decide +kernel) ?_
    refine fx_li 3 35 (by decide +kernel) rfl ?_
    refine fx_zeq 50 38 (by decide +kernel) (by unfold fR; omega) (fun _ => ?_) (fun hc => absurd hc (by decide))
    refine fx_ci (0) 51 (by decide +kernel) ?_
    refine fx_c4 287 21 54 0 [] (by decide +kernel) (by decide) (by decide) (fI_n4 _) (fI_n4 _) (fI_n4 _) rfl (by first | decide | omega) ?_
    refine sp_mputF (w := 6) hp (by decide) (by unfold fR; omega) (fK0 ?_)
    refine fx_li 4 56 (by decide +kernel) rfl ?_
    refine fx_la 0 57 (v := 1186) (by decide +kernel) rfl (by decide +kernel) ?_
    refine fx_gp 1186 148 1 1194 60 (by decide +kernel) ?_
    refine fx_ci (7) 62 (by decide +kernel) ?_
    refine fx_al 1194 149 764 63 (by decide +kernel) rfl (by omega) (by omega) rfl ?_
    try simp only [fu_app, fcy_app, Nat.reduceEqDiff, and_true, and_false, false_and, true_and, if_true, if_false, ite_true, ite_false, reduceIte, Int.reduceToNat, fx_simp0]
    rw [frow_m, tU_ne (by omega)]
    refine fx_ige 95 66 (by decide +kernel) (by unfold fR; omega) (by unfold fR; omega) (fun h63 => ?_) (fun h63 => ?_)
    · refine fx_li 3 96 (by decide +kernel) rfl ?_
      refine fx_retb (by decide +kernel) (by first | exact Or.inl rfl | exact Or.inr rfl | omega) ?_
      exact kq
    · refine fx_la 0 67 (v := 1186) (by decide +kernel) rfl (by decide +kernel) ?_
      refine fx_li 1 68 (by decide +kernel) rfl ?_
      refine fx_ci (6) 70 (by decide +kernel) ?_
      refine fx_c3 298 21 73 0 [] (by decide +kernel) (by decide) (by decide) (fI_n4 _) (fI_n4 _) rfl (by first | decide | omega) ?_
      refine sp_mof (w := 6) hp (by decide) (fK1 ?_)
      rw [frow_m, tU_eq]
      refine fx_la 0 74 (v := 1186) (by decide +kernel) rfl (by decide +kernel) ?_
      refine fx_gp 1186 148 1 1194 77 (by decide +kernel) ?_
      refine fx_ci (7) 79 (by decide +kernel) ?_
      refine fx_al 1194 149 764 80 (by decide +kernel) rfl (by omega) (by omega) rfl ?_
      try simp only [fu_app, fcy_app, Nat.reduceEqDiff, and_true, and_false, false_and, true_and, if_true, if_false, ite_true, ite_false, reduceIte, Int.reduceToNat, fx_simp0]
      rw [frow_m, tU_ne (by omega)]
      refine fx_ine 95 83 (by decide +kernel) (by unfold fR; omega) (by unfold fR; omega) (fun h80 => ?_) (fun h80 => ?_)
      · refine fx_li 3 96 (by decide +kernel) rfl ?_
        refine fx_retb (by decide +kernel) (by first | exact Or.inl rfl | exact Or.inr rfl | omega) ?_
        exact kq
      · refine fx_la 0 84 (v := 1186) (by decide +kernel) rfl (by decide +kernel) ?_
        refine fx_li 1 85 (by decide +kernel) rfl ?_
        refine fx_ci (3) 86 (by decide +kernel) ?_
        refine fx_la 0 87 (v := 1186) (by decide +kernel) rfl (by decide +kernel) ?_
        refine fx_li 1 88 (by decide +kernel) rfl ?_
        refine fx_ci (0) 89 (by decide +kernel) ?_
        refine fx_c3 298 21 92 0 [] (by decide +kernel) (by decide) (by decide) (fI_n4 _) (fI_n4 _) rfl (by first | decide | omega) ?_
        refine sp_mof (w := 0) hp (by decide) (fK1 ?_)
        rw [frow_m, tU_ne (by omega), show 12 + 7 * p + 0 = 12 + 7 * p from rfl]
        refine fx_c4 322 21 95 1 [7] (by decide +kernel) (by decide) (by decide) (fI_n4 _) (fI_n4 _) (fI_n4 _) rfl (by first | decide | omega) ?_
        refine sp_mlogsF (by unfold fR; omega) (by unfold fR; omega) (by unfold fR; omega) (by rw [tU_ne (by omega)]; exact b10.1) (by rw [tU_ne (by omega)]; exact b10.2) (fK0 ?_)
        refine fx_li 3 96 (by decide +kernel) rfl ?_
        refine fx_retb (by decide +kernel) (by first | exact Or.inl rfl | exact Or.inr rfl | omega) ?_
        exfalso; omega
  · rw [if_pos (by omega), if_pos (by omega)] at kq
    refine fx_ci (1) 16 (by decide +kernel) ?_
    refine fx_go 20 (by decide +kernel) ?_
    refine fx_si 3 21 (by decide +kernel) (Or.inr (fI_n4 _)) rfl ?_
    dsimp only [List.set]
    refine fx_la 0 22 (v := 1186) (by decide +kernel) rfl (by decide +kernel) ?_
    refine fx_li 1 23 (by decide +kernel) rfl ?_
    refine fx_ci (6) 25 (by decide +kernel) ?_
    refine fx_c3 298 21 28 0 [] (by decide +kernel) (by decide) (by decide) (fI_n4 _) (fI_n4 _) rfl (by first | decide | omega) ?_
    refine sp_mof (w := 6) hp (by decide) (fK1 ?_)
    rw [frow_m, show 12 + 7 * p + 6 = 18 + 7 * p by omega]
    refine fx_si 4 30 (by decide +kernel) (Or.inr (fI_n4 _)) rfl ?_
    dsimp only [List.set]
    refine fx_la 0 31 (v := 1186) (by decide +kernel) rfl (by decide +kernel) ?_
    refine fx_li 1 32 (by decide +kernel) rfl ?_
    refine fx_ci (6) 34 (by decide +kernel) ?_
    refine fx_li 3 35 (by decide +kernel) rfl ?_
    refine fx_zeq 50 38 (by decide +kernel) (by unfold fR; omega) (fun hc => absurd hc (by decide)) (fun _ => ?_)
    refine fx_ci (99) 40 (by decide +kernel) ?_
    refine fx_li 4 42 (by decide +kernel) rfl ?_
    refine fx_ci (1) 43 (by decide +kernel) ?_
    refine fx_add 44 (by decide +kernel) rfl ?_
    refine fx_c2 321 22 47 0 [] (f_q22 (by decide +kernel)) (by decide) (fI_n4 _) (fI_n4 _) rfl (by first | decide | omega) ?_
    refine sp_mlesser (by unfold fR; omega) (by unfold fR; omega) (fK1 ?_)
    generalize hv : (if 99 < t (18 + 7 * p) + 1 then 99 else t (18 + 7 * p) + 1) = v at kq ⊢
    have hv2 : 0 ≤ v ∧ v ≤ 99 := by rw [← hv]; split <;> omega
    refine fx_go 51 (by decide +kernel) ?_
    refine fx_c4 287 21 54 0 [] (by decide +kernel) (by decide) (by decide) (fI_n4 _) (fI_n4 _) (fI_n4 _) rfl (by first | decide | omega) ?_
    refine sp_mputF (w := 6) hp (by decide) (by unfold fR; omega) (fK0 ?_)
    refine fx_li 4 56 (by decide +kernel) rfl ?_
    refine fx_la 0 57 (v := 1186) (by decide +kernel) rfl (by decide +kernel) ?_
    refine fx_gp 1186 148 1 1194 60 (by decide +kernel) ?_
    refine fx_ci (7) 62 (by decide +kernel) ?_
    refine fx_al 1194 149 764 63 (by decide +kernel) rfl (by omega) (by omega) rfl ?_
    try simp only [fu_app, fcy_app, Nat.reduceEqDiff, and_true, and_false, false_and, true_and, if_true, if_false, ite_true, ite_false, reduceIte, Int.reduceToNat, fx_simp0]
    rw [frow_m, tU_ne (by omega)]
    refine fx_ige 95 66 (by decide +kernel) (by unfold fR; omega) (by unfold fR; omega) (fun h63 => ?_) (fun h63 => ?_)
    · refine fx_li 3 96 (by decide +kernel) rfl ?_
      refine fx_retb (by decide +kernel) (by first | exact Or.inl rfl | exact Or.inr rfl | omega) ?_
      rw [if_neg (fun u => by omega)] at kq
      exact kq
    · refine fx_la 0 67 (v := 1186) (by decide +kernel) rfl (by decide +kernel) ?_
      refine fx_li 1 68 (by decide +kernel) rfl ?_
      refine fx_ci (6) 70 (by decide +kernel) ?_
      refine fx_c3 298 21 73 0 [] (by decide +kernel) (by decide) (by decide) (fI_n4 _) (fI_n4 _) rfl (by first | decide | omega) ?_
      refine sp_mof (w := 6) hp (by decide) (fK1 ?_)
      rw [frow_m, tU_eq]
      refine fx_la 0 74 (v := 1186) (by decide +kernel) rfl (by decide +kernel) ?_
      refine fx_gp 1186 148 1 1194 77 (by decide +kernel) ?_
      refine fx_ci (7) 79 (by decide +kernel) ?_
      refine fx_al 1194 149 764 80 (by decide +kernel) rfl (by omega) (by omega) rfl ?_
      try simp only [fu_app, fcy_app, Nat.reduceEqDiff, and_true, and_false, false_and, true_and, if_true, if_false, ite_true, ite_false, reduceIte, Int.reduceToNat, fx_simp0]
      rw [frow_m, tU_ne (by omega)]
      refine fx_ine 95 83 (by decide +kernel) (by unfold fR; omega) (by unfold fR; omega) (fun h80 => ?_) (fun h80 => ?_)
      · refine fx_li 3 96 (by decide +kernel) rfl ?_
        refine fx_retb (by decide +kernel) (by first | exact Or.inl rfl | exact Or.inr rfl | omega) ?_
        rw [if_neg (fun u => by omega)] at kq
        exact kq
      · refine fx_la 0 84 (v := 1186) (by decide +kernel) rfl (by decide +kernel) ?_
        refine fx_li 1 85 (by decide +kernel) rfl ?_
        refine fx_ci (3) 86 (by decide +kernel) ?_
        refine fx_la 0 87 (v := 1186) (by decide +kernel) rfl (by decide +kernel) ?_
        refine fx_li 1 88 (by decide +kernel) rfl ?_
        refine fx_ci (0) 89 (by decide +kernel) ?_
        refine fx_c3 298 21 92 0 [] (by decide +kernel) (by decide) (by decide) (fI_n4 _) (fI_n4 _) rfl (by first | decide | omega) ?_
        refine sp_mof (w := 0) hp (by decide) (fK1 ?_)
        rw [frow_m, tU_ne (by omega), show 12 + 7 * p + 0 = 12 + 7 * p from rfl]
        refine fx_c4 322 21 95 1 [7] (by decide +kernel) (by decide) (by decide) (fI_n4 _) (fI_n4 _) (fI_n4 _) rfl (by first | decide | omega) ?_
        refine sp_mlogsF (by unfold fR; omega) (by unfold fR; omega) (by unfold fR; omega) (by rw [tU_ne (by omega)]; exact b10.1) (by rw [tU_ne (by omega)]; exact b10.2) (fK0 ?_)
        refine fx_li 3 96 (by decide +kernel) rfl ?_
        refine fx_retb (by decide +kernel) (by first | exact Or.inl rfl | exact Or.inr rfl | omega) ?_
        rw [if_pos ⟨by omega, by omega⟩] at kq
        exact kq
end FII
end
section
/-! fx: nights: the reference -/
section FIJ
variable {W : ax_W} {r : Nat} {G : Nat → Nat → Int} {t : Nat → Int} {Q : Nat → Nat → (Nat → Nat → Int) → Prop} {segs : List (List Int × Int × Int)}
theorem sp_misAwayF {p : Nat} (hp : p < 8) (k1 : t (12 + 7 * p) ≠ -1 ∧ t (17 + 7 * p) ≠ 1 → Q 1 (fI 1) (frow G t)) (k2 : ¬ (t (12 + 7 * p) ≠ -1 ∧ t (17 + 7 * p) ≠ 1) → Q 1 (fI 0) (frow G t)) : fx W r 2 300 0 [1186, fI (p : Int)] [] (frow G t) Q := by
  refine sp_misAway hp (fun u => ?_) (fun u => ?_)
  · rw [frow_m, frow_m] at u; exact k1 u
  · rw [frow_m, frow_m] at u; exact k2 u
theorem sp_mnight_1 {d : Int} {R : Nat → Int} {n3 : Nat} (h8 : n3 ≤ 8) (kq : ∀ z : Int, fx W r 38 325 35 [1186, fI d, fI 1, fI z, 7] [] (frow G R) Q) : ∀ (l p : Nat) (t : Nat → Int), p + l = n3 → NI t → t 3 = (n3 : Int) → wanL l p t = R → fx W r 38 325 2 [1186, fI d, fI 1, fI (p : Int), 7] [] (frow G t) Q
  | l, p, t, hl, h, h3, e => by
    refine fx_li 3 3 (by decide +kernel) rfl ?_
    refine fx_la 0 4 (v := 1186) (by decide +kernel) rfl (by decide +kernel) ?_
    refine fx_gp 1186 148 1 1194 7 (by decide +kernel) ?_
    refine fx_ci (3) 8 (by decide +kernel) ?_
    refine fx_al 1194 149 764 9 (by decide +kernel) rfl (by omega) (by omega) rfl ?_
    try simp only [fu_app, fcy_app, Nat.reduceEqDiff, and_true, and_false, false_and, true_and, if_true, if_false, ite_true, ite_false, reduceIte, Int.reduceToNat, fx_simp0]
    rw [frow_m, h3]
    refine fx_ige 35 12 (by decide +kernel) (by unfold fR; omega) (by unfold fR; omega) (fun h9 => ?_) (fun h9 => ?_)
    · have e0 : l = 0 := by omega
      subst e0
      have e : t = R := e
      subst e
      exact kq _
    · obtain ⟨l', rfl⟩ : ∃ l', l = l' + 1 := ⟨l - 1, by omega⟩
      have hp : p < 8 := by omega
      have e : wanL l' (p + 1) (wan1 t p) = R := e
      have ok := wan1_ok (p := p) h hp
      have k3 : wan1 t p 3 = (n3 : Int) := by rw [ok.2 3 (by decide)]; exact h3
      refine fx_li 2 13 (by decide +kernel) rfl ?_
      refine fx_zeq 35 16 (by decide +kernel) (by unfold fR; omega) (fun hc => absurd hc (by decide)) (fun _ => ?_)
      refine fx_la 0 17 (v := 1186) (by decide +kernel) rfl (by decide +kernel) ?_
      refine fx_li 3 18 (by decide +kernel) rfl ?_
      refine fx_c2 300 21 21 2 [] (by decide +kernel) (by decide) (by decide) (fI_n4 _) rfl (by first | decide | omega) ?_
      refine sp_misAwayF hp (fun u => fK1 ?_) (fun u => fK1 ?_)
      · refine fx_zeq 29 24 (by decide +kernel) (by unfold fR; omega) (fun hc => absurd hc (by decide)) (fun _ => ?_)
        refine fx_la 0 25 (v := 1186) (by decide +kernel) rfl (by decide +kernel) ?_
        refine fx_li 3 26 (by decide +kernel) rfl ?_
        refine fx_c2 326 21 29 2 [7] (by decide +kernel) (by decide) (by decide) (fI_n4 _) rfl (by first | decide | omega) ?_
        refine sp_mwanders h.1 hp u.1 (fK0 ?_)
        have ew : wan1 t p = wanT t p := if_pos u
        rw [← ew]
        refine fx_inc 3 32 (1) (by decide +kernel) rfl (Or.inr (fI_n4 _)) rfl ?_
        dsimp only [List.set]
        refine fx_go 2 (by decide +kernel) ?_
        exact sp_mnight_1 h8 kq l' (p + 1) _ (by omega) ok.1 k3 e
      · refine fx_zeq 29 24 (by decide +kernel) (by unfold fR; omega) (fun _ => ?_) (fun hc => absurd hc (by decide))
        refine fx_inc 3 32 (1) (by decide +kernel) rfl (Or.inr (fI_n4 _)) rfl ?_
        dsimp only [List.set]
        refine fx_go 2 (by decide +kernel) ?_
        have ew : wan1 t p = t := if_neg u
        rw [ew] at e
        exact sp_mnight_1 h8 kq l' (p + 1) t (by omega) h h3 e
theorem sp_mnight_2 {d x2 N : Int} {R : Nat → Int} {n3 : Nat} {G : Nat → Nat → Int} (h8 : n3 ≤ 8) (d0 : 0 ≤ d) (dR : fR d) (kq : ∀ (z : Int) (G' : Nat → Nat → Int), rN G G' → fx W r 38 325 89 [1186, fI d, fI x2, fI N, fI z] [] (frow G' R) Q) : ∀ (l p : Nat) (t : Nat → Int) (n : Int) (G' : Nat → Nat → Int), p + l = n3 → NI t → LwR t segs → t 3 = (n3 : Int) → d < t 4 → 0 ≤ n → n ≤ p → rN G G' → eaL segs d l p t = R → eaN segs d l p t n = N → fx W r 38 325 40 [1186, fI d, fI x2, fI n, fI (p : Int)] [] (frow G' t) Q
  | l, p, t, n, G', hl, h, hw, h3, h4, n0, n1, hG, e, en => by
    unfold fR at dR
    refine fx_li 4 42 (by decide +kernel) rfl ?_
    refine fx_la 0 43 (v := 1186) (by decide +kernel) rfl (by decide +kernel) ?_
    refine fx_gp 1186 148 1 1194 46 (by decide +kernel) ?_
    refine fx_ci (3) 47 (by decide +kernel) ?_
    refine fx_al 1194 149 764 48 (by decide +kernel) rfl (by omega) (by omega) rfl ?_
    try simp only [fu_app, fcy_app, Nat.reduceEqDiff, and_true, and_false, false_and, true_and, if_true, if_false, ite_true, ite_false, reduceIte, Int.reduceToNat, fx_simp0]
    rw [frow_m, h3]
    refine fx_ige 89 51 (by decide +kernel) (by unfold fR; omega) (by unfold fR; omega) (fun h48 => ?_) (fun h48 => ?_)
    · have e0 : l = 0 := by omega
      subst e0
      have e : t = R := e
      have en : n = N := en
      subst e en
      exact kq _ _ hG
    · obtain ⟨l', rfl⟩ : ∃ l', l = l' + 1 := ⟨l - 1, by omega⟩
      have hp : p < 8 := by omega
      have e : eaL segs d l' (p + 1) (ea1 segs d t p) = R := e
      have en : eaN segs d l' (p + 1) (ea1 segs d t p) (if (t (12 + 7 * p) ≠ -1 ∧ t (17 + 7 * p) ≠ 1) ∧ eV t segs p (t (12 + 7 * p)) d = 0 then n + 1 else n) = N := en
      have ok := ea1_ok (segs := segs) (d := d) (p := p) h hp
      have k3 : ea1 segs d t p 3 = (n3 : Int) := by rw [ok.2 3 (by decide)]; exact h3
      have k4 : d < ea1 segs d t p 4 := by rw [ok.2 4 (by decide)]; exact h4
      have kw := hw.nf ok.2
      refine fx_li 1 52 (by decide +kernel) rfl ?_
      refine fx_cn (-1) 53 (by decide +kernel) (fun v52 c52 => ?_)
      refine fx_ieq 89 56 (by decide +kernel) (by unfold fR; omega) (by unfold fR; omega) (fun h53 => ?_) (fun h53 => ?_)
      · exfalso; omega
      · refine fx_la 0 57 (v := 1186) (by decide +kernel) rfl (by decide +kernel) ?_
        refine fx_li 4 59 (by decide +kernel) rfl ?_
        refine fx_c2 300 21 62 2 [] (by decide +kernel) (by decide) (by decide) (fI_n4 _) rfl (by first | decide | omega) ?_
        refine sp_misAwayF hp (fun u => fK1 ?_) (fun u => fK1 ?_)
        · refine fx_zeq 83 65 (by decide +kernel) (by unfold fR; omega) (fun hc => absurd hc (by decide)) (fun _ => ?_)
          refine fx_li 3 66 (by decide +kernel) rfl ?_
          refine fx_la 0 67 (v := 1186) (by decide +kernel) rfl (by decide +kernel) ?_
          refine fx_li 4 69 (by decide +kernel) rfl ?_
          refine fx_li 1 70 (by decide +kernel) rfl ?_
          refine fx_c3 330 21 73 37 [7, 7] (by decide +kernel) (by decide) (by decide) (fI_n4 _) (fI_n4 _) rfl (by first | decide | omega) ?_
          refine sp_mliesCold h.1 hw hp u.1 ⟨d0, h4⟩ (fun G2 x2 => fK1 ?_)
          have ew : ea1 segs d t p = eaT segs d t p := if_pos u
          rw [← ew]
          have hz : (if eV t segs p (t (12 + 7 * p)) d = 0 then (1 : Int) else 0) = 0 ∨ (if eV t segs p (t (12 + 7 * p)) d = 0 then (1 : Int) else 0) = 1 := if_01
          generalize ez : (if eV t segs p (t (12 + 7 * p)) d = 0 then (1 : Int) else 0) = z at *
          refine fx_zeq 80 76 (by decide +kernel) (by unfold fR; omega) (fun h73 => ?_) (fun h73 => ?_)
          · refine fx_ci (0) 81 (by decide +kernel) ?_
            refine fx_add 82 (by decide +kernel) rfl ?_
            refine fx_si 3 83 (by decide +kernel) (Or.inr (fI_n4 _)) rfl ?_
            dsimp only [List.set]
            refine fx_inc 4 86 (1) (by decide +kernel) rfl (Or.inr (fI_n4 _)) rfl ?_
            dsimp only [List.set]
            refine fx_go 40 (by decide +kernel) ?_
            rw [if_neg (fun q => by rw [if_pos q.2] at ez; omega)] at en
            rw [Int.add_zero]
            exact sp_mnight_2 h8 d0 (by unfold fR; omega) kq l' (p + 1) _ n G2 (by omega) ok.1 kw k3 k4 n0 (by omega) (hG.tr x2) e en
          · refine fx_ci (1) 77 (by decide +kernel) ?_
            refine fx_go 81 (by decide +kernel) ?_
            refine fx_add 82 (by decide +kernel) rfl ?_
            refine fx_si 3 83 (by decide +kernel) (Or.inr (fI_n4 _)) rfl ?_
            dsimp only [List.set]
            refine fx_inc 4 86 (1) (by decide +kernel) rfl (Or.inr (fI_n4 _)) rfl ?_
            dsimp only [List.set]
            refine fx_go 40 (by decide +kernel) ?_
            have e0 : eV t segs p (t (12 + 7 * p)) d = 0 := Classical.byContradiction (fun q => by rw [if_neg q] at ez; omega)
            rw [if_pos ⟨u, e0⟩] at en
            exact sp_mnight_2 h8 d0 (by unfold fR; omega) kq l' (p + 1) _ (n + 1) G2 (by omega) ok.1 kw k3 k4 (by omega) (by omega) (hG.tr x2) e en
        · refine fx_zeq 83 65 (by decide +kernel) (by unfold fR; omega) (fun _ => ?_) (fun hc => absurd hc (by decide))
          refine fx_inc 4 86 (1) (by decide +kernel) rfl (Or.inr (fI_n4 _)) rfl ?_
          dsimp only [List.set]
          refine fx_go 40 (by decide +kernel) ?_
          have ew : ea1 segs d t p = t := if_neg u
          rw [ew] at e en
          rw [if_neg (fun q => u q.1)] at en
          exact sp_mnight_2 h8 d0 (by unfold fR; omega) kq l' (p + 1) t n G' (by omega) h hw h3 h4 n0 (by omega) hG e en
theorem sp_mnight {d : Int} {dr : Bool} (h : NI t) (hw : LwR t segs) (hd : d = -1 ∨ (0 ≤ d ∧ d < t 4)) (kq : ∀ G', rN G G' → Q 1 (fI (niN segs d (niW dr t))) (frow G' (niT segs d dr t))) : fx W r 38 325 0 [1186, fI d, fI (cond dr 1 0), 7, 7] [] (frow G t) Q := by
  have b3 := h.1.1
  have b4 := h.1.2.1
  have okW := niW_ok (dr := dr) h
  have w3 : niW dr t 3 = t 3 := okW.2 3 (by decide)
  have w4 : niW dr t 4 = t 4 := okW.2 4 (by decide)
  have nb := niN_b (segs := segs) (d := d) okW.1
  have n9 := (niE_ok (segs := segs) (d := d) okW.1).1.1.2.2.2.1
  have fin : ∀ (z : Int) (x2 : Nat) (G' : Nat → Nat → Int), rN G G' → fx W r 38 325 89 [1186, fI d, x2, fI (niN segs d (niW dr t)), fI z] [] (frow G' (niE segs d (niW dr t))) Q := fun z x2 G' hG => by
    have kq := kq G' hG
    unfold niT at kq
    generalize niN segs d (niW dr t) = n at *
    generalize niE segs d (niW dr t) = t2 at *
    refine fx_la 0 90 (v := 1186) (by decide +kernel) rfl (by decide +kernel) ?_
    refine fx_gp 1186 148 1 1194 93 (by decide +kernel) ?_
    refine fx_ci (9) 95 (by decide +kernel) ?_
    refine fx_ci (9999) 98 (by decide +kernel) ?_
    refine fx_la 0 99 (v := 1186) (by decide +kernel) rfl (by decide +kernel) ?_
    refine fx_gp 1186 148 1 1194 102 (by decide +kernel) ?_
    refine fx_ci (9) 104 (by decide +kernel) ?_
    refine fx_al 1194 149 764 105 (by decide +kernel) rfl (by omega) (by omega) rfl ?_
    try simp only [fu_app, fcy_app, Nat.reduceEqDiff, and_true, and_false, false_and, true_and, if_true, if_false, ite_true, ite_false, reduceIte, Int.reduceToNat, fx_simp0]
    rw [frow_m]
    refine fx_ci (1) 106 (by decide +kernel) ?_
    refine fx_add 107 (by decide +kernel) rfl ?_
    refine fx_c2 321 22 110 0 [] (f_q22 (by decide +kernel)) (by decide) (fI_n4 _) (fI_n4 _) rfl (by first | decide | omega) ?_
    refine sp_mlesser (by unfold fR; omega) (by unfold fR; omega) (fK1 ?_)
    generalize hv : (if 9999 < t2 9 + 1 then 9999 else t2 9 + 1) = v at kq ⊢
    have hv2 : 0 ≤ v ∧ v ≤ 9999 := by rw [← hv]; split <;> omega
    refine fx_as 1194 149 764 111 (by decide +kernel) rfl (by omega) (by omega) rfl (by unfold fR; omega) ?_
    refine fx_li 3 112 (by decide +kernel) rfl ?_
    refine fx_ret (by decide +kernel) ?_
    rw [show (9 : Int).toNat = 9 from rfl, frow_fu]
    exact kq
  have mid : ∀ (z x2 : Int), fx W r 38 325 35 [1186, fI d, fI x2, fI z, 7] [] (frow G (niW dr t)) Q := fun z x2 => by
    by_cases dm : d = -1
    · have e1 : niE segs d (niW dr t) = niW dr t := if_pos dm
      have e2 : niN segs d (niW dr t) = 0 := if_pos dm
      refine fx_ci (0) 36 (by decide +kernel) ?_
      refine fx_si 3 37 (by decide +kernel) (Or.inr (fI_n4 _)) rfl ?_
      dsimp only [List.set]
      refine fx_ci (0) 38 (by decide +kernel) ?_
      refine fx_si 4 40 (by decide +kernel) (Or.inr (fI_n4 _)) rfl ?_
      dsimp only [List.set]
      refine fx_li 4 42 (by decide +kernel) rfl ?_
      refine fx_la 0 43 (v := 1186) (by decide +kernel) rfl (by decide +kernel) ?_
      refine fx_gp 1186 148 1 1194 46 (by decide +kernel) ?_
      refine fx_ci (3) 47 (by decide +kernel) ?_
      refine fx_al 1194 149 764 48 (by decide +kernel) rfl (by omega) (by omega) rfl ?_
      try simp only [fu_app, fcy_app, Nat.reduceEqDiff, and_true, and_false, false_and, true_and, if_true, if_false, ite_true, ite_false, reduceIte, Int.reduceToNat, fx_simp0]
      rw [frow_m, w3]
      refine fx_ige 89 51 (by decide +kernel) (by unfold fR; omega) (by unfold fR; omega) (fun h48 => ?_) (fun h48 => ?_)
      · have f := fin 0 (fI x2) G rN.rf
        rw [e1, e2] at f
        exact f
      · refine fx_li 1 52 (by decide +kernel) rfl ?_
        refine fx_cn (-1) 53 (by decide +kernel) (fun v52 c52 => ?_)
        refine fx_ieq 89 56 (by decide +kernel) (by unfold fR; omega) (by unfold fR; omega) (fun h53 => ?_) (fun h53 => ?_)
        · have f := fin 0 (fI x2) G rN.rf
          rw [e1, e2] at f
          exact f
        · exfalso; omega
    · have hd2 : 0 ≤ d ∧ d < t 4 := by omega
      have e1 : niE segs d (niW dr t) = eaL segs d (t 3).toNat 0 (niW dr t) := by unfold niE; rw [if_neg dm, w3]
      have e2 : niN segs d (niW dr t) = eaN segs d (t 3).toNat 0 (niW dr t) 0 := by unfold niN; rw [if_neg dm, w3]
      refine fx_ci (0) 36 (by decide +kernel) ?_
      refine fx_si 3 37 (by decide +kernel) (Or.inr (fI_n4 _)) rfl ?_
      dsimp only [List.set]
      refine fx_ci (0) 38 (by decide +kernel) ?_
      refine fx_si 4 40 (by decide +kernel) (Or.inr (fI_n4 _)) rfl ?_
      dsimp only [List.set]
      exact sp_mnight_2 (segs := segs) (G := G) (n3 := (t 3).toNat) (by omega) hd2.1 (by unfold fR; omega) (fun z G' hG => fin z _ G' hG) (t 3).toNat 0 (niW dr t) 0 G (by omega) okW.1 (hw.nf okW.2) (by rw [w3]; omega) (by rw [w4]; exact hd2.2) (by decide) (by decide) rN.rf e1.symm e2.symm
  cases dr with
  | false =>
    rw [show (cond false (1 : Int) 0) = 0 from rfl]
    refine fx_ci (0) 1 (by decide +kernel) ?_
    refine fx_si 3 2 (by decide +kernel) (Or.inr (fI_n4 _)) rfl ?_
    dsimp only [List.set]
    refine fx_li 3 3 (by decide +kernel) rfl ?_
    refine fx_la 0 4 (v := 1186) (by decide +kernel) rfl (by decide +kernel) ?_
    refine fx_gp 1186 148 1 1194 7 (by decide +kernel) ?_
    refine fx_ci (3) 8 (by decide +kernel) ?_
    refine fx_al 1194 149 764 9 (by decide +kernel) rfl (by omega) (by omega) rfl ?_
    try simp only [fu_app, fcy_app, Nat.reduceEqDiff, and_true, and_false, false_and, true_and, if_true, if_false, ite_true, ite_false, reduceIte, Int.reduceToNat, fx_simp0]
    rw [frow_m]
    refine fx_ige 35 12 (by decide +kernel) (by unfold fR; omega) (by unfold fR; omega) (fun h9 => ?_) (fun h9 => ?_)
    · exact mid _ _
    · refine fx_li 2 13 (by decide +kernel) rfl ?_
      refine fx_zeq 35 16 (by decide +kernel) (by unfold fR; omega) (fun _ => ?_) (fun hc => absurd hc (by decide))
      exact mid _ _
  | true =>
    rw [show (cond true (1 : Int) 0) = 1 from rfl]
    refine fx_ci (0) 1 (by decide +kernel) ?_
    refine fx_si 3 2 (by decide +kernel) (Or.inr (fI_n4 _)) rfl ?_
    dsimp only [List.set]
    exact sp_mnight_1 (n3 := (t 3).toNat) (by omega) (fun z => mid z 1) (t 3).toNat 0 t (by omega) h (by omega) rfl
theorem sp_mgoes_1 {N : Int} {dr : Bool} {nn : Nat} {R : Nat → Int} {G : Nat → Nat → Int} (hn : nn ≤ 60) (kq : ∀ G', rN G G' → Q 1 (fI N) (frow G' R)) : ∀ (l k : Nat) (t : Nat → Int) (a : Int) (G' : Nat → Nat → Int), k + l = nn → NI t → LwR t segs → 0 ≤ a → a ≤ 8 * k → rN G G' → goL segs dr l t = R → goN segs dr l t a = N → fx W r 39 337 5 [1186, fI (nn : Int), fI (cond dr 1 0), fI a, fI (k : Int)] [] (frow G' t) Q
  | l, k, t, a, G', hl, h, hw, a0, a1, hG, e, en => by
    have b4 := h.1.2.1
    have b9 := h.1.2.2.2.1
    have db := dsT_b h
    have hdr : (cond dr (1 : Int) 0) = 0 ∨ (cond dr (1 : Int) 0) = 1 := by cases dr <;> simp
    refine fx_li 4 7 (by decide +kernel) rfl ?_
    refine fx_li 1 8 (by decide +kernel) rfl ?_
    refine fx_ige 52 11 (by decide +kernel) (by unfold fR; omega) (by unfold fR; omega) (fun h8 => ?_) (fun h8 => ?_)
    · refine fx_li 3 53 (by decide +kernel) rfl ?_
      refine fx_ret (by decide +kernel) ?_
      have e0 : l = 0 := by omega
      subst e0
      have e : t = R := e
      have en : a = N := en
      subst e en
      exact kq _ hG
    · obtain ⟨l', rfl⟩ : ∃ l', l = l' + 1 := ⟨l - 1, by omega⟩
      have e : goL segs dr l' (niT segs (dsT t) dr t) = R := e
      have en : goN segs dr l' (niT segs (dsT t) dr t) (a + niN segs (dsT t) (niW dr t)) = N := en
      have ok := niT_ok (segs := segs) (d := dsT t) (dr := dr) h
      have nb := niN_b (segs := segs) (d := dsT t) (niW_ok (dr := dr) h).1
      refine fx_li 3 12 (by decide +kernel) rfl ?_
      refine fx_la 0 13 (v := 1186) (by decide +kernel) rfl (by decide +kernel) ?_
      refine fx_la 0 14 (v := 1186) (by decide +kernel) rfl (by decide +kernel) ?_
      refine fx_gp 1186 148 1 1194 17 (by decide +kernel) ?_
      refine fx_ci (4) 18 (by decide +kernel) ?_
      refine fx_al 1194 149 764 19 (by decide +kernel) rfl (by omega) (by omega) rfl ?_
      try simp only [fu_app, fcy_app, Nat.reduceEqDiff, and_true, and_false, false_and, true_and, if_true, if_false, ite_true, ite_false, reduceIte, Int.reduceToNat, fx_simp0]
      rw [frow_m]
      refine fx_zne 26 22 (by decide +kernel) (by unfold fR; omega) (fun h19 => ?_) (fun h19 => ?_)
      · refine fx_la 0 27 (v := 1186) (by decide +kernel) rfl (by decide +kernel) ?_
        refine fx_gp 1186 148 1 1194 30 (by decide +kernel) ?_
        refine fx_ci (9) 32 (by decide +kernel) ?_
        refine fx_al 1194 149 764 33 (by decide +kernel) rfl (by omega) (by omega) rfl ?_
        try simp only [fu_app, fcy_app, Nat.reduceEqDiff, and_true, and_false, false_and, true_and, if_true, if_false, ite_true, ite_false, reduceIte, Int.reduceToNat, fx_simp0]
        rw [frow_m]
        refine fx_la 0 34 (v := 1186) (by decide +kernel) rfl (by decide +kernel) ?_
        refine fx_gp 1186 148 1 1194 37 (by decide +kernel) ?_
        refine fx_ci (4) 38 (by decide +kernel) ?_
        refine fx_al 1194 149 764 39 (by decide +kernel) rfl (by omega) (by omega) rfl ?_
        try simp only [fu_app, fcy_app, Nat.reduceEqDiff, and_true, and_false, false_and, true_and, if_true, if_false, ite_true, ite_false, reduceIte, Int.reduceToNat, fx_simp0]
        rw [frow_m]
        refine fx_bin 10 40 (by decide +kernel) rfl (fun _ => i32_n0 (by omega) (by omega)) ?_
        have ed : dsT t = t 9 % t 4 := if_neg h19
        rw [fop_rm b9.1 (by omega) (by omega) (by omega), ← ed]
        refine fx_li 2 41 (by decide +kernel) rfl ?_
        refine fx_c3 325 21 44 38 [7, 7] (by decide +kernel) (by decide) (by decide) (fI_n4 _) (fI_n4 _) rfl (by first | decide | omega) ?_
        refine sp_mnight h hw (by omega) (fun G2 x2 => fK1 ?_)
        refine fx_add 45 (by decide +kernel) rfl ?_
        refine fx_si 3 46 (by decide +kernel) (Or.inr (fI_n4 _)) rfl ?_
        dsimp only [List.set]
        refine fx_inc 4 49 (1) (by decide +kernel) rfl (Or.inr (fI_n4 _)) rfl ?_
        dsimp only [List.set]
        refine fx_go 5 (by decide +kernel) ?_
        exact sp_mgoes_1 hn kq l' (k + 1) _ _ G2 (by omega) ok.1 (hw.nf ok.2) (by omega) (by omega) (hG.tr x2) e en
      · refine fx_cn (-1) 23 (by decide +kernel) (fun v22 c22 => ?_)
        refine fx_go 40 (by decide +kernel) ?_
        have ed : dsT t = -1 := if_pos h19
        rw [c22, ← ed]
        refine fx_li 2 41 (by decide +kernel) rfl ?_
        refine fx_c3 325 21 44 38 [7, 7] (by decide +kernel) (by decide) (by decide) (fI_n4 _) (fI_n4 _) rfl (by first | decide | omega) ?_
        refine sp_mnight h hw (by omega) (fun G2 x2 => fK1 ?_)
        refine fx_add 45 (by decide +kernel) rfl ?_
        refine fx_si 3 46 (by decide +kernel) (Or.inr (fI_n4 _)) rfl ?_
        dsimp only [List.set]
        refine fx_inc 4 49 (1) (by decide +kernel) rfl (Or.inr (fI_n4 _)) rfl ?_
        dsimp only [List.set]
        refine fx_go 5 (by decide +kernel) ?_
        exact sp_mgoes_1 hn kq l' (k + 1) _ _ G2 (by omega) ok.1 (hw.nf ok.2) (by omega) (by omega) (hG.tr x2) e en
theorem sp_mgoes {dr : Bool} {nn : Nat} (hn : nn ≤ 60) (h : NI t) (hw : LwR t segs) (kq : ∀ G', rN G G' → Q 1 (fI (goN segs dr nn t 0)) (frow G' (goL segs dr nn t))) : fx W r 39 337 0 [1186, fI (nn : Int), fI (cond dr 1 0), 7, 7] [] (frow G t) Q := by
  refine fx_ci (0) 1 (by decide +kernel) ?_
  refine fx_si 3 2 (by decide +kernel) (Or.inr (fI_n4 _)) rfl ?_
  dsimp only [List.set]
  refine fx_ci (0) 3 (by decide +kernel) ?_
  refine fx_si 4 5 (by decide +kernel) (Or.inr (fI_n4 _)) rfl ?_
  dsimp only [List.set]
  exact sp_mgoes_1 (segs := segs) (G := G) hn kq nn 0 t 0 G (by omega) h hw (by decide) (by decide) rN.rf rfl rfl
end FIJ
end
section
/-! fx: nights: the class -/
theorem RHf_nf {h : Nat} {g : Nat → Nat → Int} {t t' : Nat → Int} (q : RHf h g t) (hd : g h 5 ≤ 6) (e : NF t t') : RHf h g t' := RHf_t q hd (fun k hk => e k (by unfold gHp at hk; omega))
section FIK0
variable {W : ax_W} {r : Nat} {g : Nat → Nat → Int} {Q : Nat → Nat → (Nat → Nat → Int) → Prop}
theorem sp_min9 {z : Int} (hz : fR z) (kq : Q 1 (fI (if 9999 < z then 9999 else z)) g) : fx W r 0 158 0 [fI 9999, fI z] [] g Q := by
  unfold fR at hz
  refine fx_li 0 1 (by decide +kernel) rfl ?_
  refine fx_li 1 2 (by decide +kernel) rfl ?_
  refine fx_igt 9 5 (by decide +kernel) (by unfold fR; omega) (by unfold fR; omega) (fun h2 => ?_) (fun h2 => ?_)
  · refine fx_li 1 10 (by decide +kernel) rfl ?_
    refine fx_ret (by decide +kernel) ?_
    rw [show (if 9999 < z then (9999 : Int) else z) = z by split <;> omega] at kq
    exact kq
  · refine fx_li 0 6 (by decide +kernel) rfl ?_
    refine fx_go 10 (by decide +kernel) ?_
    refine fx_ret (by decide +kernel) ?_
    rw [show (if 9999 < z then (9999 : Int) else z) = 9999 by split <;> omega] at kq
    exact kq
end FIK0
/-- where a night of the table table stands -/
def fTF_table (g0 g : Nat → Nat → Int) : Prop := ∀ c j, ¬ (16 ≤ c ∧ c ≤ 21) → c ≠ 14 → c ≠ 15 → g c j = g0 c j
/-- what is given ahead of it -/
def CN_table (g0 : Nat → Nat → Int) (t0 : Nat → Int) (segs : List (List Int × Int × Int)) : Prop := RHf 3 g0 t0 ∧ g0 3 5 ≤ 6 ∧ LwL g0 segs ∧ LwR t0 segs
def CT_table (g0 : Nat → Nat → Int) (t0 : Nat → Int) (g : Nat → Nat → Int) (t : Nat → Int) : Prop := RTb 16 g t ∧ fTF_table g0 g ∧ NI t ∧ NF t0 t
theorem fTF_table.rf {g : Nat → Nat → Int} : fTF_table g g := fun _ _ _ _ _ => rfl
theorem fTF_table.u {g0 g : Nat → Nat → Int} {c j : Nat} {z : Int} (h : fTF_table g0 g) (hc : 16 ≤ c ∧ c ≤ 21) : fTF_table g0 (fu g c j z) := fun c' j' a b d => by rw [fu_nc (by omega)]; exact h c' j' a b d
theorem fTF_table.fs {g0 g g' : Nat → Nat → Int} (h : fTF_table g0 g) (x : fFS g g') : fTF_table g0 g' := fun c' j' a b d => by rw [x c' j' b d]; exact h c' j' a b d
theorem fTF_table.nt {g0 g : Nat → Nat → Int} {p k w : Int} (h : fTF_table g0 g) : fTF_table g0 (cNote 16 g p k w) := fun c' j' a b d => by
  rw [cNote_ne (by omega) (by omega)]
  exact h c' j' a b d
theorem CT_table.fs {g0 g g' : Nat → Nat → Int} {t0 t : Nat → Int} (h : CT_table g0 t0 g t) (x : fFS g g') : CT_table g0 t0 g' t := ⟨RTb_cg h.1 (fun j _ _ => x _ _ (by decide) (by decide)) (fun k j _ _ => x _ _ (by omega) (by omega)) (fun _ _ => rfl), h.2.1.fs x, h.2.2⟩
theorem CT_table.H {g0 g : Nat → Nat → Int} {t0 t : Nat → Int} {segs : List (List Int × Int × Int)} (h : CT_table g0 t0 g t) (n : CN_table g0 t0 segs) : RHf 3 g t ∧ LwL g segs ∧ LwR t segs := by
  obtain ⟨n1, n2, n3, n4⟩ := n
  obtain ⟨h1, h2, h3, h4⟩ := h
  have q : RHf 3 g t0 := RHf_eq n1 (fun j _ _ => h2 _ _ (by decide) (by decide) (by decide)) (fun i j i1 i2 => h2 _ _ (by omega) (by omega) (by omega))
  exact ⟨RHf_nf q (by rw [h2 _ _ (by decide) (by decide) (by decide)]; exact n2) h4, n3.cg (h2 _ _ (by decide) (by decide) (by decide)) (fun i j i1 i2 => h2 _ _ (by omega) (by omega) (by omega)), n4.nf h4⟩
section FIK_table
variable {W : ax_W} {r : Nat} {g0 : Nat → Nat → Int} {t0 R : Nat → Int} {Q : Nat → Nat → (Nat → Nat → Int) → Prop} {segs : List (List Int × Int × Int)}
theorem sp_cawayR_table {g : Nat → Nat → Int} {t : Nat → Int} {p : Nat} (h : RTf 16 g t) (hp : p < 8) (k1 : t (12 + 7 * p) ≠ -1 ∧ t (17 + 7 * p) ≠ 1 → Q 1 (fI 1) g) (k2 : ¬ (t (12 + 7 * p) ≠ -1 ∧ t (17 + 7 * p) ≠ 1) → Q 1 (fI 0) g) : fx W r 1 55 0 [130, fI (p : Int)] [] g Q := by
  have e1 : g 17 p = t (12 + 7 * p) := h.1 p hp
  have e2 : fbt (g 16 7) p = t (17 + 7 * p) := h.2.2.2.2.1 p hp
  refine sp_cisAway_table hp (fun u => ?_) (fun u => ?_)
  · rw [e1, e2] at u; exact k1 u
  · rw [e1, e2] at u; exact k2 u
theorem sp_cwander_1_table (hn : CN_table g0 t0 segs) (kq : ∀ g', CT_table g0 t0 g' R → Q 0 0 g') : ∀ (l p : Nat) (t : Nat → Int) (g : Nat → Nat → Int) (x3 x4 : Nat), (p + l : Nat) = (t 3).toNat → CT_table g0 t0 g t → wanL l p t = R → fx W r 2 162 2 [346, 130, fI (p : Int), x3, x4] [] g Q
  | l, p, t, g, x3, x4, hl, h, e => by
    obtain ⟨hH, -, -⟩ := h.H hn
    have b3 := h.2.2.1.1.1
    have ep : g 3 4 = t 3 := hH.1
    refine fx_rg (fun hg => ?_)
    have rwk := hg 3 8 (by decide) (by decide +kernel) (by decide +kernel)
    have ewk : g 3 8 = t 6 := hH.2.2.2.2.1
    rw [ewk] at rwk
    unfold fR at rwk
    refine fx_li 2 3 (by decide +kernel) rfl ?_
    refine fx_la 0 4 (v := 346) (by decide +kernel) rfl (by decide +kernel) ?_
    refine fx_gp 346 43 0 26 7 (by decide +kernel) ?_
    refine fx_gi 26 3 4 10 (by decide +kernel) ?_
    rw [ep]
    refine fx_ige 90 13 (by decide +kernel) (by unfold fR; omega) (by first | exact hg 3 4 (by decide) (by decide +kernel) (by decide +kernel) | (unfold fR; omega)) (fun h10 => ?_) (fun h10 => ?_)
    · refine fx_vret (by decide +kernel) ?_
      have e0 : l = 0 := by omega
      subst e0
      have e : t = R := e
      subst e
      exact kq g h
    · obtain ⟨l', rfl⟩ : ∃ l', l = l' + 1 := ⟨l - 1, by omega⟩
      have hp : p < 8 := by omega
      have e : wanL l' (p + 1) (wan1 t p) = R := e
      have ok := wan1_ok (p := p) h.2.2.1 hp
      have k3 : (p + 1 + l' : Nat) = (wan1 t p 3).toNat := by rw [ok.2 3 (by decide)]; omega
      have es : g 16 10 = t 11 := h.1.1.2.2.2.2.2.2.2
      have epl : g 17 p = t (12 + 7 * p) := h.1.1.1 p hp
      have b4 : RTb 16 (fu g 16 10 (nxS (t 11))) (tU t 11 (nxS (t 11))) := RTb_f (j := 10) (k := 11) h.1 (by omega)
      have bpp := h.2.2.1.1.2.2.2.2.2.1 p hp
      have d1 := dwS_b (nxS (t 11))
      have d2 := dwS_b (nxS (nxS (t 11)))
      have m1 := fop_rm_b (d := dwS (nxS (t 11))) (n := 100) d1.1 (by omega) (by decide) (by decide)
      refine fx_la 1 14 (v := 130) (by decide +kernel) rfl (by decide +kernel) ?_
      refine fx_li 2 15 (by decide +kernel) rfl ?_
      refine fx_c2 55 21 18 1 [] (by decide +kernel) (by decide) (by decide) (fI_n4 _) rfl (by first | decide | omega) ?_
      refine sp_cawayR_table h.1.1 hp (fun u => fK1 ?_) (fun u => fK1 ?_)
      · refine fx_zeq 84 21 (by decide +kernel) (by unfold fR; omega) (fun hc => absurd hc (by decide)) (fun _ => ?_)
        refine fx_la 1 22 (v := 130) (by decide +kernel) rfl (by decide +kernel) ?_
        refine fx_c1 163 21 25 0 [] (by decide +kernel) (by decide) rfl (by first | decide | omega) ?_
        have ew : wan1 t p = wanT t p := if_pos u
        rw [ew] at e ok k3
        refine sp_cdraw_table (fK1 ?_)
        rw [es]
        refine fx_ci (100) 27 (by decide +kernel) ?_
        refine fx_bin 10 28 (by decide +kernel) rfl (fun _ => by decide) ?_
        refine fx_la 0 29 (v := 346) (by decide +kernel) rfl (by decide +kernel) ?_
        refine fx_gp 346 43 0 26 32 (by decide +kernel) ?_
        refine fx_gi 26 3 8 35 (by decide +kernel) ?_
        try simp only [fu_app, fcy_app, Nat.reduceEqDiff, and_true, and_false, false_and, true_and, if_true, if_false, ite_true, ite_false, reduceIte, Int.reduceToNat, fx_simp0]
        rw [ewk]
        refine fx_ilt 41 38 (by decide +kernel) (by first | exact fop_R _ _ _ | (unfold fR; omega)) (by unfold fR; omega) (fun h35 => ?_) (fun h35 => ?_)
        · have rd : 0 ≤ t (116 + (t (12 + 7 * p)).toNat) ∧ t (116 + (t (12 + 7 * p)).toNat) ≤ 255 := h.2.2.1.1.2.2.2.2.2.2.2.1 _ (by omega)
          have erd : g 7 (t (12 + 7 * p)).toNat = t (116 + (t (12 + 7 * p)).toNat) := hH.2.2.2.2.2.2.2.2.2 _ (by omega)
          have hb := pB_b rd.1 rd.2
          refine fx_la 0 42 (v := 346) (by decide +kernel) rfl (by decide +kernel) ?_
          refine fx_gp 346 43 0 26 45 (by decide +kernel) ?_
          refine fx_gp 26 3 3 58 48 (by decide +kernel) ?_
          refine fx_la 1 49 (v := 130) (by decide +kernel) rfl (by decide +kernel) ?_
          refine fx_gp 130 16 0 138 52 (by decide +kernel) ?_
          refine fx_li 2 53 (by decide +kernel) rfl ?_
          refine fx_al 138 17 8 54 (by decide +kernel) rfl (by omega) (by omega) rfl ?_
          try simp only [fu_app, fcy_app, Nat.reduceEqDiff, and_true, and_false, false_and, true_and, if_true, if_false, ite_true, ite_false, reduceIte, Int.reduceToNat, fx_simp0]
          rw [show ((p : Int)).toNat = p from rfl, epl]
          refine fx_al 58 7 8 55 (by decide +kernel) rfl (by omega) (by omega) rfl ?_
          try simp only [fu_app, fcy_app, Nat.reduceEqDiff, and_true, and_false, false_and, true_and, if_true, if_false, ite_true, ite_false, reduceIte, Int.reduceToNat, fx_simp0]
          rw [erd]
          refine fx_si 3 56 (by decide +kernel) (Or.inr (fI_n4 _)) rfl ?_
          dsimp only [List.set]
          refine fx_li 3 57 (by decide +kernel) rfl ?_
          refine fx_c1 20 22 60 0 [] (f_q22 (by decide +kernel)) (fI_n4 _) rfl (by first | decide | omega) ?_
          refine sp_bitCount8 rd.1 rd.2 (fK1 ?_)
          refine fx_si 4 62 (by decide +kernel) (Or.inr (fI_n4 _)) rfl ?_
          dsimp only [List.set]
          refine fx_li 4 64 (by decide +kernel) rfl ?_
          refine fx_zle 84 67 (by decide +kernel) (by unfold fR; omega) (fun h64 => ?_) (fun h64 => ?_)
          · refine fx_inc 2 87 (1) (by decide +kernel) rfl (Or.inr (f_n4p (v := 130) rfl (by decide))) rfl ?_
            dsimp only [List.set]
            refine fx_go 2 (by decide +kernel) ?_
            have z0 : t (116 + (t (12 + 7 * p)).toNat) = 0 := Classical.byContradiction (fun q => by have := hb.2.2.1 q; omega)
            have ew2 : wanT t p = tU t 11 (nxS (t 11)) := by unfold wanT; rw [if_pos (by omega), if_pos z0]
            rw [ew2] at e ok k3
            exact sp_cwander_1_table hn kq l' (p + 1) _ _ _ _ k3 ⟨b4, h.2.1.u (by decide), ok.1, h.2.2.2.tr ok.2⟩ e
          · have z0 : ¬ t (116 + (t (12 + 7 * p)).toNat) = 0 := fun q => by have := hb.2.2.2 q; omega
            have rm := fop_rm_b (d := dwS (nxS (nxS (t 11)))) (n := pB (t (116 + (t (12 + 7 * p)).toNat)) 31) d2.1 (by omega) (by omega) (by omega)
            obtain ⟨-, -, -, q0, q1⟩ := pM_ok rd.1 rd.2 rm.1 rm.2
            have ew2 : wanT t p = tU (tU t 11 (nxS (nxS (t 11)))) (12 + 7 * p + 0) (pKt (t (116 + (t (12 + 7 * p)).toNat)) (fop 10 (dwS (nxS (nxS (t 11)))) (pB (t (116 + (t (12 + 7 * p)).toNat)) 31))) := by unfold wanT; rw [if_pos (by omega), if_neg z0]
            rw [ew2] at e ok k3
            refine fx_la 1 68 (v := 130) (by decide +kernel) rfl (by decide +kernel) ?_
            refine fx_gp 130 16 0 138 71 (by decide +kernel) ?_
            refine fx_li 2 72 (by decide +kernel) rfl ?_
            refine fx_li 3 73 (by decide +kernel) rfl ?_
            refine fx_la 1 74 (v := 130) (by decide +kernel) rfl (by decide +kernel) ?_
            refine fx_c1 163 21 77 0 [] (by decide +kernel) (by decide) rfl (by first | decide | omega) ?_
            refine sp_cdraw_table (fK1 ?_)
            rw [fu_eq, fu_fu]
            refine fx_li 4 79 (by decide +kernel) rfl ?_
            refine fx_bin 10 80 (by decide +kernel) rfl (fun _ => i32_n0 (by omega) (by omega)) ?_
            refine fx_c2 164 22 83 1 [7, 7] (f_q22 (by decide +kernel)) (by decide) (fI_n4 _) (fI_n4 _) rfl (by first | decide | omega) ?_
            refine sp_cmem rd.1 rd.2 rm.1 rm.2 (fK1 ?_)
            refine fx_as 138 17 8 84 (by decide +kernel) rfl (by omega) (by omega) rfl (by unfold fR; omega) ?_
            refine fx_inc 2 87 (1) (by decide +kernel) rfl (Or.inr (f_n4p (v := 130) rfl (by decide))) rfl ?_
            dsimp only [List.set]
            refine fx_go 2 (by decide +kernel) ?_
            rw [show ((p : Int)).toNat = p from rfl]
            have b5 : RTb 16 (fu g 16 10 (nxS (nxS (t 11)))) (tU t 11 (nxS (nxS (t 11)))) := RTb_f (j := 10) (k := 11) h.1 (by omega)
            have b6 := RTb_a (v := pKt (t (116 + (t (12 + 7 * p)).toNat)) (fop 10 (dwS (nxS (nxS (t 11)))) (pB (t (116 + (t (12 + 7 * p)).toNat)) 31))) b5 hp (i := 1) (w := 0) (by omega)
            exact sp_cwander_1_table hn kq l' (p + 1) _ _ _ _ k3 ⟨b6, (h.2.1.u (by decide)).u (by decide), ok.1, h.2.2.2.tr ok.2⟩ e
        · refine fx_go 84 (by decide +kernel) ?_
          refine fx_inc 2 87 (1) (by decide +kernel) rfl (Or.inr (f_n4p (v := 130) rfl (by decide))) rfl ?_
          dsimp only [List.set]
          refine fx_go 2 (by decide +kernel) ?_
          have ew2 : wanT t p = tU t 11 (nxS (t 11)) := if_neg (by omega)
          rw [ew2] at e ok k3
          exact sp_cwander_1_table hn kq l' (p + 1) _ _ _ _ k3 ⟨b4, h.2.1.u (by decide), ok.1, h.2.2.2.tr ok.2⟩ e
      · refine fx_zeq 84 21 (by decide +kernel) (by unfold fR; omega) (fun _ => ?_) (fun hc => absurd hc (by decide))
        refine fx_inc 2 87 (1) (by decide +kernel) rfl (Or.inr (f_n4p (v := 130) rfl (by decide))) rfl ?_
        dsimp only [List.set]
        refine fx_go 2 (by decide +kernel) ?_
        have ew : wan1 t p = t := if_neg u
        rw [ew] at e
        exact sp_cwander_1_table hn kq l' (p + 1) t g _ _ (by omega) h e
theorem sp_cwander_table {g : Nat → Nat → Int} {t : Nat → Int} (hn : CN_table g0 t0 segs) (h : CT_table g0 t0 g t) (kq : ∀ g', CT_table g0 t0 g' (wanL (t 3).toNat 0 t) → Q 0 0 g') : fx W r 2 162 0 [346, 130, 7, 7, 7] [] g Q := by
  refine fx_ci (0) 1 (by decide +kernel) ?_
  refine fx_si 2 2 (by decide +kernel) (Or.inr (f_n4p (v := 130) rfl (by decide))) rfl ?_
  dsimp only [List.set]
  exact sp_cwander_1_table hn kq _ 0 t g _ _ (by omega) h rfl
theorem sp_cchill_table {g : Nat → Nat → Int} {t : Nat → Int} {p : Nat} {d : Int} (hn : CN_table g0 t0 segs) (h : CT_table g0 t0 g t) (hp : p < 8) (ha : t (12 + 7 * p) ≠ -1) (hc : eV t segs p (t (12 + 7 * p)) d = 0) (kq : ∀ g', CT_table g0 t0 g' (eaT segs d t p) → Q 0 0 g') : fx W r 1 166 0 [346, 130, fI (p : Int)] [] g Q := by
  obtain ⟨hH, -, -⟩ := h.H hn
  have ok := eaT_ok (segs := segs) (d := d) h.2.2.1 hp ha
  obtain ⟨b3, b4, b7, b9, b10, bp, bc, br, be⟩ := h.2.2.1.1
  have bpp := bp p hp
  have bcp := bc p hp
  have ec : g 20 p = t (18 + 7 * p) := h.1.1.2.2.2.1 p hp
  have epl : g 17 p = t (12 + 7 * p) := h.1.1.1 p hp
  have elm : g 3 9 = t 7 := hH.2.2.2.2.2.1
  have e9 : g 16 9 = t 9 := h.1.1.2.2.2.2.2.2.1
  have hl := h.1.2
  obtain ⟨l5, l5', l6, l10, l10', -⟩ := hl
  have eT : eaT segs d t p = (if t (18 + 7 * p) < t 7 ∧ (if 99 < t (18 + 7 * p) + 1 then 99 else t (18 + 7 * p) + 1) = t 7 then tNote (tU t (12 + 7 * p + 6) (if 99 < t (18 + 7 * p) + 1 then 99 else t (18 + 7 * p) + 1)) p 3 (t (12 + 7 * p)) else tU t (12 + 7 * p + 6) (if 99 < t (18 + 7 * p) + 1 then 99 else t (18 + 7 * p) + 1)) := if_pos hc
  refine fx_la 1 1 (v := 130) (by decide +kernel) rfl (by decide +kernel) ?_
  refine fx_gp 130 16 3 162 4 (by decide +kernel) ?_
  refine fx_li 2 5 (by decide +kernel) rfl ?_
  refine fx_al 162 20 8 6 (by decide +kernel) rfl (by omega) (by omega) rfl ?_
  rw [show ((p : Int)).toNat = p from rfl, ec]
  refine fx_ci (99) 8 (by decide +kernel) ?_
  refine fx_ilt 12 11 (by decide +kernel) (by unfold fR; omega) (by unfold fR; omega) (fun h8 => ?_) (fun h8 => ?_)
  · have v1 : (if 99 < t (18 + 7 * p) + 1 then (99 : Int) else t (18 + 7 * p) + 1) = t (18 + 7 * p) + 1 := if_neg (by omega)
    rw [v1] at eT
    have b5 : RTb 16 (fu g 20 p (t (18 + 7 * p) + 1)) (tU t (12 + 7 * p + 6) (t (18 + 7 * p) + 1)) := RTb_a (v := t (18 + 7 * p) + 1) h.1 hp (i := 4) (w := 6) (by omega)
    refine fx_la 1 13 (v := 130) (by decide +kernel) rfl (by decide +kernel) ?_
    refine fx_gp 130 16 3 162 16 (by decide +kernel) ?_
    refine fx_li 2 17 (by decide +kernel) rfl ?_
    refine fx_dup2 18 (by decide +kernel) rfl (fI_n4 _) (by decide) ?_
    refine fx_al 162 20 8 19 (by decide +kernel) rfl (by omega) (by omega) rfl ?_
    rw [show ((p : Int)).toNat = p from rfl, ec]
    refine fx_ci (1) 20 (by decide +kernel) ?_
    refine fx_add 21 (by decide +kernel) rfl ?_
    refine fx_as 162 20 8 22 (by decide +kernel) rfl (by omega) (by omega) rfl (by unfold fR; omega) ?_
    refine fx_la 1 23 (v := 130) (by decide +kernel) rfl (by decide +kernel) ?_
    refine fx_gp 130 16 3 162 26 (by decide +kernel) ?_
    refine fx_li 2 27 (by decide +kernel) rfl ?_
    refine fx_al 162 20 8 28 (by decide +kernel) rfl (by omega) (by omega) rfl ?_
    try simp only [fu_app, fcy_app, Nat.reduceEqDiff, and_true, and_false, false_and, true_and, if_true, if_false, ite_true, ite_false, reduceIte, Int.reduceToNat, fx_simp0]
    refine fx_la 0 29 (v := 346) (by decide +kernel) rfl (by decide +kernel) ?_
    refine fx_gp 346 43 0 26 32 (by decide +kernel) ?_
    refine fx_gi 26 3 9 35 (by decide +kernel) ?_
    try simp only [fu_app, fcy_app, Nat.reduceEqDiff, and_true, and_false, false_and, true_and, if_true, if_false, ite_true, ite_false, reduceIte, Int.reduceToNat, fx_simp0]
    rw [elm]
    refine fx_ine 50 38 (by decide +kernel) (by unfold fR; omega) (by unfold fR; omega) (fun h35 => ?_) (fun h35 => ?_)
    · refine fx_vret (by decide +kernel) ?_
      rw [if_neg (fun q => by have := q.2; omega)] at eT
      rw [eT] at kq ok
      exact kq _ ⟨b5, h.2.1.u (by decide), ok.1, h.2.2.2.tr ok.2⟩
    · refine fx_la 1 39 (v := 130) (by decide +kernel) rfl (by decide +kernel) ?_
      refine fx_li 2 40 (by decide +kernel) rfl ?_
      refine fx_ci (3) 41 (by decide +kernel) ?_
      refine fx_la 1 42 (v := 130) (by decide +kernel) rfl (by decide +kernel) ?_
      refine fx_gp 130 16 0 138 45 (by decide +kernel) ?_
      refine fx_li 2 46 (by decide +kernel) rfl ?_
      refine fx_al 138 17 8 47 (by decide +kernel) rfl (by omega) (by omega) rfl ?_
      try simp only [fu_app, fcy_app, Nat.reduceEqDiff, and_true, and_false, false_and, true_and, if_true, if_false, ite_true, ite_false, reduceIte, Int.reduceToNat, fx_simp0]
      rw [show ((p : Int)).toNat = p from rfl, epl]
      refine fx_c4 153 21 50 0 [] (by decide +kernel) (by decide) (by decide) (fI_n4 _) (fI_n4 _) (fI_n4 _) rfl (by first | decide | omega) ?_
      refine sp_cnote_table (by rw [fu_nc (by decide)]; exact l5) (by rw [fu_nc (by decide)]; exact l5') (by rw [fu_nc (by decide), l6]; exact l10) (by rw [fu_nc (by decide), l6]; exact l10') (by rw [fu_nc (by decide), e9]; exact b9.1) (by rw [fu_nc (by decide), e9]; exact b9.2) (by omega) (by omega) (by decide) (by decide) (by omega) (by omega) (fK0 ?_)
      refine fx_vret (by decide +kernel) ?_
      rw [if_pos ⟨by omega, by omega⟩] at eT
      rw [eT] at kq ok
      have b6 := RTb_note (p := (p : Int)) (k := 3) (w := t (12 + 7 * p)) b5 (by rw [tU_ne (by omega)]; exact b9.1) (by rw [tU_ne (by omega)]; exact b9.2) (by omega) (by omega) (by decide) (by decide) (by omega) (by omega)
      exact kq _ ⟨b6, (h.2.1.u (by decide)).nt, ok.1, h.2.2.2.tr ok.2⟩
  · refine fx_vret (by decide +kernel) ?_
    have c99 : t (18 + 7 * p) = 99 := by omega
    have eT2 : eaT segs d t p = t := by
      have v1 : (if 99 < t (18 + 7 * p) + 1 then (99 : Int) else t (18 + 7 * p) + 1) = 99 := if_pos (by omega)
      rw [eT, if_neg (fun q => by have := q.1; omega), v1]
      funext k
      unfold tU
      split
      · rename_i q
        rw [q, show 12 + 7 * p + 6 = 18 + 7 * p by omega, c99]
      · rfl
    rw [eT2] at kq
    exact kq g h
theorem sp_ceat_1_table {d N : Int} (hn : CN_table g0 t0 segs) (d0 : 0 ≤ d) (d5 : d ≤ 5) (kq : ∀ g', CT_table g0 t0 g' R → Q 1 (fI N) g') : ∀ (l p : Nat) (t : Nat → Int) (n : Int) (g : Nat → Nat → Int), (p + l : Nat) = (t 3).toNat → d < t 4 → CT_table g0 t0 g t → 0 ≤ n → n ≤ p → eaL segs d l p t = R → eaN segs d l p t n = N → fx W r 4 165 5 [346, 130, fI d, fI n, fI (p : Int)] [] g Q
  | l, p, t, n, g, hl, h4, h, n0, n1, e, en => by
    obtain ⟨hH, hL, hR⟩ := h.H hn
    have b3 := h.2.2.1.1.1
    have b4 := h.2.2.1.1.2.1
    have ep : g 3 4 = t 3 := hH.1
    refine fx_li 4 7 (by decide +kernel) rfl ?_
    refine fx_la 0 8 (v := 346) (by decide +kernel) rfl (by decide +kernel) ?_
    refine fx_gp 346 43 0 26 11 (by decide +kernel) ?_
    refine fx_gi 26 3 4 14 (by decide +kernel) ?_
    rw [ep]
    refine fx_ige 74 17 (by decide +kernel) (by unfold fR; omega) (by first | exact hg 3 4 (by decide) (by decide +kernel) (by decide +kernel) | (unfold fR; omega)) (fun h14 => ?_) (fun h14 => ?_)
    · refine fx_li 3 75 (by decide +kernel) rfl ?_
      refine fx_ret (by decide +kernel) ?_
      have e0 : l = 0 := by omega
      subst e0
      have e : t = R := e
      have en : n = N := en
      subst e en
      exact kq g h
    · obtain ⟨l', rfl⟩ : ∃ l', l = l' + 1 := ⟨l - 1, by omega⟩
      have hp : p < 8 := by omega
      have e : eaL segs d l' (p + 1) (ea1 segs d t p) = R := e
      have en : eaN segs d l' (p + 1) (ea1 segs d t p) (if (t (12 + 7 * p) ≠ -1 ∧ t (17 + 7 * p) ≠ 1) ∧ eV t segs p (t (12 + 7 * p)) d = 0 then n + 1 else n) = N := en
      have ok := ea1_ok (segs := segs) (d := d) (p := p) h.2.2.1 hp
      have k3 : (p + 1 + l' : Nat) = (ea1 segs d t p 3).toNat := by rw [ok.2 3 (by decide)]; omega
      have k4 : d < ea1 segs d t p 4 := by rw [ok.2 4 (by decide)]; exact h4
      have epl : g 17 p = t (12 + 7 * p) := h.1.1.1 p hp
      have bpp := h.2.2.1.1.2.2.2.2.2.1 p hp
      refine fx_la 1 18 (v := 130) (by decide +kernel) rfl (by decide +kernel) ?_
      refine fx_li 4 20 (by decide +kernel) rfl ?_
      refine fx_c2 55 21 23 1 [] (by decide +kernel) (by decide) (by decide) (fI_n4 _) rfl (by first | decide | omega) ?_
      refine sp_cawayR_table h.1.1 hp (fun u => fK1 ?_) (fun u => fK1 ?_)
      · refine fx_zne 29 26 (by decide +kernel) (by unfold fR; omega) (fun _ => ?_) (fun hc => absurd hc (by decide))
        refine fx_la 0 30 (v := 346) (by decide +kernel) rfl (by decide +kernel) ?_
        refine fx_la 1 31 (v := 130) (by decide +kernel) rfl (by decide +kernel) ?_
        refine fx_li 4 33 (by decide +kernel) rfl ?_
        refine fx_la 1 34 (v := 130) (by decide +kernel) rfl (by decide +kernel) ?_
        refine fx_gp 130 16 0 138 37 (by decide +kernel) ?_
        refine fx_li 4 39 (by decide +kernel) rfl ?_
        refine fx_al 138 17 8 40 (by decide +kernel) rfl (by omega) (by omega) rfl ?_
        try simp only [fu_app, fcy_app, Nat.reduceEqDiff, and_true, and_false, false_and, true_and, if_true, if_false, ite_true, ite_false, reduceIte, Int.reduceToNat, fx_simp0]
        rw [show ((p : Int)).toNat = p from rfl, epl]
        refine fx_li 2 41 (by decide +kernel) rfl ?_
        refine fx_c5 143 21 44 3 [7] (by decide +kernel) (by decide) (by decide) (by decide) (fI_n4 _) (fI_n4 _) (fI_n4 _) rfl (by first | decide | omega) ?_
        have ew : ea1 segs d t p = eaT segs d t p := if_pos u
        rw [ew] at e en ok k3 k4
        have hF : cFv_table g p (t (12 + 7 * p)) d = mFv t p (t (12 + 7 * p)) d := cF_m_table hH h.1.1 hp
        have ee : g 6 (d * 8 + t (12 + 7 * p)).toNat = t (68 + (d * 8 + t (12 + 7 * p)).toNat) := hH.2.2.2.2.2.2.2.2.1 _ (by have e5 : g 3 5 = t 4 := hH.2.1; show ((d * 8 + t (12 + 7 * p)).toNat : Int) < 8 * g 3 5; rw [e5]; omega)
        have be := h.2.2.1.1.2.2.2.2.2.2.2.2 (d * 8 + t (12 + 7 * p)).toNat (by omega)
        have hok := hR.ok (mFv_78 t p (t (12 + 7 * p)) d)
        have evb : 0 ≤ eV t segs p (t (12 + 7 * p)) d ∧ eV t segs p (t (12 + 7 * p)) d ≤ 1000 := by
          have hmb := lwM_b (F := mFv t p (t (12 + 7 * p)) d) segs 0 (fun s hs => (hok s hs).2.2)
          have h12 := hR.2.2.2
          unfold eV
          split <;> omega
        refine sp_ceatenBy_table hL (by rw [hF]; exact hok) hp ⟨by omega, bpp.2⟩ ⟨d0, by omega⟩ (by rw [ee]; exact be) (fun g1 x1 => fK1 ?_)
        rw [ee, hF]
        have ev : (if 0 ≤ t (68 + (d * 8 + t (12 + 7 * p)).toNat) + lwM (mFv t p (t (12 + 7 * p)) d) segs 0 then t (68 + (d * 8 + t (12 + 7 * p)).toNat) + lwM (mFv t p (t (12 + 7 * p)) d) segs 0 else 0) = eV t segs p (t (12 + 7 * p)) d := rfl
        rw [ev]
        have h1 := h.fs x1
        refine fx_zne 60 47 (by decide +kernel) (by unfold fR; omega) (fun h44 => ?_) (fun h44 => ?_)
        · refine fx_la 1 61 (v := 130) (by decide +kernel) rfl (by decide +kernel) ?_
          refine fx_gp 130 16 3 162 64 (by decide +kernel) ?_
          refine fx_li 4 66 (by decide +kernel) rfl ?_
          refine fx_ci (0) 67 (by decide +kernel) ?_
          refine fx_as 162 20 8 68 (by decide +kernel) rfl (by omega) (by omega) rfl (by unfold fR; omega) ?_
          refine fx_inc 4 71 (1) (by decide +kernel) rfl (Or.inr (fI_n4 _)) rfl ?_
          dsimp only [List.set]
          refine fx_go 5 (by decide +kernel) ?_
          have ez : ¬ eV t segs p (t (12 + 7 * p)) d = 0 := by omega
          rw [if_neg (fun q => ez q.2)] at en
          have eT : eaT segs d t p = tU t (12 + 7 * p + 6) 0 := if_neg ez
          rw [eT] at e en ok k3 k4
          rw [show ((p : Int)).toNat = p from rfl]
          have b6 := RTb_a (v := 0) h1.1 hp (i := 4) (w := 6) (by omega)
          exact sp_ceat_1_table hn d0 d5 kq l' (p + 1) _ n _ k3 k4 ⟨b6, h1.2.1.u (by decide), ok.1, h1.2.2.2.tr ok.2⟩ n0 (by omega) e en
        · refine fx_inc 3 50 (1) (by decide +kernel) rfl (Or.inr (fI_n4 _)) rfl ?_
          dsimp only [List.set]
          refine fx_la 0 51 (v := 346) (by decide +kernel) rfl (by decide +kernel) ?_
          refine fx_la 1 52 (v := 130) (by decide +kernel) rfl (by decide +kernel) ?_
          refine fx_li 4 54 (by decide +kernel) rfl ?_
          refine fx_c3 166 21 57 1 [] (by decide +kernel) (by decide) (by decide) (by decide) (fI_n4 _) rfl (by first | decide | omega) ?_
          have ez : eV t segs p (t (12 + 7 * p)) d = 0 := by omega
          refine sp_cchill_table (d := d) hn h1 hp u.1 ez (fun g2 h2 => fK0 ?_)
          refine fx_go 68 (by decide +kernel) ?_
          refine fx_inc 4 71 (1) (by decide +kernel) rfl (Or.inr (fI_n4 _)) rfl ?_
          dsimp only [List.set]
          refine fx_go 5 (by decide +kernel) ?_
          rw [if_pos ⟨u, ez⟩] at en
          exact sp_ceat_1_table hn d0 d5 kq l' (p + 1) _ (n + 1) g2 k3 k4 h2 (by omega) (by omega) e en
      · refine fx_zne 29 26 (by decide +kernel) (by unfold fR; omega) (fun hc => absurd hc (by decide)) (fun _ => ?_)
        refine fx_go 68 (by decide +kernel) ?_
        refine fx_inc 4 71 (1) (by decide +kernel) rfl (Or.inr (fI_n4 _)) rfl ?_
        dsimp only [List.set]
        refine fx_go 5 (by decide +kernel) ?_
        have ew : ea1 segs d t p = t := if_neg u
        rw [ew] at e en
        rw [if_neg (fun q => u q.1)] at en
        exact sp_ceat_1_table hn d0 d5 kq l' (p + 1) t n g (by omega) h4 h n0 (by omega) e en
theorem sp_cnight_table {g : Nat → Nat → Int} {t : Nat → Int} {d : Int} {dr : Bool} (hn : CN_table g0 t0 segs) (h : CT_table g0 t0 g t) (hd : d = -1 ∨ (0 ≤ d ∧ d < t 4)) (kq : ∀ g', CT_table g0 t0 g' (niT segs d dr t) → Q 1 (fI (niN segs d (niW dr t))) g') : fx W r 5 161 0 [346, 130, fI d, fI (cond dr 1 0), 7] [] g Q := by
  have b4 := h.2.2.1.1.2.1
  have okW := niW_ok (dr := dr) h.2.2.1
  have w3 : niW dr t 3 = t 3 := okW.2 3 (by decide)
  have w4 : niW dr t 4 = t 4 := okW.2 4 (by decide)
  have nb := niN_b (segs := segs) (d := d) okW.1
  have okE := niE_ok (segs := segs) (d := d) okW.1
  have n9 := okE.1.1.2.2.2.1
  have fin : ∀ (x3 : Int) (g1 : Nat → Nat → Int), CT_table g0 t0 g1 (niE segs d (niW dr t)) → fx W r 5 161 24 [346, 130, fI d, fI x3, 7] [fI (niN segs d (niW dr t))] g1 Q := fun x3 g1 h1 => by
    have k9 := ni9_ok (v := if 9999 < niE segs d (niW dr t) 9 + 1 then 9999 else niE segs d (niW dr t) 9 + 1) okE.1 (by split <;> omega) (by split <;> omega)
    unfold niT at kq
    generalize niN segs d (niW dr t) = n at *
    generalize niE segs d (niW dr t) = t2 at *
    have e9 : g1 16 9 = t2 9 := h1.1.1.2.2.2.2.2.2.1
    refine fx_si 4 26 (by decide +kernel) (Or.inr (fI_n4 _)) rfl ?_
    dsimp only [List.set]
    refine fx_la 1 27 (v := 130) (by decide +kernel) rfl (by decide +kernel) ?_
    refine fx_ci (9999) 30 (by decide +kernel) ?_
    refine fx_la 1 31 (v := 130) (by decide +kernel) rfl (by decide +kernel) ?_
    refine fx_gi 130 16 9 34 (by decide +kernel) ?_
    rw [e9]
    refine fx_ci (1) 35 (by decide +kernel) ?_
    refine fx_add 36 (by decide +kernel) rfl ?_
    refine fx_c2 158 22 39 0 [] (f_q22 (by decide +kernel)) (by decide) (fI_n4 _) (fI_n4 _) rfl (by first | decide | omega) ?_
    refine sp_min9 (by unfold fR; omega) (fK1 ?_)
    have b6 := RTb_f (j := 9) (k := 9) (v := if 9999 < t2 9 + 1 then 9999 else t2 9 + 1) h1.1 (by omega)
    generalize hv : (if 9999 < t2 9 + 1 then 9999 else t2 9 + 1) = v at kq k9 b6 ⊢
    have hv2 : 0 ≤ v ∧ v ≤ 9999 := by rw [← hv]; split <;> omega
    refine fx_pi 130 16 9 42 (by decide +kernel) (by unfold fR; omega) ?_
    refine fx_li 4 44 (by decide +kernel) rfl ?_
    refine fx_ret (by decide +kernel) ?_
    exact kq _ ⟨b6, h1.2.1.u (by decide), k9.1, h1.2.2.2.tr k9.2⟩
  have mid : ∀ (x3 : Int) (g1 : Nat → Nat → Int), CT_table g0 t0 g1 (niW dr t) → fx W r 5 161 9 [346, 130, fI d, fI x3, 7] [] g1 Q := fun x3 g1 h1 => by
    by_cases dm : d = -1
    · have e1 : niE segs d (niW dr t) = niW dr t := if_pos dm
      have e2 : niN segs d (niW dr t) = 0 := if_pos dm
      refine fx_li 2 10 (by decide +kernel) rfl ?_
      refine fx_cn (-1) 11 (by decide +kernel) (fun v10 c10 => ?_)
      refine fx_ine 18 14 (by decide +kernel) (by unfold fR; omega) (by unfold fR; omega) (fun h11 => ?_) (fun h11 => ?_)
      · exfalso; omega
      · refine fx_ci (0) 15 (by decide +kernel) ?_
        refine fx_go 24 (by decide +kernel) ?_
        have f := fin x3 g1 (by rw [e1]; exact h1)
        rw [e2] at f
        exact f
    · have hd2 : 0 ≤ d ∧ d < t 4 := by omega
      have e1 : niE segs d (niW dr t) = eaL segs d (t 3).toNat 0 (niW dr t) := by unfold niE; rw [if_neg dm, w3]
      have e2 : niN segs d (niW dr t) = eaN segs d (t 3).toNat 0 (niW dr t) 0 := by unfold niN; rw [if_neg dm, w3]
      refine fx_li 2 10 (by decide +kernel) rfl ?_
      refine fx_cn (-1) 11 (by decide +kernel) (fun v10 c10 => ?_)
      refine fx_ine 18 14 (by decide +kernel) (by unfold fR; omega) (by unfold fR; omega) (fun h11 => ?_) (fun h11 => ?_)
      · refine fx_la 0 19 (v := 346) (by decide +kernel) rfl (by decide +kernel) ?_
        refine fx_la 1 20 (v := 130) (by decide +kernel) rfl (by decide +kernel) ?_
        refine fx_li 2 21 (by decide +kernel) rfl ?_
        refine fx_c3 165 21 24 4 [7, 7] (by decide +kernel) (by decide) (by decide) (by decide) (fI_n4 _) rfl (by first | decide | omega) ?_
        refine fx_ci (0) 1 (by decide +kernel) ?_
        refine fx_si 3 2 (by decide +kernel) (Or.inr (fI_n4 _)) rfl ?_
        dsimp only [List.set]
        refine fx_ci (0) 3 (by decide +kernel) ?_
        refine fx_si 4 5 (by decide +kernel) (Or.inr (fI_n4 _)) rfl ?_
        dsimp only [List.set]
        refine sp_ceat_1_table (R := niE segs d (niW dr t)) (N := niN segs d (niW dr t)) hn hd2.1 (by omega) (fun g2 h2 => fK1 ?_) (t 3).toNat 0 (niW dr t) 0 g1 (by rw [w3]; omega) (by rw [w4]; exact hd2.2) h1 (by decide) (by decide) e1.symm e2.symm
        exact fin x3 g2 h2
      · exfalso; omega
  cases dr with
  | false =>
    rw [show (cond false (1 : Int) 0) = 0 from rfl]
    refine fx_li 3 1 (by decide +kernel) rfl ?_
    refine fx_zeq 9 4 (by decide +kernel) (by unfold fR; omega) (fun _ => ?_) (fun hc => absurd hc (by decide))
    exact mid 0 g h
  | true =>
    rw [show (cond true (1 : Int) 0) = 1 from rfl]
    refine fx_li 3 1 (by decide +kernel) rfl ?_
    refine fx_zeq 9 4 (by decide +kernel) (by unfold fR; omega) (fun hc => absurd hc (by decide)) (fun _ => ?_)
    refine fx_la 0 5 (v := 346) (by decide +kernel) rfl (by decide +kernel) ?_
    refine fx_la 1 6 (v := 130) (by decide +kernel) rfl (by decide +kernel) ?_
    refine fx_c2 162 21 9 2 [7, 7, 7] (by decide +kernel) (by decide) (by decide) (by decide) rfl (by first | decide | omega) ?_
    refine sp_cwander_table hn h (fun g1 h1 => fK0 ?_)
    exact mid 1 g1 h1
theorem sp_cnights_1_table {N : Int} {dr : Bool} {nn : Nat} (hn : CN_table g0 t0 segs) (h60 : nn ≤ 60) (kq : ∀ g', CT_table g0 t0 g' R → Q 1 (fI N) g') : ∀ (l k : Nat) (t : Nat → Int) (a : Int) (g : Nat → Nat → Int) (x6 : Nat), k + l = nn → CT_table g0 t0 g t → 0 ≤ a → a ≤ 8 * k → goL segs dr l t = R → goN segs dr l t a = N → fx W r 6 178 6 [346, 130, fI (nn : Int), fI (cond dr 1 0), fI a, fI (k : Int), x6] [] g Q
  | l, k, t, a, g, x6, hl, h, a0, a1, e, en => by
    obtain ⟨hH, -, -⟩ := h.H hn
    have b4 := h.2.2.1.1.2.1
    have b9 := h.2.2.1.1.2.2.2.1
    have db := dsT_b h.2.2.1
    have ed4 : g 3 5 = t 4 := hH.2.1
    have e9 : g 16 9 = t 9 := h.1.1.2.2.2.2.2.2.1
    have hdr : (cond dr (1 : Int) 0) = 0 ∨ (cond dr (1 : Int) 0) = 1 := by cases dr <;> simp
    refine fx_li 5 8 (by decide +kernel) rfl ?_
    refine fx_li 2 9 (by decide +kernel) rfl ?_
    refine fx_ige 59 12 (by decide +kernel) (by unfold fR; omega) (by unfold fR; omega) (fun h9 => ?_) (fun h9 => ?_)
    · refine fx_li 4 61 (by decide +kernel) rfl ?_
      refine fx_ret (by decide +kernel) ?_
      have e0 : l = 0 := by omega
      subst e0
      have e : t = R := e
      have en : a = N := en
      subst e en
      exact kq g h
    · obtain ⟨l', rfl⟩ : ∃ l', l = l' + 1 := ⟨l - 1, by omega⟩
      have e : goL segs dr l' (niT segs (dsT t) dr t) = R := e
      have en : goN segs dr l' (niT segs (dsT t) dr t) (a + niN segs (dsT t) (niW dr t)) = N := en
      have nb := niN_b (segs := segs) (d := dsT t) (niW_ok (dr := dr) h.2.2.1).1
      refine fx_la 0 13 (v := 346) (by decide +kernel) rfl (by decide +kernel) ?_
      refine fx_gp 346 43 0 26 16 (by decide +kernel) ?_
      refine fx_gi 26 3 5 19 (by decide +kernel) ?_
      rw [ed4]
      refine fx_zne 26 22 (by decide +kernel) (by first | exact hg 3 5 (by decide) (by decide +kernel) (by decide +kernel) | (unfold fR; omega)) (fun h19 => ?_) (fun h19 => ?_)
      · refine fx_la 1 27 (v := 130) (by decide +kernel) rfl (by decide +kernel) ?_
        refine fx_gi 130 16 9 30 (by decide +kernel) ?_
        rw [e9]
        refine fx_la 0 31 (v := 346) (by decide +kernel) rfl (by decide +kernel) ?_
        refine fx_gp 346 43 0 26 34 (by decide +kernel) ?_
        refine fx_gi 26 3 5 37 (by decide +kernel) ?_
        rw [ed4]
        refine fx_bin 10 38 (by decide +kernel) rfl (fun _ => i32_n0 (by omega) (by omega)) ?_
        have ed : dsT t = t 9 % t 4 := if_neg h19
        rw [fop_rm b9.1 (by omega) (by omega) (by omega), ← ed]
        refine fx_si 6 40 (by decide +kernel) (Or.inr (fI_n4 _)) rfl ?_
        dsimp only [List.set]
        refine fx_li 4 42 (by decide +kernel) rfl ?_
        refine fx_la 0 43 (v := 346) (by decide +kernel) rfl (by decide +kernel) ?_
        refine fx_la 1 44 (v := 130) (by decide +kernel) rfl (by decide +kernel) ?_
        refine fx_li 6 46 (by decide +kernel) rfl ?_
        refine fx_li 3 47 (by decide +kernel) rfl ?_
        refine fx_c4 161 21 50 5 [7] (by decide +kernel) (by decide) (by decide) (by decide) (fI_n4 _) (fI_n4 _) rfl (by first | decide | omega) ?_
        refine sp_cnight_table hn h (by omega) (fun g2 h2 => fK1 ?_)
        refine fx_add 51 (by decide +kernel) rfl ?_
        refine fx_si 4 53 (by decide +kernel) (Or.inr (fI_n4 _)) rfl ?_
        dsimp only [List.set]
        refine fx_inc 5 56 (1) (by decide +kernel) rfl (Or.inr (fI_n4 _)) rfl ?_
        dsimp only [List.set]
        refine fx_go 6 (by decide +kernel) ?_
        exact sp_cnights_1_table hn h60 kq l' (k + 1) _ _ g2 _ (by omega) h2 (by omega) (by omega) e en
      · refine fx_cn (-1) 23 (by decide +kernel) (fun v22 c22 => ?_)
        refine fx_go 38 (by decide +kernel) ?_
        have ed : dsT t = -1 := if_pos h19
        rw [c22, ← ed]
        refine fx_si 6 40 (by decide +kernel) (Or.inr (fI_n4 _)) rfl ?_
        dsimp only [List.set]
        refine fx_li 4 42 (by decide +kernel) rfl ?_
        refine fx_la 0 43 (v := 346) (by decide +kernel) rfl (by decide +kernel) ?_
        refine fx_la 1 44 (v := 130) (by decide +kernel) rfl (by decide +kernel) ?_
        refine fx_li 6 46 (by decide +kernel) rfl ?_
        refine fx_li 3 47 (by decide +kernel) rfl ?_
        refine fx_c4 161 21 50 5 [7] (by decide +kernel) (by decide) (by decide) (by decide) (fI_n4 _) (fI_n4 _) rfl (by first | decide | omega) ?_
        refine sp_cnight_table hn h (by omega) (fun g2 h2 => fK1 ?_)
        refine fx_add 51 (by decide +kernel) rfl ?_
        refine fx_si 4 53 (by decide +kernel) (Or.inr (fI_n4 _)) rfl ?_
        dsimp only [List.set]
        refine fx_inc 5 56 (1) (by decide +kernel) rfl (Or.inr (fI_n4 _)) rfl ?_
        dsimp only [List.set]
        refine fx_go 6 (by decide +kernel) ?_
        exact sp_cnights_1_table hn h60 kq l' (k + 1) _ _ g2 _ (by omega) h2 (by omega) (by omega) e en
theorem sp_cnights_table {g : Nat → Nat → Int} {t : Nat → Int} {dr : Bool} {nn : Nat} (hn : CN_table g0 t0 segs) (h60 : nn ≤ 60) (h : CT_table g0 t0 g t) (kq : ∀ g', CT_table g0 t0 g' (goL segs dr nn t) → Q 1 (fI (goN segs dr nn t 0)) g') : fx W r 6 178 0 [346, 130, fI (nn : Int), fI (cond dr 1 0), 7, 7, 7] [] g Q := by
  refine fx_ci (0) 1 (by decide +kernel) ?_
  refine fx_si 4 3 (by decide +kernel) (Or.inr (fI_n4 _)) rfl ?_
  dsimp only [List.set]
  refine fx_ci (0) 4 (by decide +kernel) ?_
  refine fx_si 5 6 (by decide +kernel) (Or.inr (fI_n4 _)) rfl ?_
  dsimp only [List.set]
  exact sp_cnights_1_table hn h60 kq nn 0 t 0 g _ (by omega) h (by decide) (by decide) rfl rfl
end FIK_table
/-- where a night of the table scratch stands -/
def fTF_scratch (g0 g : Nat → Nat → Int) : Prop := ∀ c j, ¬ (22 ≤ c ∧ c ≤ 27) → c ≠ 14 → c ≠ 15 → g c j = g0 c j
/-- what is given ahead of it -/
def CN_scratch (g0 : Nat → Nat → Int) (t0 : Nat → Int) (segs : List (List Int × Int × Int)) : Prop := RHf 3 g0 t0 ∧ g0 3 5 ≤ 6 ∧ LwL g0 segs ∧ LwR t0 segs
def CT_scratch (g0 : Nat → Nat → Int) (t0 : Nat → Int) (g : Nat → Nat → Int) (t : Nat → Int) : Prop := RTb 22 g t ∧ fTF_scratch g0 g ∧ NI t ∧ NF t0 t
theorem fTF_scratch.rf {g : Nat → Nat → Int} : fTF_scratch g g := fun _ _ _ _ _ => rfl
theorem fTF_scratch.u {g0 g : Nat → Nat → Int} {c j : Nat} {z : Int} (h : fTF_scratch g0 g) (hc : 22 ≤ c ∧ c ≤ 27) : fTF_scratch g0 (fu g c j z) := fun c' j' a b d => by rw [fu_nc (by omega)]; exact h c' j' a b d
theorem fTF_scratch.fs {g0 g g' : Nat → Nat → Int} (h : fTF_scratch g0 g) (x : fFS g g') : fTF_scratch g0 g' := fun c' j' a b d => by rw [x c' j' b d]; exact h c' j' a b d
theorem fTF_scratch.nt {g0 g : Nat → Nat → Int} {p k w : Int} (h : fTF_scratch g0 g) : fTF_scratch g0 (cNote 22 g p k w) := fun c' j' a b d => by
  rw [cNote_ne (by omega) (by omega)]
  exact h c' j' a b d
theorem CT_scratch.fs {g0 g g' : Nat → Nat → Int} {t0 t : Nat → Int} (h : CT_scratch g0 t0 g t) (x : fFS g g') : CT_scratch g0 t0 g' t := ⟨RTb_cg h.1 (fun j _ _ => x _ _ (by decide) (by decide)) (fun k j _ _ => x _ _ (by omega) (by omega)) (fun _ _ => rfl), h.2.1.fs x, h.2.2⟩
theorem CT_scratch.H {g0 g : Nat → Nat → Int} {t0 t : Nat → Int} {segs : List (List Int × Int × Int)} (h : CT_scratch g0 t0 g t) (n : CN_scratch g0 t0 segs) : RHf 3 g t ∧ LwL g segs ∧ LwR t segs := by
  obtain ⟨n1, n2, n3, n4⟩ := n
  obtain ⟨h1, h2, h3, h4⟩ := h
  have q : RHf 3 g t0 := RHf_eq n1 (fun j _ _ => h2 _ _ (by decide) (by decide) (by decide)) (fun i j i1 i2 => h2 _ _ (by omega) (by omega) (by omega))
  exact ⟨RHf_nf q (by rw [h2 _ _ (by decide) (by decide) (by decide)]; exact n2) h4, n3.cg (h2 _ _ (by decide) (by decide) (by decide)) (fun i j i1 i2 => h2 _ _ (by omega) (by omega) (by omega)), n4.nf h4⟩
section FIK_scratch
variable {W : ax_W} {r : Nat} {g0 : Nat → Nat → Int} {t0 R : Nat → Int} {Q : Nat → Nat → (Nat → Nat → Int) → Prop} {segs : List (List Int × Int × Int)}
theorem sp_cawayR_scratch {g : Nat → Nat → Int} {t : Nat → Int} {p : Nat} (h : RTf 22 g t) (hp : p < 8) (k1 : t (12 + 7 * p) ≠ -1 ∧ t (17 + 7 * p) ≠ 1 → Q 1 (fI 1) g) (k2 : ¬ (t (12 + 7 * p) ≠ -1 ∧ t (17 + 7 * p) ≠ 1) → Q 1 (fI 0) g) : fx W r 1 55 0 [178, fI (p : Int)] [] g Q := by
  have e1 : g 23 p = t (12 + 7 * p) := h.1 p hp
  have e2 : fbt (g 22 7) p = t (17 + 7 * p) := h.2.2.2.2.1 p hp
  refine sp_cisAway_scratch hp (fun u => ?_) (fun u => ?_)
  · rw [e1, e2] at u; exact k1 u
  · rw [e1, e2] at u; exact k2 u
theorem sp_cwander_1_scratch (hn : CN_scratch g0 t0 segs) (kq : ∀ g', CT_scratch g0 t0 g' R → Q 0 0 g') : ∀ (l p : Nat) (t : Nat → Int) (g : Nat → Nat → Int) (x3 x4 : Nat), (p + l : Nat) = (t 3).toNat → CT_scratch g0 t0 g t → wanL l p t = R → fx W r 2 162 2 [346, 178, fI (p : Int), x3, x4] [] g Q
  | l, p, t, g, x3, x4, hl, h, e => by
    obtain ⟨hH, -, -⟩ := h.H hn
    have b3 := h.2.2.1.1.1
    have ep : g 3 4 = t 3 := hH.1
    refine fx_rg (fun hg => ?_)
    have rwk := hg 3 8 (by decide) (by decide +kernel) (by decide +kernel)
    have ewk : g 3 8 = t 6 := hH.2.2.2.2.1
    rw [ewk] at rwk
    unfold fR at rwk
    refine fx_li 2 3 (by decide +kernel) rfl ?_
    refine fx_la 0 4 (v := 346) (by decide +kernel) rfl (by decide +kernel) ?_
    refine fx_gp 346 43 0 26 7 (by decide +kernel) ?_
    refine fx_gi 26 3 4 10 (by decide +kernel) ?_
    rw [ep]
    refine fx_ige 90 13 (by decide +kernel) (by unfold fR; omega) (by first | exact hg 3 4 (by decide) (by decide +kernel) (by decide +kernel) | (unfold fR; omega)) (fun h10 => ?_) (fun h10 => ?_)
    · refine fx_vret (by decide +kernel) ?_
      have e0 : l = 0 := by omega
      subst e0
      have e : t = R := e
      subst e
      exact kq g h
    · obtain ⟨l', rfl⟩ : ∃ l', l = l' + 1 := ⟨l - 1, by omega⟩
      have hp : p < 8 := by omega
      have e : wanL l' (p + 1) (wan1 t p) = R := e
      have ok := wan1_ok (p := p) h.2.2.1 hp
      have k3 : (p + 1 + l' : Nat) = (wan1 t p 3).toNat := by rw [ok.2 3 (by decide)]; omega
      have es : g 22 10 = t 11 := h.1.1.2.2.2.2.2.2.2
      have epl : g 23 p = t (12 + 7 * p) := h.1.1.1 p hp
      have b4 : RTb 22 (fu g 22 10 (nxS (t 11))) (tU t 11 (nxS (t 11))) := RTb_f (j := 10) (k := 11) h.1 (by omega)
      have bpp := h.2.2.1.1.2.2.2.2.2.1 p hp
      have d1 := dwS_b (nxS (t 11))
      have d2 := dwS_b (nxS (nxS (t 11)))
      have m1 := fop_rm_b (d := dwS (nxS (t 11))) (n := 100) d1.1 (by omega) (by decide) (by decide)
      refine fx_la 1 14 (v := 178) (by decide +kernel) rfl (by decide +kernel) ?_
      refine fx_li 2 15 (by decide +kernel) rfl ?_
      refine fx_c2 55 21 18 1 [] (by decide +kernel) (by decide) (by decide) (fI_n4 _) rfl (by first | decide | omega) ?_
      refine sp_cawayR_scratch h.1.1 hp (fun u => fK1 ?_) (fun u => fK1 ?_)
      · refine fx_zeq 84 21 (by decide +kernel) (by unfold fR; omega) (fun hc => absurd hc (by decide)) (fun _ => ?_)
        refine fx_la 1 22 (v := 178) (by decide +kernel) rfl (by decide +kernel) ?_
        refine fx_c1 163 21 25 0 [] (by decide +kernel) (by decide) rfl (by first | decide | omega) ?_
        have ew : wan1 t p = wanT t p := if_pos u
        rw [ew] at e ok k3
        refine sp_cdraw_scratch (fK1 ?_)
        rw [es]
        refine fx_ci (100) 27 (by decide +kernel) ?_
        refine fx_bin 10 28 (by decide +kernel) rfl (fun _ => by decide) ?_
        refine fx_la 0 29 (v := 346) (by decide +kernel) rfl (by decide +kernel) ?_
        refine fx_gp 346 43 0 26 32 (by decide +kernel) ?_
        refine fx_gi 26 3 8 35 (by decide +kernel) ?_
        try simp only [fu_app, fcy_app, Nat.reduceEqDiff, and_true, and_false, false_and, true_and, if_true, if_false, ite_true, ite_false, reduceIte, Int.reduceToNat, fx_simp0]
        rw [ewk]
        refine fx_ilt 41 38 (by decide +kernel) (by first | exact fop_R _ _ _ | (unfold fR; omega)) (by unfold fR; omega) (fun h35 => ?_) (fun h35 => ?_)
        · have rd : 0 ≤ t (116 + (t (12 + 7 * p)).toNat) ∧ t (116 + (t (12 + 7 * p)).toNat) ≤ 255 := h.2.2.1.1.2.2.2.2.2.2.2.1 _ (by omega)
          have erd : g 7 (t (12 + 7 * p)).toNat = t (116 + (t (12 + 7 * p)).toNat) := hH.2.2.2.2.2.2.2.2.2 _ (by omega)
          have hb := pB_b rd.1 rd.2
          refine fx_la 0 42 (v := 346) (by decide +kernel) rfl (by decide +kernel) ?_
          refine fx_gp 346 43 0 26 45 (by decide +kernel) ?_
          refine fx_gp 26 3 3 58 48 (by decide +kernel) ?_
          refine fx_la 1 49 (v := 178) (by decide +kernel) rfl (by decide +kernel) ?_
          refine fx_gp 178 22 0 186 52 (by decide +kernel) ?_
          refine fx_li 2 53 (by decide +kernel) rfl ?_
          refine fx_al 186 23 8 54 (by decide +kernel) rfl (by omega) (by omega) rfl ?_
          try simp only [fu_app, fcy_app, Nat.reduceEqDiff, and_true, and_false, false_and, true_and, if_true, if_false, ite_true, ite_false, reduceIte, Int.reduceToNat, fx_simp0]
          rw [show ((p : Int)).toNat = p from rfl, epl]
          refine fx_al 58 7 8 55 (by decide +kernel) rfl (by omega) (by omega) rfl ?_
          try simp only [fu_app, fcy_app, Nat.reduceEqDiff, and_true, and_false, false_and, true_and, if_true, if_false, ite_true, ite_false, reduceIte, Int.reduceToNat, fx_simp0]
          rw [erd]
          refine fx_si 3 56 (by decide +kernel) (Or.inr (fI_n4 _)) rfl ?_
          dsimp only [List.set]
          refine fx_li 3 57 (by decide +kernel) rfl ?_
          refine fx_c1 20 22 60 0 [] (f_q22 (by decide +kernel)) (fI_n4 _) rfl (by first | decide | omega) ?_
          refine sp_bitCount8 rd.1 rd.2 (fK1 ?_)
          refine fx_si 4 62 (by decide +kernel) (Or.inr (fI_n4 _)) rfl ?_
          dsimp only [List.set]
          refine fx_li 4 64 (by decide +kernel) rfl ?_
          refine fx_zle 84 67 (by decide +kernel) (by unfold fR; omega) (fun h64 => ?_) (fun h64 => ?_)
          · refine fx_inc 2 87 (1) (by decide +kernel) rfl (Or.inr (f_n4p (v := 178) rfl (by decide))) rfl ?_
            dsimp only [List.set]
            refine fx_go 2 (by decide +kernel) ?_
            have z0 : t (116 + (t (12 + 7 * p)).toNat) = 0 := Classical.byContradiction (fun q => by have := hb.2.2.1 q; omega)
            have ew2 : wanT t p = tU t 11 (nxS (t 11)) := by unfold wanT; rw [if_pos (by omega), if_pos z0]
            rw [ew2] at e ok k3
            exact sp_cwander_1_scratch hn kq l' (p + 1) _ _ _ _ k3 ⟨b4, h.2.1.u (by decide), ok.1, h.2.2.2.tr ok.2⟩ e
          · have z0 : ¬ t (116 + (t (12 + 7 * p)).toNat) = 0 := fun q => by have := hb.2.2.2 q; omega
            have rm := fop_rm_b (d := dwS (nxS (nxS (t 11)))) (n := pB (t (116 + (t (12 + 7 * p)).toNat)) 31) d2.1 (by omega) (by omega) (by omega)
            obtain ⟨-, -, -, q0, q1⟩ := pM_ok rd.1 rd.2 rm.1 rm.2
            have ew2 : wanT t p = tU (tU t 11 (nxS (nxS (t 11)))) (12 + 7 * p + 0) (pKt (t (116 + (t (12 + 7 * p)).toNat)) (fop 10 (dwS (nxS (nxS (t 11)))) (pB (t (116 + (t (12 + 7 * p)).toNat)) 31))) := by unfold wanT; rw [if_pos (by omega), if_neg z0]
            rw [ew2] at e ok k3
            refine fx_la 1 68 (v := 178) (by decide +kernel) rfl (by decide +kernel) ?_
            refine fx_gp 178 22 0 186 71 (by decide +kernel) ?_
            refine fx_li 2 72 (by decide +kernel) rfl ?_
            refine fx_li 3 73 (by decide +kernel) rfl ?_
            refine fx_la 1 74 (v := 178) (by decide +kernel) rfl (by decide +kernel) ?_
            refine fx_c1 163 21 77 0 [] (by decide +kernel) (by decide) rfl (by first | decide | omega) ?_
            refine sp_cdraw_scratch (fK1 ?_)
            rw [fu_eq, fu_fu]
            refine fx_li 4 79 (by decide +kernel) rfl ?_
            refine fx_bin 10 80 (by decide +kernel) rfl (fun _ => i32_n0 (by omega) (by omega)) ?_
            refine fx_c2 164 22 83 1 [7, 7] (f_q22 (by decide +kernel)) (by decide) (fI_n4 _) (fI_n4 _) rfl (by first | decide | omega) ?_
            refine sp_cmem rd.1 rd.2 rm.1 rm.2 (fK1 ?_)
            refine fx_as 186 23 8 84 (by decide +kernel) rfl (by omega) (by omega) rfl (by unfold fR; omega) ?_
            refine fx_inc 2 87 (1) (by decide +kernel) rfl (Or.inr (f_n4p (v := 178) rfl (by decide))) rfl ?_
            dsimp only [List.set]
            refine fx_go 2 (by decide +kernel) ?_
            rw [show ((p : Int)).toNat = p from rfl]
            have b5 : RTb 22 (fu g 22 10 (nxS (nxS (t 11)))) (tU t 11 (nxS (nxS (t 11)))) := RTb_f (j := 10) (k := 11) h.1 (by omega)
            have b6 := RTb_a (v := pKt (t (116 + (t (12 + 7 * p)).toNat)) (fop 10 (dwS (nxS (nxS (t 11)))) (pB (t (116 + (t (12 + 7 * p)).toNat)) 31))) b5 hp (i := 1) (w := 0) (by omega)
            exact sp_cwander_1_scratch hn kq l' (p + 1) _ _ _ _ k3 ⟨b6, (h.2.1.u (by decide)).u (by decide), ok.1, h.2.2.2.tr ok.2⟩ e
        · refine fx_go 84 (by decide +kernel) ?_
          refine fx_inc 2 87 (1) (by decide +kernel) rfl (Or.inr (f_n4p (v := 178) rfl (by decide))) rfl ?_
          dsimp only [List.set]
          refine fx_go 2 (by decide +kernel) ?_
          have ew2 : wanT t p = tU t 11 (nxS (t 11)) := if_neg (by omega)
          rw [ew2] at e ok k3
          exact sp_cwander_1_scratch hn kq l' (p + 1) _ _ _ _ k3 ⟨b4, h.2.1.u (by decide), ok.1, h.2.2.2.tr ok.2⟩ e
      · refine fx_zeq 84 21 (by decide +kernel) (by unfold fR; omega) (fun _ => ?_) (fun hc => absurd hc (by decide))
        refine fx_inc 2 87 (1) (by decide +kernel) rfl (Or.inr (f_n4p (v := 178) rfl (by decide))) rfl ?_
        dsimp only [List.set]
        refine fx_go 2 (by decide +kernel) ?_
        have ew : wan1 t p = t := if_neg u
        rw [ew] at e
        exact sp_cwander_1_scratch hn kq l' (p + 1) t g _ _ (by omega) h e
theorem sp_cwander_scratch {g : Nat → Nat → Int} {t : Nat → Int} (hn : CN_scratch g0 t0 segs) (h : CT_scratch g0 t0 g t) (kq : ∀ g', CT_scratch g0 t0 g' (wanL (t 3).toNat 0 t) → Q 0 0 g') : fx W r 2 162 0 [346, 178, 7, 7, 7] [] g Q := by
  refine fx_ci (0) 1 (by decide +kernel) ?_
  refine fx_si 2 2 (by decide +kernel) (Or.inr (f_n4p (v := 178) rfl (by decide))) rfl ?_
  dsimp only [List.set]
  exact sp_cwander_1_scratch hn kq _ 0 t g _ _ (by omega) h rfl
theorem sp_cchill_scratch {g : Nat → Nat → Int} {t : Nat → Int} {p : Nat} {d : Int} (hn : CN_scratch g0 t0 segs) (h : CT_scratch g0 t0 g t) (hp : p < 8) (ha : t (12 + 7 * p) ≠ -1) (hc : eV t segs p (t (12 + 7 * p)) d = 0) (kq : ∀ g', CT_scratch g0 t0 g' (eaT segs d t p) → Q 0 0 g') : fx W r 1 166 0 [346, 178, fI (p : Int)] [] g Q := by
  obtain ⟨hH, -, -⟩ := h.H hn
  have ok := eaT_ok (segs := segs) (d := d) h.2.2.1 hp ha
  obtain ⟨b3, b4, b7, b9, b10, bp, bc, br, be⟩ := h.2.2.1.1
  have bpp := bp p hp
  have bcp := bc p hp
  have ec : g 26 p = t (18 + 7 * p) := h.1.1.2.2.2.1 p hp
  have epl : g 23 p = t (12 + 7 * p) := h.1.1.1 p hp
  have elm : g 3 9 = t 7 := hH.2.2.2.2.2.1
  have e9 : g 22 9 = t 9 := h.1.1.2.2.2.2.2.2.1
  have hl := h.1.2
  obtain ⟨l5, l5', l6, l10, l10', -⟩ := hl
  have eT : eaT segs d t p = (if t (18 + 7 * p) < t 7 ∧ (if 99 < t (18 + 7 * p) + 1 then 99 else t (18 + 7 * p) + 1) = t 7 then tNote (tU t (12 + 7 * p + 6) (if 99 < t (18 + 7 * p) + 1 then 99 else t (18 + 7 * p) + 1)) p 3 (t (12 + 7 * p)) else tU t (12 + 7 * p + 6) (if 99 < t (18 + 7 * p) + 1 then 99 else t (18 + 7 * p) + 1)) := if_pos hc
  refine fx_la 1 1 (v := 178) (by decide +kernel) rfl (by decide +kernel) ?_
  refine fx_gp 178 22 3 210 4 (by decide +kernel) ?_
  refine fx_li 2 5 (by decide +kernel) rfl ?_
  refine fx_al 210 26 8 6 (by decide +kernel) rfl (by omega) (by omega) rfl ?_
  rw [show ((p : Int)).toNat = p from rfl, ec]
  refine fx_ci (99) 8 (by decide +kernel) ?_
  refine fx_ilt 12 11 (by decide +kernel) (by unfold fR; omega) (by unfold fR; omega) (fun h8 => ?_) (fun h8 => ?_)
  · have v1 : (if 99 < t (18 + 7 * p) + 1 then (99 : Int) else t (18 + 7 * p) + 1) = t (18 + 7 * p) + 1 := if_neg (by omega)
    rw [v1] at eT
    have b5 : RTb 22 (fu g 26 p (t (18 + 7 * p) + 1)) (tU t (12 + 7 * p + 6) (t (18 + 7 * p) + 1)) := RTb_a (v := t (18 + 7 * p) + 1) h.1 hp (i := 4) (w := 6) (by omega)
    refine fx_la 1 13 (v := 178) (by decide +kernel) rfl (by decide +kernel) ?_
    refine fx_gp 178 22 3 210 16 (by decide +kernel) ?_
    refine fx_li 2 17 (by decide +kernel) rfl ?_
    refine fx_dup2 18 (by decide +kernel) rfl (fI_n4 _) (by decide) ?_
    refine fx_al 210 26 8 19 (by decide +kernel) rfl (by omega) (by omega) rfl ?_
    rw [show ((p : Int)).toNat = p from rfl, ec]
    refine fx_ci (1) 20 (by decide +kernel) ?_
    refine fx_add 21 (by decide +kernel) rfl ?_
    refine fx_as 210 26 8 22 (by decide +kernel) rfl (by omega) (by omega) rfl (by unfold fR; omega) ?_
    refine fx_la 1 23 (v := 178) (by decide +kernel) rfl (by decide +kernel) ?_
    refine fx_gp 178 22 3 210 26 (by decide +kernel) ?_
    refine fx_li 2 27 (by decide +kernel) rfl ?_
    refine fx_al 210 26 8 28 (by decide +kernel) rfl (by omega) (by omega) rfl ?_
    try simp only [fu_app, fcy_app, Nat.reduceEqDiff, and_true, and_false, false_and, true_and, if_true, if_false, ite_true, ite_false, reduceIte, Int.reduceToNat, fx_simp0]
    refine fx_la 0 29 (v := 346) (by decide +kernel) rfl (by decide +kernel) ?_
    refine fx_gp 346 43 0 26 32 (by decide +kernel) ?_
    refine fx_gi 26 3 9 35 (by decide +kernel) ?_
    try simp only [fu_app, fcy_app, Nat.reduceEqDiff, and_true, and_false, false_and, true_and, if_true, if_false, ite_true, ite_false, reduceIte, Int.reduceToNat, fx_simp0]
    rw [elm]
    refine fx_ine 50 38 (by decide +kernel) (by unfold fR; omega) (by unfold fR; omega) (fun h35 => ?_) (fun h35 => ?_)
    · refine fx_vret (by decide +kernel) ?_
      rw [if_neg (fun q => by have := q.2; omega)] at eT
      rw [eT] at kq ok
      exact kq _ ⟨b5, h.2.1.u (by decide), ok.1, h.2.2.2.tr ok.2⟩
    · refine fx_la 1 39 (v := 178) (by decide +kernel) rfl (by decide +kernel) ?_
      refine fx_li 2 40 (by decide +kernel) rfl ?_
      refine fx_ci (3) 41 (by decide +kernel) ?_
      refine fx_la 1 42 (v := 178) (by decide +kernel) rfl (by decide +kernel) ?_
      refine fx_gp 178 22 0 186 45 (by decide +kernel) ?_
      refine fx_li 2 46 (by decide +kernel) rfl ?_
      refine fx_al 186 23 8 47 (by decide +kernel) rfl (by omega) (by omega) rfl ?_
      try simp only [fu_app, fcy_app, Nat.reduceEqDiff, and_true, and_false, false_and, true_and, if_true, if_false, ite_true, ite_false, reduceIte, Int.reduceToNat, fx_simp0]
      rw [show ((p : Int)).toNat = p from rfl, epl]
      refine fx_c4 153 21 50 0 [] (by decide +kernel) (by decide) (by decide) (fI_n4 _) (fI_n4 _) (fI_n4 _) rfl (by first | decide | omega) ?_
      refine sp_cnote_scratch (by rw [fu_nc (by decide)]; exact l5) (by rw [fu_nc (by decide)]; exact l5') (by rw [fu_nc (by decide), l6]; exact l10) (by rw [fu_nc (by decide), l6]; exact l10') (by rw [fu_nc (by decide), e9]; exact b9.1) (by rw [fu_nc (by decide), e9]; exact b9.2) (by omega) (by omega) (by decide) (by decide) (by omega) (by omega) (fK0 ?_)
      refine fx_vret (by decide +kernel) ?_
      rw [if_pos ⟨by omega, by omega⟩] at eT
      rw [eT] at kq ok
      have b6 := RTb_note (p := (p : Int)) (k := 3) (w := t (12 + 7 * p)) b5 (by rw [tU_ne (by omega)]; exact b9.1) (by rw [tU_ne (by omega)]; exact b9.2) (by omega) (by omega) (by decide) (by decide) (by omega) (by omega)
      exact kq _ ⟨b6, (h.2.1.u (by decide)).nt, ok.1, h.2.2.2.tr ok.2⟩
  · refine fx_vret (by decide +kernel) ?_
    have c99 : t (18 + 7 * p) = 99 := by omega
    have eT2 : eaT segs d t p = t := by
      have v1 : (if 99 < t (18 + 7 * p) + 1 then (99 : Int) else t (18 + 7 * p) + 1) = 99 := if_pos (by omega)
      rw [eT, if_neg (fun q => by have := q.1; omega), v1]
      funext k
      unfold tU
      split
      · rename_i q
        rw [q, show 12 + 7 * p + 6 = 18 + 7 * p by omega, c99]
      · rfl
    rw [eT2] at kq
    exact kq g h
theorem sp_ceat_1_scratch {d N : Int} (hn : CN_scratch g0 t0 segs) (d0 : 0 ≤ d) (d5 : d ≤ 5) (kq : ∀ g', CT_scratch g0 t0 g' R → Q 1 (fI N) g') : ∀ (l p : Nat) (t : Nat → Int) (n : Int) (g : Nat → Nat → Int), (p + l : Nat) = (t 3).toNat → d < t 4 → CT_scratch g0 t0 g t → 0 ≤ n → n ≤ p → eaL segs d l p t = R → eaN segs d l p t n = N → fx W r 4 165 5 [346, 178, fI d, fI n, fI (p : Int)] [] g Q
  | l, p, t, n, g, hl, h4, h, n0, n1, e, en => by
    obtain ⟨hH, hL, hR⟩ := h.H hn
    have b3 := h.2.2.1.1.1
    have b4 := h.2.2.1.1.2.1
    have ep : g 3 4 = t 3 := hH.1
    refine fx_li 4 7 (by decide +kernel) rfl ?_
    refine fx_la 0 8 (v := 346) (by decide +kernel) rfl (by decide +kernel) ?_
    refine fx_gp 346 43 0 26 11 (by decide +kernel) ?_
    refine fx_gi 26 3 4 14 (by decide +kernel) ?_
    rw [ep]
    refine fx_ige 74 17 (by decide +kernel) (by unfold fR; omega) (by first | exact hg 3 4 (by decide) (by decide +kernel) (by decide +kernel) | (unfold fR; omega)) (fun h14 => ?_) (fun h14 => ?_)
    · refine fx_li 3 75 (by decide +kernel) rfl ?_
      refine fx_ret (by decide +kernel) ?_
      have e0 : l = 0 := by omega
      subst e0
      have e : t = R := e
      have en : n = N := en
      subst e en
      exact kq g h
    · obtain ⟨l', rfl⟩ : ∃ l', l = l' + 1 := ⟨l - 1, by omega⟩
      have hp : p < 8 := by omega
      have e : eaL segs d l' (p + 1) (ea1 segs d t p) = R := e
      have en : eaN segs d l' (p + 1) (ea1 segs d t p) (if (t (12 + 7 * p) ≠ -1 ∧ t (17 + 7 * p) ≠ 1) ∧ eV t segs p (t (12 + 7 * p)) d = 0 then n + 1 else n) = N := en
      have ok := ea1_ok (segs := segs) (d := d) (p := p) h.2.2.1 hp
      have k3 : (p + 1 + l' : Nat) = (ea1 segs d t p 3).toNat := by rw [ok.2 3 (by decide)]; omega
      have k4 : d < ea1 segs d t p 4 := by rw [ok.2 4 (by decide)]; exact h4
      have epl : g 23 p = t (12 + 7 * p) := h.1.1.1 p hp
      have bpp := h.2.2.1.1.2.2.2.2.2.1 p hp
      refine fx_la 1 18 (v := 178) (by decide +kernel) rfl (by decide +kernel) ?_
      refine fx_li 4 20 (by decide +kernel) rfl ?_
      refine fx_c2 55 21 23 1 [] (by decide +kernel) (by decide) (by decide) (fI_n4 _) rfl (by first | decide | omega) ?_
      refine sp_cawayR_scratch h.1.1 hp (fun u => fK1 ?_) (fun u => fK1 ?_)
      · refine fx_zne 29 26 (by decide +kernel) (by unfold fR; omega) (fun _ => ?_) (fun hc => absurd hc (by decide))
        refine fx_la 0 30 (v := 346) (by decide +kernel) rfl (by decide +kernel) ?_
        refine fx_la 1 31 (v := 178) (by decide +kernel) rfl (by decide +kernel) ?_
        refine fx_li 4 33 (by decide +kernel) rfl ?_
        refine fx_la 1 34 (v := 178) (by decide +kernel) rfl (by decide +kernel) ?_
        refine fx_gp 178 22 0 186 37 (by decide +kernel) ?_
        refine fx_li 4 39 (by decide +kernel) rfl ?_
        refine fx_al 186 23 8 40 (by decide +kernel) rfl (by omega) (by omega) rfl ?_
        try simp only [fu_app, fcy_app, Nat.reduceEqDiff, and_true, and_false, false_and, true_and, if_true, if_false, ite_true, ite_false, reduceIte, Int.reduceToNat, fx_simp0]
        rw [show ((p : Int)).toNat = p from rfl, epl]
        refine fx_li 2 41 (by decide +kernel) rfl ?_
        refine fx_c5 143 21 44 3 [7] (by decide +kernel) (by decide) (by decide) (by decide) (fI_n4 _) (fI_n4 _) (fI_n4 _) rfl (by first | decide | omega) ?_
        have ew : ea1 segs d t p = eaT segs d t p := if_pos u
        rw [ew] at e en ok k3 k4
        have hF : cFv_scratch g p (t (12 + 7 * p)) d = mFv t p (t (12 + 7 * p)) d := cF_m_scratch hH h.1.1 hp
        have ee : g 6 (d * 8 + t (12 + 7 * p)).toNat = t (68 + (d * 8 + t (12 + 7 * p)).toNat) := hH.2.2.2.2.2.2.2.2.1 _ (by have e5 : g 3 5 = t 4 := hH.2.1; show ((d * 8 + t (12 + 7 * p)).toNat : Int) < 8 * g 3 5; rw [e5]; omega)
        have be := h.2.2.1.1.2.2.2.2.2.2.2.2 (d * 8 + t (12 + 7 * p)).toNat (by omega)
        have hok := hR.ok (mFv_78 t p (t (12 + 7 * p)) d)
        have evb : 0 ≤ eV t segs p (t (12 + 7 * p)) d ∧ eV t segs p (t (12 + 7 * p)) d ≤ 1000 := by
          have hmb := lwM_b (F := mFv t p (t (12 + 7 * p)) d) segs 0 (fun s hs => (hok s hs).2.2)
          have h12 := hR.2.2.2
          unfold eV
          split <;> omega
        refine sp_ceatenBy_scratch hL (by rw [hF]; exact hok) hp ⟨by omega, bpp.2⟩ ⟨d0, by omega⟩ (by rw [ee]; exact be) (fun g1 x1 => fK1 ?_)
        rw [ee, hF]
        have ev : (if 0 ≤ t (68 + (d * 8 + t (12 + 7 * p)).toNat) + lwM (mFv t p (t (12 + 7 * p)) d) segs 0 then t (68 + (d * 8 + t (12 + 7 * p)).toNat) + lwM (mFv t p (t (12 + 7 * p)) d) segs 0 else 0) = eV t segs p (t (12 + 7 * p)) d := rfl
        rw [ev]
        have h1 := h.fs x1
        refine fx_zne 60 47 (by decide +kernel) (by unfold fR; omega) (fun h44 => ?_) (fun h44 => ?_)
        · refine fx_la 1 61 (v := 178) (by decide +kernel) rfl (by decide +kernel) ?_
          refine fx_gp 178 22 3 210 64 (by decide +kernel) ?_
          refine fx_li 4 66 (by decide +kernel) rfl ?_
          refine fx_ci (0) 67 (by decide +kernel) ?_
          refine fx_as 210 26 8 68 (by decide +kernel) rfl (by omega) (by omega) rfl (by unfold fR; omega) ?_
          refine fx_inc 4 71 (1) (by decide +kernel) rfl (Or.inr (fI_n4 _)) rfl ?_
          dsimp only [List.set]
          refine fx_go 5 (by decide +kernel) ?_
          have ez : ¬ eV t segs p (t (12 + 7 * p)) d = 0 := by omega
          rw [if_neg (fun q => ez q.2)] at en
          have eT : eaT segs d t p = tU t (12 + 7 * p + 6) 0 := if_neg ez
          rw [eT] at e en ok k3 k4
          rw [show ((p : Int)).toNat = p from rfl]
          have b6 := RTb_a (v := 0) h1.1 hp (i := 4) (w := 6) (by omega)
          exact sp_ceat_1_scratch hn d0 d5 kq l' (p + 1) _ n _ k3 k4 ⟨b6, h1.2.1.u (by decide), ok.1, h1.2.2.2.tr ok.2⟩ n0 (by omega) e en
        · refine fx_inc 3 50 (1) (by decide +kernel) rfl (Or.inr (fI_n4 _)) rfl ?_
          dsimp only [List.set]
          refine fx_la 0 51 (v := 346) (by decide +kernel) rfl (by decide +kernel) ?_
          refine fx_la 1 52 (v := 178) (by decide +kernel) rfl (by decide +kernel) ?_
          refine fx_li 4 54 (by decide +kernel) rfl ?_
          refine fx_c3 166 21 57 1 [] (by decide +kernel) (by decide) (by decide) (by decide) (fI_n4 _) rfl (by first | decide | omega) ?_
          have ez : eV t segs p (t (12 + 7 * p)) d = 0 := by omega
          refine sp_cchill_scratch (d := d) hn h1 hp u.1 ez (fun g2 h2 => fK0 ?_)
          refine fx_go 68 (by decide +kernel) ?_
          refine fx_inc 4 71 (1) (by decide +kernel) rfl (Or.inr (fI_n4 _)) rfl ?_
          dsimp only [List.set]
          refine fx_go 5 (by decide +kernel) ?_
          rw [if_pos ⟨u, ez⟩] at en
          exact sp_ceat_1_scratch hn d0 d5 kq l' (p + 1) _ (n + 1) g2 k3 k4 h2 (by omega) (by omega) e en
      · refine fx_zne 29 26 (by decide +kernel) (by unfold fR; omega) (fun hc => absurd hc (by decide)) (fun _ => ?_)
        refine fx_go 68 (by decide +kernel) ?_
        refine fx_inc 4 71 (1) (by decide +kernel) rfl (Or.inr (fI_n4 _)) rfl ?_
        dsimp only [List.set]
        refine fx_go 5 (by decide +kernel) ?_
        have ew : ea1 segs d t p = t := if_neg u
        rw [ew] at e en
        rw [if_neg (fun q => u q.1)] at en
        exact sp_ceat_1_scratch hn d0 d5 kq l' (p + 1) t n g (by omega) h4 h n0 (by omega) e en
theorem sp_cnight_scratch {g : Nat → Nat → Int} {t : Nat → Int} {d : Int} {dr : Bool} (hn : CN_scratch g0 t0 segs) (h : CT_scratch g0 t0 g t) (hd : d = -1 ∨ (0 ≤ d ∧ d < t 4)) (kq : ∀ g', CT_scratch g0 t0 g' (niT segs d dr t) → Q 1 (fI (niN segs d (niW dr t))) g') : fx W r 5 161 0 [346, 178, fI d, fI (cond dr 1 0), 7] [] g Q := by
  have b4 := h.2.2.1.1.2.1
  have okW := niW_ok (dr := dr) h.2.2.1
  have w3 : niW dr t 3 = t 3 := okW.2 3 (by decide)
  have w4 : niW dr t 4 = t 4 := okW.2 4 (by decide)
  have nb := niN_b (segs := segs) (d := d) okW.1
  have okE := niE_ok (segs := segs) (d := d) okW.1
  have n9 := okE.1.1.2.2.2.1
  have fin : ∀ (x3 : Int) (g1 : Nat → Nat → Int), CT_scratch g0 t0 g1 (niE segs d (niW dr t)) → fx W r 5 161 24 [346, 178, fI d, fI x3, 7] [fI (niN segs d (niW dr t))] g1 Q := fun x3 g1 h1 => by
    have k9 := ni9_ok (v := if 9999 < niE segs d (niW dr t) 9 + 1 then 9999 else niE segs d (niW dr t) 9 + 1) okE.1 (by split <;> omega) (by split <;> omega)
    unfold niT at kq
    generalize niN segs d (niW dr t) = n at *
    generalize niE segs d (niW dr t) = t2 at *
    have e9 : g1 22 9 = t2 9 := h1.1.1.2.2.2.2.2.2.1
    refine fx_si 4 26 (by decide +kernel) (Or.inr (fI_n4 _)) rfl ?_
    dsimp only [List.set]
    refine fx_la 1 27 (v := 178) (by decide +kernel) rfl (by decide +kernel) ?_
    refine fx_ci (9999) 30 (by decide +kernel) ?_
    refine fx_la 1 31 (v := 178) (by decide +kernel) rfl (by decide +kernel) ?_
    refine fx_gi 178 22 9 34 (by decide +kernel) ?_
    rw [e9]
    refine fx_ci (1) 35 (by decide +kernel) ?_
    refine fx_add 36 (by decide +kernel) rfl ?_
    refine fx_c2 158 22 39 0 [] (f_q22 (by decide +kernel)) (by decide) (fI_n4 _) (fI_n4 _) rfl (by first | decide | omega) ?_
    refine sp_min9 (by unfold fR; omega) (fK1 ?_)
    have b6 := RTb_f (j := 9) (k := 9) (v := if 9999 < t2 9 + 1 then 9999 else t2 9 + 1) h1.1 (by omega)
    generalize hv : (if 9999 < t2 9 + 1 then 9999 else t2 9 + 1) = v at kq k9 b6 ⊢
    have hv2 : 0 ≤ v ∧ v ≤ 9999 := by rw [← hv]; split <;> omega
    refine fx_pi 178 22 9 42 (by decide +kernel) (by unfold fR; omega) ?_
    refine fx_li 4 44 (by decide +kernel) rfl ?_
    refine fx_ret (by decide +kernel) ?_
    exact kq _ ⟨b6, h1.2.1.u (by decide), k9.1, h1.2.2.2.tr k9.2⟩
  have mid : ∀ (x3 : Int) (g1 : Nat → Nat → Int), CT_scratch g0 t0 g1 (niW dr t) → fx W r 5 161 9 [346, 178, fI d, fI x3, 7] [] g1 Q := fun x3 g1 h1 => by
    by_cases dm : d = -1
    · have e1 : niE segs d (niW dr t) = niW dr t := if_pos dm
      have e2 : niN segs d (niW dr t) = 0 := if_pos dm
      refine fx_li 2 10 (by decide +kernel) rfl ?_
      refine fx_cn (-1) 11 (by decide +kernel) (fun v10 c10 => ?_)
      refine fx_ine 18 14 (by decide +kernel) (by unfold fR; omega) (by unfold fR; omega) (fun h11 => ?_) (fun h11 => ?_)
      · exfalso; omega
      · refine fx_ci (0) 15 (by decide +kernel) ?_
        refine fx_go 24 (by decide +kernel) ?_
        have f := fin x3 g1 (by rw [e1]; exact h1)
        rw [e2] at f
        exact f
    · have hd2 : 0 ≤ d ∧ d < t 4 := by omega
      have e1 : niE segs d (niW dr t) = eaL segs d (t 3).toNat 0 (niW dr t) := by unfold niE; rw [if_neg dm, w3]
      have e2 : niN segs d (niW dr t) = eaN segs d (t 3).toNat 0 (niW dr t) 0 := by unfold niN; rw [if_neg dm, w3]
      refine fx_li 2 10 (by decide +kernel) rfl ?_
      refine fx_cn (-1) 11 (by decide +kernel) (fun v10 c10 => ?_)
      refine fx_ine 18 14 (by decide +kernel) (by unfold fR; omega) (by unfold fR; omega) (fun h11 => ?_) (fun h11 => ?_)
      · refine fx_la 0 19 (v := 346) (by decide +kernel) rfl (by decide +kernel) ?_
        refine fx_la 1 20 (v := 178) (by decide +kernel) rfl (by decide +kernel) ?_
        refine fx_li 2 21 (by decide +kernel) rfl ?_
        refine fx_c3 165 21 24 4 [7, 7] (by decide +kernel) (by decide) (by decide) (by decide) (fI_n4 _) rfl (by first | decide | omega) ?_
        refine fx_ci (0) 1 (by decide +kernel) ?_
        refine fx_si 3 2 (by decide +kernel) (Or.inr (fI_n4 _)) rfl ?_
        dsimp only [List.set]
        refine fx_ci (0) 3 (by decide +kernel) ?_
        refine fx_si 4 5 (by decide +kernel) (Or.inr (fI_n4 _)) rfl ?_
        dsimp only [List.set]
        refine sp_ceat_1_scratch (R := niE segs d (niW dr t)) (N := niN segs d (niW dr t)) hn hd2.1 (by omega) (fun g2 h2 => fK1 ?_) (t 3).toNat 0 (niW dr t) 0 g1 (by rw [w3]; omega) (by rw [w4]; exact hd2.2) h1 (by decide) (by decide) e1.symm e2.symm
        exact fin x3 g2 h2
      · exfalso; omega
  cases dr with
  | false =>
    rw [show (cond false (1 : Int) 0) = 0 from rfl]
    refine fx_li 3 1 (by decide +kernel) rfl ?_
    refine fx_zeq 9 4 (by decide +kernel) (by unfold fR; omega) (fun _ => ?_) (fun hc => absurd hc (by decide))
    exact mid 0 g h
  | true =>
    rw [show (cond true (1 : Int) 0) = 1 from rfl]
    refine fx_li 3 1 (by decide +kernel) rfl ?_
    refine fx_zeq 9 4 (by decide +kernel) (by unfold fR; omega) (fun hc => absurd hc (by decide)) (fun _ => ?_)
    refine fx_la 0 5 (v := 346) (by decide +kernel) rfl (by decide +kernel) ?_
    refine fx_la 1 6 (v := 178) (by decide +kernel) rfl (by decide +kernel) ?_
    refine fx_c2 162 21 9 2 [7, 7, 7] (by decide +kernel) (by decide) (by decide) (by decide) rfl (by first | decide | omega) ?_
    refine sp_cwander_scratch hn h (fun g1 h1 => fK0 ?_)
    exact mid 1 g1 h1
theorem sp_cnights_1_scratch {N : Int} {dr : Bool} {nn : Nat} (hn : CN_scratch g0 t0 segs) (h60 : nn ≤ 60) (kq : ∀ g', CT_scratch g0 t0 g' R → Q 1 (fI N) g') : ∀ (l k : Nat) (t : Nat → Int) (a : Int) (g : Nat → Nat → Int) (x6 : Nat), k + l = nn → CT_scratch g0 t0 g t → 0 ≤ a → a ≤ 8 * k → goL segs dr l t = R → goN segs dr l t a = N → fx W r 6 178 6 [346, 178, fI (nn : Int), fI (cond dr 1 0), fI a, fI (k : Int), x6] [] g Q
  | l, k, t, a, g, x6, hl, h, a0, a1, e, en => by
    obtain ⟨hH, -, -⟩ := h.H hn
    have b4 := h.2.2.1.1.2.1
    have b9 := h.2.2.1.1.2.2.2.1
    have db := dsT_b h.2.2.1
    have ed4 : g 3 5 = t 4 := hH.2.1
    have e9 : g 22 9 = t 9 := h.1.1.2.2.2.2.2.2.1
    have hdr : (cond dr (1 : Int) 0) = 0 ∨ (cond dr (1 : Int) 0) = 1 := by cases dr <;> simp
    refine fx_li 5 8 (by decide +kernel) rfl ?_
    refine fx_li 2 9 (by decide +kernel) rfl ?_
    refine fx_ige 59 12 (by decide +kernel) (by unfold fR; omega) (by unfold fR; omega) (fun h9 => ?_) (fun h9 => ?_)
    · refine fx_li 4 61 (by decide +kernel) rfl ?_
      refine fx_ret (by decide +kernel) ?_
      have e0 : l = 0 := by omega
      subst e0
      have e : t = R := e
      have en : a = N := en
      subst e en
      exact kq g h
    · obtain ⟨l', rfl⟩ : ∃ l', l = l' + 1 := ⟨l - 1, by omega⟩
      have e : goL segs dr l' (niT segs (dsT t) dr t) = R := e
      have en : goN segs dr l' (niT segs (dsT t) dr t) (a + niN segs (dsT t) (niW dr t)) = N := en
      have nb := niN_b (segs := segs) (d := dsT t) (niW_ok (dr := dr) h.2.2.1).1
      refine fx_la 0 13 (v := 346) (by decide +kernel) rfl (by decide +kernel) ?_
      refine fx_gp 346 43 0 26 16 (by decide +kernel) ?_
      refine fx_gi 26 3 5 19 (by decide +kernel) ?_
      rw [ed4]
      refine fx_zne 26 22 (by decide +kernel) (by first | exact hg 3 5 (by decide) (by decide +kernel) (by decide +kernel) | (unfold fR; omega)) (fun h19 => ?_) (fun h19 => ?_)
      · refine fx_la 1 27 (v := 178) (by decide +kernel) rfl (by decide +kernel) ?_
        refine fx_gi 178 22 9 30 (by decide +kernel) ?_
        rw [e9]
        refine fx_la 0 31 (v := 346) (by decide +kernel) rfl (by decide +kernel) ?_
        refine fx_gp 346 43 0 26 34 (by decide +kernel) ?_
        refine fx_gi 26 3 5 37 (by decide +kernel) ?_
        rw [ed4]
        refine fx_bin 10 38 (by decide +kernel) rfl (fun _ => i32_n0 (by omega) (by omega)) ?_
        have ed : dsT t = t 9 % t 4 := if_neg h19
        rw [fop_rm b9.1 (by omega) (by omega) (by omega), ← ed]
        refine fx_si 6 40 (by decide +kernel) (Or.inr (fI_n4 _)) rfl ?_
        dsimp only [List.set]
        refine fx_li 4 42 (by decide +kernel) rfl ?_
        refine fx_la 0 43 (v := 346) (by decide +kernel) rfl (by decide +kernel) ?_
        refine fx_la 1 44 (v := 178) (by decide +kernel) rfl (by decide +kernel) ?_
        refine fx_li 6 46 (by decide +kernel) rfl ?_
        refine fx_li 3 47 (by decide +kernel) rfl ?_
        refine fx_c4 161 21 50 5 [7] (by decide +kernel) (by decide) (by decide) (by decide) (fI_n4 _) (fI_n4 _) rfl (by first | decide | omega) ?_
        refine sp_cnight_scratch hn h (by omega) (fun g2 h2 => fK1 ?_)
        refine fx_add 51 (by decide +kernel) rfl ?_
        refine fx_si 4 53 (by decide +kernel) (Or.inr (fI_n4 _)) rfl ?_
        dsimp only [List.set]
        refine fx_inc 5 56 (1) (by decide +kernel) rfl (Or.inr (fI_n4 _)) rfl ?_
        dsimp only [List.set]
        refine fx_go 6 (by decide +kernel) ?_
        exact sp_cnights_1_scratch hn h60 kq l' (k + 1) _ _ g2 _ (by omega) h2 (by omega) (by omega) e en
      · refine fx_cn (-1) 23 (by decide +kernel) (fun v22 c22 => ?_)
        refine fx_go 38 (by decide +kernel) ?_
        have ed : dsT t = -1 := if_pos h19
        rw [c22, ← ed]
        refine fx_si 6 40 (by decide +kernel) (Or.inr (fI_n4 _)) rfl ?_
        dsimp only [List.set]
        refine fx_li 4 42 (by decide +kernel) rfl ?_
        refine fx_la 0 43 (v := 346) (by decide +kernel) rfl (by decide +kernel) ?_
        refine fx_la 1 44 (v := 178) (by decide +kernel) rfl (by decide +kernel) ?_
        refine fx_li 6 46 (by decide +kernel) rfl ?_
        refine fx_li 3 47 (by decide +kernel) rfl ?_
        refine fx_c4 161 21 50 5 [7] (by decide +kernel) (by decide) (by decide) (by decide) (fI_n4 _) (fI_n4 _) rfl (by first | decide | omega) ?_
        refine sp_cnight_scratch hn h (by omega) (fun g2 h2 => fK1 ?_)
        refine fx_add 51 (by decide +kernel) rfl ?_
        refine fx_si 4 53 (by decide +kernel) (Or.inr (fI_n4 _)) rfl ?_
        dsimp only [List.set]
        refine fx_inc 5 56 (1) (by decide +kernel) rfl (Or.inr (fI_n4 _)) rfl ?_
        dsimp only [List.set]
        refine fx_go 6 (by decide +kernel) ?_
        exact sp_cnights_1_scratch hn h60 kq l' (k + 1) _ _ g2 _ (by omega) h2 (by omega) (by omega) e en
theorem sp_cnights_scratch {g : Nat → Nat → Int} {t : Nat → Int} {dr : Bool} {nn : Nat} (hn : CN_scratch g0 t0 segs) (h60 : nn ≤ 60) (h : CT_scratch g0 t0 g t) (kq : ∀ g', CT_scratch g0 t0 g' (goL segs dr nn t) → Q 1 (fI (goN segs dr nn t 0)) g') : fx W r 6 178 0 [346, 178, fI (nn : Int), fI (cond dr 1 0), 7, 7, 7] [] g Q := by
  refine fx_ci (0) 1 (by decide +kernel) ?_
  refine fx_si 4 3 (by decide +kernel) (Or.inr (fI_n4 _)) rfl ?_
  dsimp only [List.set]
  refine fx_ci (0) 4 (by decide +kernel) ?_
  refine fx_si 5 6 (by decide +kernel) (Or.inr (fI_n4 _)) rfl ?_
  dsimp only [List.set]
  exact sp_cnights_1_scratch hn h60 kq nn 0 t 0 g _ (by omega) h (by decide) (by decide) rfl rfl
end FIK_scratch
end
