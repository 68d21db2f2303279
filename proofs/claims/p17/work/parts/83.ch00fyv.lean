/-! fx: what must be a place, a dish, two; members of sets -/
theorem fop_1 (x : Int) : fop 3 x 1 = 0 ∨ fop 3 x 1 = 1 := by
  have e : sx_bf 3 (Int32.ofInt x) (Int32.ofInt 1) = Int32.ofInt x &&& Int32.ofInt 1 := rfl
  have t : (Int32.ofInt x &&& Int32.ofInt 1).toBitVec.toNat ≤ 1 := by
    rw [Int32.toBitVec_and, BitVec.toNat_and]
    exact Nat.and_le_right
  unfold fop
  rw [e]
  show (Int32.ofInt x &&& Int32.ofInt 1).toBitVec.toInt = 0 ∨ (Int32.ofInt x &&& Int32.ofInt 1).toBitVec.toInt = 1
  rw [BitVec.toInt_eq_toNat_of_lt (by omega)]
  omega
/-- the k-th bit of a set -/
noncomputable def fbt (s k : Int) : Int := fop 3 (fop 7 s k) 1
theorem fbt_01 (s k : Int) : fbt s k = 0 ∨ fbt s k = 1 := fop_1 _
section FYV
variable {W : ax_W} {r : Nat} {g : Nat → Nat → Int} {Q : Nat → Nat → (Nat → Nat → Int) → Prop}
theorem sp_needPlace {v : Int} (hr : 1 ≤ r) (hv : fR v) (k1 : 0 ≤ v ∧ v ≤ 7 → Q 0 0 g) (k2 : ¬ (0 ≤ v ∧ v ≤ 7) → Q 4 0 g) : fx W r 0 140 0 [2, fI v] [] g Q := by
  have hv2 := hv
  unfold fR at hv2
  refine fx_li 1 1 (by decide +kernel) rfl ?_
  refine fx_zlt 10 4 (by decide +kernel) (by unfold fR; omega) (fun h1 => ?_) (fun h1 => ?_)
  · refine fx_throw 2 (by decide +kernel) rfl (by omega) ?_
    exact k2 (by omega)
  · refine fx_li 1 5 (by decide +kernel) rfl ?_
    refine fx_ci (8) 7 (by decide +kernel) ?_
    refine fx_ilt 21 10 (by decide +kernel) (by unfold fR; omega) (by unfold fR; omega) (fun h7 => ?_) (fun h7 => ?_)
    · refine fx_vret (by decide +kernel) ?_
      exact k1 (by omega)
    · refine fx_throw 2 (by decide +kernel) rfl (by omega) ?_
      exact k2 (by omega)
theorem sp_needTwo {v w : Int} (hr : 1 ≤ r) (hv : fR v) (hw : fR w) (k1 : v ≠ w → Q 0 0 g) (k2 : v = w → Q 2 0 g) : fx W r 0 148 0 [2, fI v, fI w] [] g Q := by
  have hv2 := hv
  have hw2 := hw
  unfold fR at hv2 hw2
  refine fx_li 1 1 (by decide +kernel) rfl ?_
  refine fx_li 2 2 (by decide +kernel) rfl ?_
  refine fx_ine 16 5 (by decide +kernel) (by unfold fR; omega) (by unfold fR; omega) (fun h2 => ?_) (fun h2 => ?_)
  · refine fx_vret (by decide +kernel) ?_
    exact k1 (by omega)
  · refine fx_throw 0 (by decide +kernel) rfl (by omega) ?_
    exact k2 (by omega)
theorem sp_needDish {v : Int} (hr : 1 ≤ r) (hv : fR v) (h0 : 0 ≤ g 3 5) (h1 : g 3 5 ≤ 6) (k1 : 0 ≤ v ∧ v < g 3 5 → Q 0 0 g) (k2 : ¬ (0 ≤ v ∧ v < g 3 5) → Q 4 0 g) : fx W r 0 139 0 [2, fI v] [] g Q := by
  have hv2 := hv
  unfold fR at hv2
  refine fx_li 1 1 (by decide +kernel) rfl ?_
  refine fx_zlt 15 4 (by decide +kernel) (by unfold fR; omega) (fun h1 => ?_) (fun h1 => ?_)
  · refine fx_throw 2 (by decide +kernel) rfl (by omega) ?_
    exact k2 (by omega)
  · refine fx_li 1 5 (by decide +kernel) rfl ?_
    refine fx_la 0 6 (v := 2) (by decide +kernel) rfl (by decide +kernel) ?_
    refine fx_gp 2 0 1 26 9 (by decide +kernel) ?_
    refine fx_gi 26 3 5 12 (by decide +kernel) ?_
    refine fx_ilt 26 15 (by decide +kernel) (by unfold fR; omega) (by first | exact hg 3 5 (by decide) (by decide +kernel) (by decide +kernel) | (unfold fR; omega)) (fun h12 => ?_) (fun h12 => ?_)
    · refine fx_vret (by decide +kernel) ?_
      exact k1 (by omega)
    · refine fx_throw 2 (by decide +kernel) rfl (by omega) ?_
      exact k2 (by omega)
theorem sp_chas {s k : Int} (kq : Q 1 (fI (fbt s k)) g) : fx W r 0 23 0 [fI s, fI k] [] g Q := by
  have h01 := fop_1 (fop 7 s k)
  refine fx_li 0 1 (by decide +kernel) rfl ?_
  refine fx_li 1 2 (by decide +kernel) rfl ?_
  refine fx_bin 7 3 (by decide +kernel) rfl (fun h => absurd h (by decide)) ?_
  refine fx_ci (1) 4 (by decide +kernel) ?_
  refine fx_bin 3 5 (by decide +kernel) rfl (fun h => absurd h (by decide)) ?_
  refine fx_zeq 12 8 (by decide +kernel) (by first | exact fop_R _ _ _ | (unfold fR; omega)) (fun h5 => ?_) (fun h5 => ?_)
  · refine fx_ci (0) 13 (by decide +kernel) ?_
    refine fx_retb (by decide +kernel) (by first | exact Or.inl rfl | exact Or.inr rfl | omega) ?_
    rw [show fbt s k = 0 by unfold fbt; omega] at kq
    exact kq
  · refine fx_ci (1) 9 (by decide +kernel) ?_
    refine fx_go 13 (by decide +kernel) ?_
    refine fx_retb (by decide +kernel) (by first | exact Or.inl rfl | exact Or.inr rfl | omega) ?_
    rw [show fbt s k = 1 by unfold fbt; omega] at kq
    exact kq
theorem sp_misOf {s k : Int} (kq : Q 1 (fI (fbt s k)) g) : fx W r 0 307 0 [fI s, fI k] [] g Q := by
  have h01 := fop_1 (fop 7 s k)
  refine fx_li 0 1 (by decide +kernel) rfl ?_
  refine fx_li 1 2 (by decide +kernel) rfl ?_
  refine fx_bin 7 3 (by decide +kernel) rfl (fun h => absurd h (by decide)) ?_
  refine fx_ci (1) 4 (by decide +kernel) ?_
  refine fx_bin 3 5 (by decide +kernel) rfl (fun h => absurd h (by decide)) ?_
  refine fx_ci (1) 6 (by decide +kernel) ?_
  refine fx_ine 13 9 (by decide +kernel) (by first | exact fop_R _ _ _ | (unfold fR; omega)) (by unfold fR; omega) (fun h6 => ?_) (fun h6 => ?_)
  · refine fx_ci (0) 14 (by decide +kernel) ?_
    refine fx_retb (by decide +kernel) (by first | exact Or.inl rfl | exact Or.inr rfl | omega) ?_
    rw [show fbt s k = 0 by unfold fbt; omega] at kq
    exact kq
  · refine fx_ci (1) 10 (by decide +kernel) ?_
    refine fx_go 14 (by decide +kernel) ?_
    refine fx_retb (by decide +kernel) (by first | exact Or.inl rfl | exact Or.inr rfl | omega) ?_
    rw [show fbt s k = 1 by unfold fbt; omega] at kq
    exact kq
theorem sp_misPlace {v : Int} (hv : fR v) (k1 : 0 ≤ v ∧ v ≤ 7 → Q 1 (fI 1) g) (k2 : ¬ (0 ≤ v ∧ v ≤ 7) → Q 1 (fI 0) g) : fx W r 1 313 0 [fI v] [] g Q := by
  refine fx_li 0 1 (by decide +kernel) rfl ?_
  refine fx_ci (0) 2 (by decide +kernel) ?_
  refine fx_ci (7) 4 (by decide +kernel) ?_
  refine fx_c3 266 22 7 0 [] (f_q22 (by decide +kernel)) (by decide) (fI_n4 _) (fI_n4 _) (fI_n4 _) rfl (by first | decide | omega) ?_
  refine sp_isIn hv (by unfold fR; omega) (by unfold fR; omega) (fun t => fK1 ?_) (fun t => fK1 ?_)
  · refine fx_retb (by decide +kernel) (by first | exact Or.inl rfl | exact Or.inr rfl | omega) ?_
    exact k1 t
  · refine fx_retb (by decide +kernel) (by first | exact Or.inl rfl | exact Or.inr rfl | omega) ?_
    exact k2 t
theorem sp_misDish {v : Int} (hv : fR v) (h0 : 0 ≤ g 149 4) (h1 : g 149 4 ≤ 6) (k1 : 0 ≤ v ∧ v < g 149 4 → Q 1 (fI 1) g) (k2 : ¬ (0 ≤ v ∧ v < g 149 4) → Q 1 (fI 0) g) : fx W r 1 312 0 [1186, fI v] [] g Q := by
  refine fx_li 1 1 (by decide +kernel) rfl ?_
  refine fx_ci (0) 2 (by decide +kernel) ?_
  refine fx_la 0 3 (v := 1186) (by decide +kernel) rfl (by decide +kernel) ?_
  refine fx_gp 1186 148 1 1194 6 (by decide +kernel) ?_
  refine fx_ci (4) 7 (by decide +kernel) ?_
  refine fx_al 1194 149 764 8 (by decide +kernel) rfl (by omega) (by omega) rfl ?_
  try simp only [fu_app, fcy_app, Nat.reduceEqDiff, and_true, and_false, false_and, true_and, if_true, if_false, ite_true, ite_false, reduceIte, Int.reduceToNat, fx_simp0]
  refine fx_ci (1) 9 (by decide +kernel) ?_
  refine fx_sub 10 (by decide +kernel) rfl ?_
  refine fx_c3 266 22 13 0 [] (f_q22 (by decide +kernel)) (by decide) (fI_n4 _) (fI_n4 _) (fI_n4 _) rfl (by first | decide | omega) ?_
  refine sp_isIn hv (by unfold fR; omega) (by unfold fR; omega) (fun t => fK1 ?_) (fun t => fK1 ?_)
  · refine fx_retb (by decide +kernel) (by first | exact Or.inl rfl | exact Or.inr rfl | omega) ?_
    exact k1 (by omega)
  · refine fx_retb (by decide +kernel) (by first | exact Or.inl rfl | exact Or.inr rfl | omega) ?_
    exact k2 (by omega)
end FYV
/-- nothing of what is kept is touched -/
def fKp (g g' : Nat → Nat → Int) : Prop := ∀ c j, gx_K c j ∨ (c = 1 ∧ j = 1) ∨ (c = 148 ∧ j = 8) ∨ (c = 0 ∧ j = 15) ∨ (c = 148 ∧ j = 3) → g' c j = g c j
theorem fKp.inv {g g' : Nat → Nat → Int} (h : fKp g g') (hI : LInv g) (hs : gHs g') : LInv g' := by
  refine ⟨hs, gxg_cg hI.2.1 (fun c j k _ _ => h c j (Or.inl k)) (fun r k h1 h2 h3 => ?_), ?_, ?_⟩
  · rw [h 148 6 (Or.inl (by unfold gx_K; omega))] at h1
    rw [h _ _ (Or.inl (by unfold gx_K; omega)), h _ _ (Or.inl (Or.inl ⟨rfl, h3⟩))]
    exact hI.2.1.2.2.2 r k h1 h2 h3
  · rw [h 1 1 (by omega), h 148 8 (by omega)]
    exact hI.2.2.1
  · rw [h 0 15 (by omega), h 148 3 (by omega)]
    exact hI.2.2.2
theorem fKp.tr {g g' g'' : Nat → Nat → Int} (h : fKp g g') (h' : fKp g' g'') : fKp g g'' := fun c j k => by rw [h' c j k, h c j k]
theorem fKp.rf {g : Nat → Nat → Int} : fKp g g := fun _ _ _ => rfl
theorem fKp.out {g : Nat → Nat → Int} {j : Nat} {z : Int} : fKp g (fu g 159 j z) := fun c j' k => fu_ne (by unfold gx_K at k; omega)
theorem fKp.thr {g : Nat → Nat → Int} {z : Int} : fKp g (fu g 148 0 z) := fun c j' k => fu_ne (by unfold gx_K gx_P at k; omega)
theorem ax_Aq_p {p : Nat} (hp : 2 ≤ p % 8 ∧ p % 8 ≤ 6 ∧ p < 1280 ∧ (p % 8 = 2 → p / 8 < 160)) : ax_Aq (0, p, 0) p := Or.inl ⟨rfl, [], ax_V.ref ⟨hp.1, hp.2.1, (by show p < _; omega), hp.2.2.2⟩⟩
/-- what the class has said, of an int: refused (1), or told (0) -/
def PWi (ok : Prop) (val : Int) (g : Nat → Nat → Int) (k v : Nat) (g1 : Nat → Nat → Int) : Prop := k = 1 ∧ fKp g g1 ∧ (∀ j, g1 149 j = g 149 j) ∧ ((¬ ok ∧ v = fI 1) ∨ (ok ∧ v = fI 0 ∧ g1 159 0 = ((fJ val - 4 : Nat) : Int)))
/-- what the reference has said -/
def PMi (ok : Prop) (val : Int) (g1 : Nat → Nat → Int) (k w : Nat) (g2 : Nat → Nat → Int) : Prop := k = 1 ∧ ∃ zw, w = fI zw ∧ fR zw ∧ fKp g1 g2 ∧ g2 159 0 = g1 159 0 ∧ ((¬ ok ∧ g2 148 0 = 1) ∨ (ok ∧ g2 148 0 = 0 ∧ zw = val))
