/-! fx: persons, tables: small methods of both sides -/
section FHK
variable {W : ax_W} {r : Nat} {g : Nat → Nat → Int} {Q : Nat → Nat → (Nat → Nat → Int) → Prop}
theorem sp_mof {p w : Nat} (hp : p < 8) (hw : w < 7) (kq : Q 1 (fI (g 149 (12 + 7 * p + w))) g) : fx W r 0 299 0 [1186, fI (p : Int), fI (w : Int)] [] g Q := by
  refine fx_la 0 1 (v := 1186) (by decide +kernel) rfl (by decide +kernel) ?_
  refine fx_gp 1186 148 1 1194 4 (by decide +kernel) ?_
  refine fx_ci (12) 6 (by decide +kernel) ?_
  refine fx_ci (7) 8 (by decide +kernel) ?_
  refine fx_li 1 9 (by decide +kernel) rfl ?_
  refine fx_mul 10 (by decide +kernel) rfl ?_
  refine fx_add 11 (by decide +kernel) rfl ?_
  refine fx_li 2 12 (by decide +kernel) rfl ?_
  refine fx_add 13 (by decide +kernel) rfl ?_
  refine fx_al 1194 149 764 14 (by decide +kernel) rfl (by omega) (by omega) rfl ?_
  rw [show (12 + 7 * (p : Int) + (w : Int)).toNat = 12 + 7 * p + w by omega]
  refine fx_ret (by decide +kernel) ?_
  exact kq
theorem sp_misPersonE {v : Int} (hv : fR v) (h0 : 0 ≤ g 149 3) (h1 : g 149 3 ≤ 8) (k1 : 0 ≤ v ∧ v < g 149 3 → Q 1 (fI 1) g) (k2 : ¬ (0 ≤ v ∧ v < g 149 3) → Q 1 (fI 0) g) : fx W r 1 298 0 [1186, fI v] [] g Q := by
  refine fx_li 1 1 (by decide +kernel) rfl ?_
  refine fx_ci (0) 2 (by decide +kernel) ?_
  refine fx_la 0 3 (v := 1186) (by decide +kernel) rfl (by decide +kernel) ?_
  refine fx_gp 1186 148 1 1194 6 (by decide +kernel) ?_
  refine fx_ci (3) 7 (by decide +kernel) ?_
  refine fx_al 1194 149 764 8 (by decide +kernel) rfl (by omega) (by omega) rfl ?_
  try simp only [fu_app, fcy_app, Nat.reduceEqDiff, and_true, and_false, false_and, true_and, if_true, if_false, ite_true, ite_false, reduceIte, Int.reduceToNat, fx_simp0]
  refine fx_ci (1) 9 (by decide +kernel) ?_
  refine fx_sub 10 (by decide +kernel) rfl ?_
  refine fx_c3 266 22 13 0 [] (f_q22 (by decide +kernel)) (by decide) (fI_n4 _) (fI_n4 _) (fI_n4 _) rfl (by first | decide | omega) ?_
  refine sp_isIn hv (by unfold fR; omega) (by unfold fR; omega) (fun t => fK1 ?_) (fun t => fK1 ?_)
  · refine fx_retb (by decide +kernel) (by first | exact Or.inl rfl | exact Or.inr rfl | omega) ?_
    exact k1 (by omega)
  · refine fx_retb (by decide +kernel) (by first | exact Or.inl rfl | exact Or.inr rfl | omega) ?_
    exact k2 (by omega)
theorem sp_misDead {p : Nat} (hp : p < 8) (k1 : g 149 (17 + 7 * p) = 1 → Q 1 (fI 1) g) (k2 : g 149 (17 + 7 * p) ≠ 1 → Q 1 (fI 0) g) : fx W r 1 302 0 [1186, fI (p : Int)] [] g Q := by
  refine fx_rg (fun hg => ?_)
  have rv := hgA hg 764 (c := 149) (j := 17 + 7 * p) (by decide +kernel) (by omega)
  unfold fR at rv
  refine fx_la 0 1 (v := 1186) (by decide +kernel) rfl (by decide +kernel) ?_
  refine fx_li 1 2 (by decide +kernel) rfl ?_
  refine fx_ci (5) 3 (by decide +kernel) ?_
  refine fx_c3 299 21 6 0 [] (by decide +kernel) (by decide) (by decide) (fI_n4 _) (fI_n4 _) rfl (by first | decide | omega) ?_
  refine sp_mof (w := 5) hp (by decide) (fK1 ?_)
  rw [show 12 + 7 * p + 5 = 17 + 7 * p by omega]
  refine fx_ci (1) 7 (by decide +kernel) ?_
  refine fx_ine 14 10 (by decide +kernel) (by unfold fR; omega) (by unfold fR; omega) (fun h7 => ?_) (fun h7 => ?_)
  · refine fx_ci (0) 15 (by decide +kernel) ?_
    refine fx_retb (by decide +kernel) (by first | exact Or.inl rfl | exact Or.inr rfl | omega) ?_
    exact k2 h7
  · refine fx_ci (1) 11 (by decide +kernel) ?_
    refine fx_go 15 (by decide +kernel) ?_
    refine fx_retb (by decide +kernel) (by first | exact Or.inl rfl | exact Or.inr rfl | omega) ?_
    exact k1 h7
theorem sp_misHome {p : Nat} (hp : p < 8) (k1 : g 149 (12 + 7 * p) = -1 ∧ g 149 (17 + 7 * p) ≠ 1 → Q 1 (fI 1) g) (k2 : ¬ (g 149 (12 + 7 * p) = -1 ∧ g 149 (17 + 7 * p) ≠ 1) → Q 1 (fI 0) g) : fx W r 2 309 0 [1186, fI (p : Int)] [] g Q := by
  refine fx_rg (fun hg => ?_)
  have rv := hgA hg 764 (c := 149) (j := 12 + 7 * p) (by decide +kernel) (by omega)
  unfold fR at rv
  refine fx_la 0 1 (v := 1186) (by decide +kernel) rfl (by decide +kernel) ?_
  refine fx_li 1 2 (by decide +kernel) rfl ?_
  refine fx_ci (0) 3 (by decide +kernel) ?_
  refine fx_c3 299 21 6 0 [] (by decide +kernel) (by decide) (by decide) (fI_n4 _) (fI_n4 _) rfl (by first | decide | omega) ?_
  refine sp_mof (w := 0) hp (by decide) (fK1 ?_)
  rw [show 12 + 7 * p + 0 = 12 + 7 * p from rfl]
  refine fx_ci (-1) 7 (by decide +kernel) ?_
  refine fx_ine 22 10 (by decide +kernel) (by unfold fR; omega) (by unfold fR; omega) (fun h7 => ?_) (fun h7 => ?_)
  · refine fx_ci (0) 23 (by decide +kernel) ?_
    refine fx_retb (by decide +kernel) (by first | exact Or.inl rfl | exact Or.inr rfl | omega) ?_
    exact k2 (fun t => h7 t.1)
  · refine fx_la 0 11 (v := 1186) (by decide +kernel) rfl (by decide +kernel) ?_
    refine fx_li 1 12 (by decide +kernel) rfl ?_
    refine fx_c2 302 21 15 1 [] (by decide +kernel) (by decide) (by decide) (fI_n4 _) rfl (by first | decide | omega) ?_
    refine sp_misDead hp (fun t => fK1 ?_) (fun t => fK1 ?_)
    · refine fx_zne 22 18 (by decide +kernel) (by unfold fR; omega) (fun _ => ?_) (fun hc => absurd hc (by decide))
      refine fx_ci (0) 23 (by decide +kernel) ?_
      refine fx_retb (by decide +kernel) (by first | exact Or.inl rfl | exact Or.inr rfl | omega) ?_
      exact k2 (fun u => u.2 t)
    · refine fx_zne 22 18 (by decide +kernel) (by unfold fR; omega) (fun hc => absurd hc (by decide)) (fun _ => ?_)
      refine fx_ci (1) 19 (by decide +kernel) ?_
      refine fx_go 23 (by decide +kernel) ?_
      refine fx_retb (by decide +kernel) (by first | exact Or.inl rfl | exact Or.inr rfl | omega) ?_
      exact k1 ⟨h7, t⟩
theorem sp_misAway {p : Nat} (hp : p < 8) (k1 : g 149 (12 + 7 * p) ≠ -1 ∧ g 149 (17 + 7 * p) ≠ 1 → Q 1 (fI 1) g) (k2 : ¬ (g 149 (12 + 7 * p) ≠ -1 ∧ g 149 (17 + 7 * p) ≠ 1) → Q 1 (fI 0) g) : fx W r 2 301 0 [1186, fI (p : Int)] [] g Q := by
  refine fx_rg (fun hg => ?_)
  have rv := hgA hg 764 (c := 149) (j := 12 + 7 * p) (by decide +kernel) (by omega)
  unfold fR at rv
  refine fx_la 0 1 (v := 1186) (by decide +kernel) rfl (by decide +kernel) ?_
  refine fx_li 1 2 (by decide +kernel) rfl ?_
  refine fx_ci (0) 3 (by decide +kernel) ?_
  refine fx_c3 299 21 6 0 [] (by decide +kernel) (by decide) (by decide) (fI_n4 _) (fI_n4 _) rfl (by first | decide | omega) ?_
  refine sp_mof (w := 0) hp (by decide) (fK1 ?_)
  rw [show 12 + 7 * p + 0 = 12 + 7 * p from rfl]
  refine fx_ci (-1) 7 (by decide +kernel) ?_
  refine fx_ieq 22 10 (by decide +kernel) (by unfold fR; omega) (by unfold fR; omega) (fun h7 => ?_) (fun h7 => ?_)
  · refine fx_ci (0) 23 (by decide +kernel) ?_
    refine fx_retb (by decide +kernel) (by first | exact Or.inl rfl | exact Or.inr rfl | omega) ?_
    exact k2 (fun t => t.1 h7)
  · refine fx_la 0 11 (v := 1186) (by decide +kernel) rfl (by decide +kernel) ?_
    refine fx_li 1 12 (by decide +kernel) rfl ?_
    refine fx_c2 302 21 15 1 [] (by decide +kernel) (by decide) (by decide) (fI_n4 _) rfl (by first | decide | omega) ?_
    refine sp_misDead hp (fun t => fK1 ?_) (fun t => fK1 ?_)
    · refine fx_zne 22 18 (by decide +kernel) (by unfold fR; omega) (fun _ => ?_) (fun hc => absurd hc (by decide))
      refine fx_ci (0) 23 (by decide +kernel) ?_
      refine fx_retb (by decide +kernel) (by first | exact Or.inl rfl | exact Or.inr rfl | omega) ?_
      exact k2 (fun u => u.2 t)
    · refine fx_zne 22 18 (by decide +kernel) (by unfold fR; omega) (fun hc => absurd hc (by decide)) (fun _ => ?_)
      refine fx_ci (1) 19 (by decide +kernel) ?_
      refine fx_go 23 (by decide +kernel) ?_
      refine fx_retb (by decide +kernel) (by first | exact Or.inl rfl | exact Or.inr rfl | omega) ?_
      exact k1 ⟨h7, t⟩
theorem sp_mputE {p w : Nat} {v : Int} (hp : p < 8) (hw : w < 7) (hv : fR v) (kq : Q 0 0 (frow g (tU (g 149) (12 + 7 * p + w) v))) : fx W r 0 288 0 [1186, fI (p : Int), fI (w : Int), fI v] [] g Q := by
  refine sp_put (by omega) (by omega) (by omega) (by omega) hv ?_
  rw [show (12 + 7 * (p : Int) + (w : Int)).toNat = 12 + 7 * p + w by omega, frow_fu0]
  exact kq
theorem sp_mgives {v : Int} (h0 : 0 ≤ g 149 8) (h1 : g 149 8 ≤ 9999) (v0 : -99 ≤ v) (v1 : v ≤ 99) (kq : Q 0 0 (frow g (tU (g 149) 8 (if 9999 < g 149 8 + v then 9999 else g 149 8 + v)))) : fx W r 1 321 0 [1186, fI v] [] g Q := by
  refine fx_la 0 1 (v := 1186) (by decide +kernel) rfl (by decide +kernel) ?_
  refine fx_gp 1186 148 1 1194 4 (by decide +kernel) ?_
  refine fx_ci (8) 6 (by decide +kernel) ?_
  refine fx_ci (9999) 9 (by decide +kernel) ?_
  refine fx_la 0 10 (v := 1186) (by decide +kernel) rfl (by decide +kernel) ?_
  refine fx_gp 1186 148 1 1194 13 (by decide +kernel) ?_
  refine fx_ci (8) 15 (by decide +kernel) ?_
  refine fx_al 1194 149 764 16 (by decide +kernel) rfl (by omega) (by omega) rfl ?_
  try simp only [fu_app, fcy_app, Nat.reduceEqDiff, and_true, and_false, false_and, true_and, if_true, if_false, ite_true, ite_false, reduceIte, Int.reduceToNat, fx_simp0]
  refine fx_li 1 17 (by decide +kernel) rfl ?_
  refine fx_add 18 (by decide +kernel) rfl ?_
  refine fx_c2 322 22 21 0 [] (f_q22 (by decide +kernel)) (by decide) (fI_n4 _) (fI_n4 _) rfl (by first | decide | omega) ?_
  refine sp_mlesser (by unfold fR; omega) (by unfold fR; omega) (fK1 ?_)
  refine fx_as 1194 149 764 22 (by decide +kernel) rfl (by omega) (by omega) rfl (by unfold fR; omega) ?_
  refine fx_vret (by decide +kernel) ?_
  rw [show (8 : Int).toNat = 8 from rfl, frow_fu0]
  exact kq
/-! the class -/
theorem sp_cneedPerson {v : Int} (hr : 1 ≤ r) (hv : fR v) (h0 : 0 ≤ g 3 4) (h1 : g 3 4 ≤ 8) (k1 : 0 ≤ v ∧ v < g 3 4 → Q 0 0 g) (k2 : ¬ (0 ≤ v ∧ v < g 3 4) → Q 4 0 g) : fx W r 0 123 0 [2, fI v] [] g Q := by
  unfold fR at hv
  refine fx_li 1 1 (by decide +kernel) rfl ?_
  refine fx_zlt 15 4 (by decide +kernel) (by unfold fR; omega) (fun h1 => ?_) (fun h1 => ?_)
  · refine fx_throw 2 (by decide +kernel) rfl (by omega) ?_
    exact k2 (by omega)
  · refine fx_li 1 5 (by decide +kernel) rfl ?_
    refine fx_la 0 6 (v := 2) (by decide +kernel) rfl (by decide +kernel) ?_
    refine fx_gp 2 0 1 26 9 (by decide +kernel) ?_
    refine fx_gi 26 3 4 12 (by decide +kernel) ?_
    refine fx_ilt 26 15 (by decide +kernel) (by unfold fR; omega) (by first | exact hg 3 4 (by decide) (by decide +kernel) (by decide +kernel) | (unfold fR; omega)) (fun h12 => ?_) (fun h12 => ?_)
    · refine fx_vret (by decide +kernel) ?_
      exact k1 (by omega)
    · refine fx_throw 2 (by decide +kernel) rfl (by omega) ?_
      exact k2 (by omega)
theorem sp_cneedWithin {v lo hi : Int} (hr : 1 ≤ r) (hv : fR v) (hl : fR lo) (hh : fR hi) (k1 : lo ≤ v ∧ v ≤ hi → Q 0 0 g) (k2 : ¬ (lo ≤ v ∧ v ≤ hi) → Q 2 0 g) : fx W r 0 173 0 [2, fI v, fI lo, fI hi] [] g Q := by
  unfold fR at hv hl hh
  refine fx_li 1 1 (by decide +kernel) rfl ?_
  refine fx_li 2 2 (by decide +kernel) rfl ?_
  refine fx_ilt 10 5 (by decide +kernel) (by unfold fR; omega) (by unfold fR; omega) (fun h2 => ?_) (fun h2 => ?_)
  · refine fx_throw 0 (by decide +kernel) rfl (by omega) ?_
    exact k2 (by omega)
  · refine fx_li 1 6 (by decide +kernel) rfl ?_
    refine fx_li 3 7 (by decide +kernel) rfl ?_
    refine fx_ile 21 10 (by decide +kernel) (by unfold fR; omega) (by unfold fR; omega) (fun h7 => ?_) (fun h7 => ?_)
    · refine fx_vret (by decide +kernel) ?_
      exact k1 (by omega)
    · refine fx_throw 0 (by decide +kernel) rfl (by omega) ?_
      exact k2 (by omega)
theorem sp_cisDead_table {p : Nat} (kq : Q 1 (fI (fbt (g 16 7) p)) g) : fx W r 1 44 0 [130, fI (p : Int)] [] g Q := by
  have h01 := fbt_01 (g 16 7) p
  refine fx_la 0 1 (v := 130) (by decide +kernel) rfl (by decide +kernel) ?_
  refine fx_gi 130 16 7 4 (by decide +kernel) ?_
  refine fx_li 1 5 (by decide +kernel) rfl ?_
  refine fx_c2 23 22 8 0 [] (f_q22 (by decide +kernel)) (by decide) (fI_n4 _) (fI_n4 _) rfl (by first | decide | omega) ?_
  refine sp_chas (fK1 ?_)
  refine fx_retb (by decide +kernel) (by first | exact Or.inl rfl | exact Or.inr rfl | omega) ?_
  exact kq
theorem sp_cisAway_table {p : Nat} (hp : p < 8) (k1 : g 17 p ≠ -1 ∧ fbt (g 16 7) p ≠ 1 → Q 1 (fI 1) g) (k2 : ¬ (g 17 p ≠ -1 ∧ fbt (g 16 7) p ≠ 1) → Q 1 (fI 0) g) : fx W r 1 55 0 [130, fI (p : Int)] [] g Q := by
  refine fx_rg (fun hg => ?_)
  have rv := hgA hg 8 (c := 17) (j := p) (by decide +kernel) (by omega)
  unfold fR at rv
  have h01 := fbt_01 (g 16 7) p
  refine fx_la 0 1 (v := 130) (by decide +kernel) rfl (by decide +kernel) ?_
  refine fx_gp 130 16 0 138 4 (by decide +kernel) ?_
  refine fx_li 1 5 (by decide +kernel) rfl ?_
  refine fx_al 138 17 8 6 (by decide +kernel) rfl (by omega) (by omega) rfl ?_
  rw [show ((p : Int)).toNat = p from rfl]
  refine fx_ci (-1) 7 (by decide +kernel) ?_
  refine fx_ieq 25 10 (by decide +kernel) (by unfold fR; omega) (by unfold fR; omega) (fun h7 => ?_) (fun h7 => ?_)
  · refine fx_ci (0) 26 (by decide +kernel) ?_
    refine fx_retb (by decide +kernel) (by first | exact Or.inl rfl | exact Or.inr rfl | omega) ?_
    exact k2 (fun t => t.1 h7)
  · refine fx_la 0 11 (v := 130) (by decide +kernel) rfl (by decide +kernel) ?_
    refine fx_gi 130 16 7 14 (by decide +kernel) ?_
    refine fx_li 1 15 (by decide +kernel) rfl ?_
    refine fx_c2 23 22 18 0 [] (f_q22 (by decide +kernel)) (by decide) (fI_n4 _) (fI_n4 _) rfl (by first | decide | omega) ?_
    refine sp_chas (fK1 ?_)
    refine fx_zne 25 21 (by decide +kernel) (by unfold fR; omega) (fun h18 => ?_) (fun h18 => ?_)
    · refine fx_ci (0) 26 (by decide +kernel) ?_
      refine fx_retb (by decide +kernel) (by first | exact Or.inl rfl | exact Or.inr rfl | omega) ?_
      exact k2 (fun t => t.2 (by omega))
    · refine fx_ci (1) 22 (by decide +kernel) ?_
      refine fx_go 26 (by decide +kernel) ?_
      refine fx_retb (by decide +kernel) (by first | exact Or.inl rfl | exact Or.inr rfl | omega) ?_
      exact k1 ⟨h7, by omega⟩
theorem sp_cbringHome_table {p : Nat} (hp : p < 8) (kq : Q 0 0 (fu (fu g 17 p (-1)) 20 p 0)) : fx W r 0 156 0 [130, fI (p : Int)] [] g Q := by
  refine fx_la 0 1 (v := 130) (by decide +kernel) rfl (by decide +kernel) ?_
  refine fx_gp 130 16 0 138 4 (by decide +kernel) ?_
  refine fx_li 1 5 (by decide +kernel) rfl ?_
  refine fx_ci (-1) 6 (by decide +kernel) ?_
  refine fx_as 138 17 8 7 (by decide +kernel) rfl (by omega) (by omega) rfl (by unfold fR; omega) ?_
  refine fx_la 0 8 (v := 130) (by decide +kernel) rfl (by decide +kernel) ?_
  refine fx_gp 130 16 3 162 11 (by decide +kernel) ?_
  refine fx_li 1 12 (by decide +kernel) rfl ?_
  refine fx_ci (0) 13 (by decide +kernel) ?_
  refine fx_as 162 20 8 14 (by decide +kernel) rfl (by omega) (by omega) rfl (by unfold fR; omega) ?_
  refine fx_vret (by decide +kernel) ?_
  exact kq
theorem sp_cisDead_scratch {p : Nat} (kq : Q 1 (fI (fbt (g 22 7) p)) g) : fx W r 1 44 0 [178, fI (p : Int)] [] g Q := by
  have h01 := fbt_01 (g 22 7) p
  refine fx_la 0 1 (v := 178) (by decide +kernel) rfl (by decide +kernel) ?_
  refine fx_gi 178 22 7 4 (by decide +kernel) ?_
  refine fx_li 1 5 (by decide +kernel) rfl ?_
  refine fx_c2 23 22 8 0 [] (f_q22 (by decide +kernel)) (by decide) (fI_n4 _) (fI_n4 _) rfl (by first | decide | omega) ?_
  refine sp_chas (fK1 ?_)
  refine fx_retb (by decide +kernel) (by first | exact Or.inl rfl | exact Or.inr rfl | omega) ?_
  exact kq
theorem sp_cisAway_scratch {p : Nat} (hp : p < 8) (k1 : g 23 p ≠ -1 ∧ fbt (g 22 7) p ≠ 1 → Q 1 (fI 1) g) (k2 : ¬ (g 23 p ≠ -1 ∧ fbt (g 22 7) p ≠ 1) → Q 1 (fI 0) g) : fx W r 1 55 0 [178, fI (p : Int)] [] g Q := by
  refine fx_rg (fun hg => ?_)
  have rv := hgA hg 8 (c := 23) (j := p) (by decide +kernel) (by omega)
  unfold fR at rv
  have h01 := fbt_01 (g 22 7) p
  refine fx_la 0 1 (v := 178) (by decide +kernel) rfl (by decide +kernel) ?_
  refine fx_gp 178 22 0 186 4 (by decide +kernel) ?_
  refine fx_li 1 5 (by decide +kernel) rfl ?_
  refine fx_al 186 23 8 6 (by decide +kernel) rfl (by omega) (by omega) rfl ?_
  rw [show ((p : Int)).toNat = p from rfl]
  refine fx_ci (-1) 7 (by decide +kernel) ?_
  refine fx_ieq 25 10 (by decide +kernel) (by unfold fR; omega) (by unfold fR; omega) (fun h7 => ?_) (fun h7 => ?_)
  · refine fx_ci (0) 26 (by decide +kernel) ?_
    refine fx_retb (by decide +kernel) (by first | exact Or.inl rfl | exact Or.inr rfl | omega) ?_
    exact k2 (fun t => t.1 h7)
  · refine fx_la 0 11 (v := 178) (by decide +kernel) rfl (by decide +kernel) ?_
    refine fx_gi 178 22 7 14 (by decide +kernel) ?_
    refine fx_li 1 15 (by decide +kernel) rfl ?_
    refine fx_c2 23 22 18 0 [] (f_q22 (by decide +kernel)) (by decide) (fI_n4 _) (fI_n4 _) rfl (by first | decide | omega) ?_
    refine sp_chas (fK1 ?_)
    refine fx_zne 25 21 (by decide +kernel) (by unfold fR; omega) (fun h18 => ?_) (fun h18 => ?_)
    · refine fx_ci (0) 26 (by decide +kernel) ?_
      refine fx_retb (by decide +kernel) (by first | exact Or.inl rfl | exact Or.inr rfl | omega) ?_
      exact k2 (fun t => t.2 (by omega))
    · refine fx_ci (1) 22 (by decide +kernel) ?_
      refine fx_go 26 (by decide +kernel) ?_
      refine fx_retb (by decide +kernel) (by first | exact Or.inl rfl | exact Or.inr rfl | omega) ?_
      exact k1 ⟨h7, by omega⟩
theorem sp_cbringHome_scratch {p : Nat} (hp : p < 8) (kq : Q 0 0 (fu (fu g 23 p (-1)) 26 p 0)) : fx W r 0 156 0 [178, fI (p : Int)] [] g Q := by
  refine fx_la 0 1 (v := 178) (by decide +kernel) rfl (by decide +kernel) ?_
  refine fx_gp 178 22 0 186 4 (by decide +kernel) ?_
  refine fx_li 1 5 (by decide +kernel) rfl ?_
  refine fx_ci (-1) 6 (by decide +kernel) ?_
  refine fx_as 186 23 8 7 (by decide +kernel) rfl (by omega) (by omega) rfl (by unfold fR; omega) ?_
  refine fx_la 0 8 (v := 178) (by decide +kernel) rfl (by decide +kernel) ?_
  refine fx_gp 178 22 3 210 11 (by decide +kernel) ?_
  refine fx_li 1 12 (by decide +kernel) rfl ?_
  refine fx_ci (0) 13 (by decide +kernel) ?_
  refine fx_as 210 26 8 14 (by decide +kernel) rfl (by omega) (by omega) rfl (by unfold fR; omega) ?_
  refine fx_vret (by decide +kernel) ?_
  exact kq
end FHK
