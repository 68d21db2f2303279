/-! fx: eaten, on both sides -/
section G8
variable {W : ax_W} {r : Nat} {g : Nat → Nat → Int} {Q : Nat → Nat → (Nat → Nat → Int) → Prop}
theorem sp_ceatenAt {a b : Int} (ha : 0 ≤ a ∧ a < 6) (hb : 0 ≤ b ∧ b ≤ 7) (kq : Q 1 (fI (g 6 (a * 8 + b).toNat)) g) : fx W r 0 24 0 [26, fI a, fI b] [] g Q := by
  refine fx_la 0 1 (v := 26) (by decide +kernel) rfl (by decide +kernel) ?_
  refine fx_gp 26 3 2 50 4 (by decide +kernel) ?_
  refine fx_li 1 5 (by decide +kernel) rfl ?_
  refine fx_ci (8) 7 (by decide +kernel) ?_
  refine fx_mul 8 (by decide +kernel) rfl ?_
  refine fx_li 2 9 (by decide +kernel) rfl ?_
  refine fx_add 10 (by decide +kernel) rfl ?_
  refine fx_al 50 6 48 11 (by decide +kernel) rfl (by omega) (by omega) rfl ?_
  refine fx_ret (by decide +kernel) ?_
  exact kq
theorem sp_meatenOf {a b : Int} (ha : 0 ≤ a ∧ a < 6) (hb : 0 ≤ b ∧ b ≤ 7) (kq : Q 1 (fI (g 149 (68 + 8 * a + b).toNat)) g) : fx W r 0 314 0 [1186, fI a, fI b] [] g Q := by
  refine fx_la 0 1 (v := 1186) (by decide +kernel) rfl (by decide +kernel) ?_
  refine fx_gp 1186 148 1 1194 4 (by decide +kernel) ?_
  refine fx_ci (68) 6 (by decide +kernel) ?_
  refine fx_ci (8) 8 (by decide +kernel) ?_
  refine fx_li 1 9 (by decide +kernel) rfl ?_
  refine fx_mul 10 (by decide +kernel) rfl ?_
  refine fx_add 11 (by decide +kernel) rfl ?_
  refine fx_li 2 12 (by decide +kernel) rfl ?_
  refine fx_add 13 (by decide +kernel) rfl ?_
  refine fx_al 1194 149 764 14 (by decide +kernel) rfl (by omega) (by omega) rfl ?_
  refine fx_ret (by decide +kernel) ?_
  exact kq
theorem sp_ceaten {a b : Int} (hr : 1 ≤ r) (ha : fR a) (hb : fR b) (h0 : 0 ≤ g 3 5) (h1 : g 3 5 ≤ 6) (k1 : ¬ ((0 ≤ a ∧ a < g 3 5) ∧ 0 ≤ b ∧ b ≤ 7) → Q 4 0 g) (k3 : (0 ≤ a ∧ a < g 3 5) ∧ 0 ≤ b ∧ b ≤ 7 → Q 1 (fI (g 6 (a * 8 + b).toNat)) g) : fx W r 1 138 0 [2, fI a, fI b] [] g Q := by
  refine fx_la 0 1 (v := 2) (by decide +kernel) rfl (by decide +kernel) ?_
  refine fx_li 1 2 (by decide +kernel) rfl ?_
  refine fx_c2 139 21 5 0 [] (by decide +kernel) (by decide) (by decide) (fI_n4 _) rfl (by first | decide | omega) ?_
  refine sp_needDish hr ha h0 h1 (fun t1 => fK0 ?_) (fun t1 => fK2 (k := 2) ?_)
  · refine fx_la 0 6 (v := 2) (by decide +kernel) rfl (by decide +kernel) ?_
    refine fx_li 2 7 (by decide +kernel) rfl ?_
    refine fx_c2 140 21 10 0 [] (by decide +kernel) (by decide) (by decide) (fI_n4 _) rfl (by first | decide | omega) ?_
    refine sp_needPlace hr hb (fun t2 => fK0 ?_) (fun t2 => fK2 (k := 2) ?_)
    · refine fx_la 0 11 (v := 2) (by decide +kernel) rfl (by decide +kernel) ?_
      refine fx_gp 2 0 1 26 14 (by decide +kernel) ?_
      refine fx_li 1 15 (by decide +kernel) rfl ?_
      refine fx_li 2 16 (by decide +kernel) rfl ?_
      refine fx_c3 24 21 19 0 [] (by decide +kernel) (by decide) (by decide) (fI_n4 _) (fI_n4 _) rfl (by first | decide | omega) ?_
      refine sp_ceatenAt ⟨t1.1, by omega⟩ t2 (fK1 ?_)
      refine fx_ret (by decide +kernel) ?_
      exact k3 ⟨t1, t2⟩
    · exact k1 (fun t => t2 t.2)
  · exact k1 (fun t => t1 t.1)
theorem sp_meaten {a b : Int} (ha : fR a) (hb : fR b) (h0 : 0 ≤ g 149 4) (h1 : g 149 4 ≤ 6) (k1 : ¬ ((0 ≤ a ∧ a < g 149 4) ∧ 0 ≤ b ∧ b ≤ 7) → Q 1 (fI 0) (fu g 148 0 1)) (k3 : (0 ≤ a ∧ a < g 149 4) ∧ 0 ≤ b ∧ b ≤ 7 → Q 1 (fI (g 149 (68 + 8 * a + b).toNat)) (fu g 148 0 0)) : fx W r 2 311 0 [1186, fI a, fI b] [] g Q := by
  have ha2 := ha
  have hb2 := hb
  unfold fR at ha2 hb2
  refine fx_la 0 1 (v := 1186) (by decide +kernel) rfl (by decide +kernel) ?_
  refine fx_la 0 2 (v := 1186) (by decide +kernel) rfl (by decide +kernel) ?_
  refine fx_li 1 3 (by decide +kernel) rfl ?_
  refine fx_c2 312 21 6 1 [] (by decide +kernel) (by decide) (by decide) (fI_n4 _) rfl (by first | decide | omega) ?_
  refine sp_misDish ha h0 h1 (fun t1 => fK1 ?_) (fun t1 => fK1 ?_)
  · refine fx_zeq 16 9 (by decide +kernel) (by unfold fR; omega) (fun hc => absurd hc (by decide)) (fun _ => ?_)
    refine fx_li 2 10 (by decide +kernel) rfl ?_
    refine fx_c1 313 22 13 1 [] (f_q22 (by decide +kernel)) (fI_n4 _) rfl (by first | decide | omega) ?_
    refine sp_misPlace hb (fun t2 => fK1 ?_) (fun t2 => fK1 ?_)
    · refine fx_zne 20 16 (by decide +kernel) (by unfold fR; omega) (fun _ => ?_) (fun hc => absurd hc (by decide))
      refine fx_ci (0) 21 (by decide +kernel) ?_
      refine fx_pi 1186 148 0 24 (by decide +kernel) (by unfold fR; omega) ?_
      refine fx_la 0 25 (v := 1186) (by decide +kernel) rfl (by decide +kernel) ?_
      refine fx_gi 1186 148 0 28 (by decide +kernel) ?_
      try simp only [fu_app, fcy_app, Nat.reduceEqDiff, and_true, and_false, false_and, true_and, if_true, if_false, ite_true, ite_false, reduceIte, Int.reduceToNat, fx_simp0]
      refine fx_zle 35 31 (by decide +kernel) (by unfold fR; omega) (fun h28 => ?_) (fun h28 => ?_)
      · refine fx_la 0 36 (v := 1186) (by decide +kernel) rfl (by decide +kernel) ?_
        refine fx_li 1 37 (by decide +kernel) rfl ?_
        refine fx_li 2 38 (by decide +kernel) rfl ?_
        refine fx_c3 314 21 41 0 [] (by decide +kernel) (by decide) (by decide) (fI_n4 _) (fI_n4 _) rfl (by first | decide | omega) ?_
        refine sp_meatenOf ⟨t1.1, by omega⟩ t2 (fK1 ?_)
        refine fx_ret (by decide +kernel) ?_
        exact k3 ⟨t1, t2⟩
      · refine fx_ci (0) 32 (by decide +kernel) ?_
        refine fx_go 41 (by decide +kernel) ?_
        refine fx_ret (by decide +kernel) ?_
        exfalso; omega
    · refine fx_zne 20 16 (by decide +kernel) (by unfold fR; omega) (fun hc => absurd hc (by decide)) (fun _ => ?_)
      refine fx_ci (1) 17 (by decide +kernel) ?_
      refine fx_go 21 (by decide +kernel) ?_
      refine fx_pi 1186 148 0 24 (by decide +kernel) (by unfold fR; omega) ?_
      refine fx_la 0 25 (v := 1186) (by decide +kernel) rfl (by decide +kernel) ?_
      refine fx_gi 1186 148 0 28 (by decide +kernel) ?_
      try simp only [fu_app, fcy_app, Nat.reduceEqDiff, and_true, and_false, false_and, true_and, if_true, if_false, ite_true, ite_false, reduceIte, Int.reduceToNat, fx_simp0]
      refine fx_zle 35 31 (by decide +kernel) (by unfold fR; omega) (fun h28 => ?_) (fun h28 => ?_)
      · exfalso; omega
      · refine fx_ci (0) 32 (by decide +kernel) ?_
        refine fx_go 41 (by decide +kernel) ?_
        refine fx_ret (by decide +kernel) ?_
        exact k1 (fun t => t2 t.2)
  · refine fx_zeq 16 9 (by decide +kernel) (by unfold fR; omega) (fun _ => ?_) (fun hc => absurd hc (by decide))
    refine fx_ci (1) 17 (by decide +kernel) ?_
    refine fx_go 21 (by decide +kernel) ?_
    refine fx_pi 1186 148 0 24 (by decide +kernel) (by unfold fR; omega) ?_
    refine fx_la 0 25 (v := 1186) (by decide +kernel) rfl (by decide +kernel) ?_
    refine fx_gi 1186 148 0 28 (by decide +kernel) ?_
    try simp only [fu_app, fcy_app, Nat.reduceEqDiff, and_true, and_false, false_and, true_and, if_true, if_false, ite_true, ite_false, reduceIte, Int.reduceToNat, fx_simp0]
    refine fx_zle 35 31 (by decide +kernel) (by unfold fR; omega) (fun h28 => ?_) (fun h28 => ?_)
    · exfalso; omega
    · refine fx_ci (0) 32 (by decide +kernel) ?_
      refine fx_go 41 (by decide +kernel) ?_
      refine fx_ret (by decide +kernel) ?_
      exact k1 (fun t => t1 t.1)
theorem sp_weaten {a b : Int} (hl : 1 ≤ W.lim) (ha : fR a) (hb : fR b) (h0 : 0 ≤ g 3 5) (h1 : g 3 5 ≤ 6) (k1 : ¬ ((0 ≤ a ∧ a < g 3 5) ∧ 0 ≤ b ∧ b ≤ 7) → Q 1 (fI 1) g) (k3 : (0 ≤ a ∧ a < g 3 5) ∧ 0 ≤ b ∧ b ≤ 7 → Q 1 (fI 0) (fu g 159 0 ((fJ (g 6 (a * 8 + b).toNat) - 4 : Nat) : Int))) : fx W 1 2 137 0 [2, fI a, fI b, 1274, 7] [] g Q := by
  refine fx_la 3 1 (v := 1274) (by decide +kernel) rfl (by decide +kernel) ?_
  refine fx_ci (0) 2 (by decide +kernel) ?_
  refine fx_la 0 3 (v := 2) (by decide +kernel) rfl (by decide +kernel) ?_
  refine fx_li 1 4 (by decide +kernel) rfl ?_
  refine fx_li 2 5 (by decide +kernel) rfl ?_
  obtain ⟨e1, e2⟩ := f_qm_ok (W := W) (L := [2, fI a, fI b, 1274, 7]) (g := g) (S := [fI b, fI a, 2, fI 0, 1274]) (rest := [fI 0, 1274]) (mi := 137) (pc := 5) (mj := 138) (n := 3) (op := 21) (a := 2) (av' := [fI a, fI b]) (by decide +kernel) (by decide +kernel) (fun K => rfl) (fun t => absurd t (by decide))
  refine fx_callH (l := 0) (r := 0) (by omega) e1 e2 (by decide +kernel) (dj := 1) (by decide) (by decide +kernel) (pc' := 8) rfl (Lj := [2, fI a, fI b]) (f_xp (f_n4_3 (by decide)) (show 3 ≤ _ by decide +kernel)) ?_
  refine sp_ceaten (Nat.le_refl 1) ha hb h0 h1 (fun t => ?_) (fun t => ?_)
  · refine fKH2 2 15 4 (by decide +kernel) (Or.inr (f_n4p (v := 1274) rfl (by decide))) rfl ?_
    dsimp only [List.set]
    exact fx_ci 1 16 (by decide +kernel) (fx_ret (by decide +kernel) (k1 t))
  · refine fKH1 ?_
    refine fx_i2l 9 (by decide +kernel) rfl ?_
    refine fx_las 1274 159 1 10 (by decide +kernel) rfl (by omega) (by omega) (by decide +kernel) (fJ_ok _).1 (fJ_ok _).2 ?_
    exact fx_go 17 (by decide +kernel) (fx_ci 0 18 (by decide +kernel) (fx_ret (by decide +kernel) (k3 t)))
end G8
