/-! fx: the law's case of like, walked -/
theorem f_n4_w23 {A : Int} : ∀ v ∈ [2, fI A, 1274], v % 8 ≠ 4 := fun v hv => by
  simp only [List.mem_cons, List.not_mem_nil, or_false] at hv
  rcases hv with rfl | rfl | rfl
  · decide
  · exact fI_n4 _
  · decide
theorem f_n4_m23 {A : Int} : ∀ v ∈ [1186, fI A], v % 8 ≠ 4 := fun v hv => by
  simp only [List.mem_cons, List.not_mem_nil, or_false] at hv
  rcases hv with rfl | rfl
  · decide
  · exact fI_n4 _
theorem ax_As_w23 {A : Int} : ax_As [(0, 2, 0), (1, 0, 4294967295), (0, 1274, 0)] [2, fI A, 1274] := ⟨ax_Aq_p (by decide), ax_Aq_i _, ax_Aq_p (by decide), True.intro⟩
theorem ax_As_m23 {A : Int} : ax_As [(0, 1186, 0), (1, 0, 4294967295)] [1186, fI A] := ⟨ax_Aq_p (by decide), ax_Aq_i _, True.intro⟩
section L23
variable {W : ax_W} {g : Nat → Nat → Int} {Q : Nat → Nat → (Nat → Nat → Int) → Prop}
theorem law_23_g {cW cM : ax_C} {b r2 d : Nat} {s : Nat → Int} {i : Int} {x5 x6 : Nat} (hs : fScr W s) (hvW : ax_Valid W.N W.sy cW) (w1 : cW.1 = 199) (w2 : cW.2.2.1 = [(0, 2, 0), (1, 0, 4294967295), (0, 1274, 0)]) (w3 : cW.2.2.2.1 = []) (w4 : cW.2.1 ≤ 20)
    (hvM : ax_Valid W.N W.sy cM) (m1 : cM.1 = 351) (m2 : cM.2.2.1 = [(0, 1186, 0), (1, 0, 4294967295)]) (m3 : cM.2.2.2.1 = []) (m4 : cM.2.1 ≤ 20) (hd : 21 ≤ d) (hl : 1 + b ≤ W.lim) (hr : 1 ≤ r2) (hi0 : 0 ≤ i) (hi1 : i ≤ 3072) (hiN : i + 6 ≤ W.N) (hI : LInv g)
    (ok : Int → Prop) (val : Int → Int)
    (hw : ∀ A : Int, fR A → fx (fWl W 1) 1 20 199 0 [2, fI A, 1274, 7] [] g (PWi (ok A) (val A) g))
    (hm : ∀ A : Int, fR A → ∀ g1, fKp g g1 → (∀ j, g1 149 j = g 149 j) → gHs g1 → fx (fWl (fWl W b) 0) r2 20 351 0 [1186, fI A] [] g1 (PMi (ok A) (val A) g1))
    (kq : ∀ g' x5 x6, LInv g' → x5 % 8 ≠ 4 → x6 % 8 ≠ 4 → fx (fWl W b) r2 d 0 23 [5, 2, 1186, 1274, fI (i + 6), x5, x6] [] g' Q) : fx W (r2 + 1) d 0 1032 [5, 2, 1186, 1274, fI i, x5, x6] [] g Q := by
  have sr : ∀ k : Int, 0 ≤ k → k < W.N → fR (s k.toNat) := fun k k0 k1 => (hs.2 k.toNat (by omega)).1
  refine fx_la 1 1033 (v := 2) (by decide +kernel) rfl (by decide +kernel) ?_
  refine fx_la 0 1034 (v := 5) (by decide +kernel) rfl (by decide +kernel) ?_
  refine fx_li 4 1036 (by decide +kernel) rfl ?_
  refine fx_ci (1) 1037 (by decide +kernel) ?_
  refine fx_add 1038 (by decide +kernel) rfl ?_
  refine fx_scr 1039 hs (by decide +kernel) rfl (by omega) (by omega) ?_
  refine fx_la 3 1040 (v := 1274) (by decide +kernel) rfl (by decide +kernel) ?_
  have sA := sr (i + 1) (by omega) (by omega)
  obtain ⟨e1, e2⟩ := f_qm_ok (W := W) (L := [5, 2, 1186, 1274, fI i, x5, x6]) (g := g) (S := [1274, fI (s (i + 1).toNat), 2]) (rest := []) (mi := 0) (pc := 1040) (mj := 199) (n := 3) (op := 22) (a := 2) (av' := [fI (s (i + 1).toNat), 1274]) (by decide +kernel) (by decide +kernel) (fun K => rfl) (fun t => absurd t (by decide))
  refine fx_callW (a := 1) (b := b) (r1 := 1) (r2 := r2) hl (by omega) (by omega) e1 e2 (by decide +kernel) (dj := 20) hd (pc' := 1043) rfl (Lj := [2, fI (s (i + 1).toNat), 1274, 7]) (f_xp f_n4_w23 (show 3 ≤ _ by decide +kernel)) ?_
  generalize eA : s (i + 1).toNat = A at *
  have wk : fx (fWl W 1) 1 20 199 0 [2, fI A, 1274, 7] [] g (fun k v g1 => PWi (ok A) (val A) g k v g1 ∧ gHs g1) := by
    rw [← w1]
    refine fx_hs (W := fWl W 1) (cav := [2, fI A, 1274]) hvW hI.1 (by rw [w2]; exact ax_As_w23) w3 (by rw [w1]; exact f_xp f_n4_w23 (show 3 ≤ _ by decide +kernel)) (Nat.le_refl 1) w4 ?_
    rw [w1]
    exact hw A sA
  refine wk.mono (fun k v g1 h => ⟨h.1.1, ?_⟩)
  obtain ⟨⟨-, kp1, mm1, hc⟩, hs1⟩ := h
  have hz : ∃ z : Int, v = fI z ∧ 0 ≤ z ∧ z ≤ 1 := by
    rcases hc with ⟨-, e⟩ | ⟨-, e, -⟩
    · exact ⟨1, e, by decide, by decide⟩
    · exact ⟨0, e, by decide, by decide⟩
  obtain ⟨z, hz, z0, z2⟩ := hz
  subst hz
  have hs : fScr (fWl W b) s := hs
  have hiN : i + 6 ≤ ((fWl W b).N : Int) := hiN
  refine fx_si 5 1045 (by decide +kernel) (Or.inr (fI_n4 _)) rfl ?_
  dsimp only [List.set]
  refine fx_la 2 1046 (v := 1186) (by decide +kernel) rfl (by decide +kernel) ?_
  refine fx_la 0 1047 (v := 5) (by decide +kernel) rfl (by decide +kernel) ?_
  refine fx_li 4 1049 (by decide +kernel) rfl ?_
  refine fx_ci (1) 1050 (by decide +kernel) ?_
  refine fx_add 1051 (by decide +kernel) rfl ?_
  refine fx_scr 1052 hs (by decide +kernel) rfl (by omega) (by omega) ?_
  refine fx_c2 351 21 1055 20 [] (by decide +kernel) (by decide) (by decide) (fI_n4 _) rfl (by first | decide | omega) ?_
  rw [eA]
  have mk : fx (fWl (fWl W b) 0) r2 20 351 0 [1186, fI A] [] g1 (fun k w g2 => PMi (ok A) (val A) g1 k w g2 ∧ gHs g2) := by
    rw [← m1]
    refine fx_hs (W := fWl (fWl W b) 0) (cav := [1186, fI A]) hvM hs1 (by rw [m2]; exact ax_As_m23) m3 (by rw [m1]; exact f_xp f_n4_m23 (show 2 ≤ _ by decide +kernel)) hr m4 ?_
    rw [m1]
    exact hm A sA g1 kp1 mm1 hs1
  refine mk.mono (fun k w g2 h => ?_)
  obtain ⟨⟨hk2, zw, hzw, zwR, kp2, ho, hc2⟩, hs2⟩ := h
  subst hk2
  subst hzw
  refine fK1 ?_
  refine fx_si 6 1057 (by decide +kernel) (Or.inr (fI_n4 _)) rfl ?_
  dsimp only [List.set]
  have fin : ∀ l5 l6 : Nat, l5 % 8 ≠ 4 → l6 % 8 ≠ 4 → fx (fWl W b) r2 d 0 1085 [5, 2, 1186, 1274, fI i, l5, l6] [] g2 Q := fun l5 l6 q5 q6 => by
    refine fx_go 1990 (by decide +kernel) ?_
    refine fx_inc 4 1993 6 (by decide +kernel) rfl (Or.inr (f_n4p (v := 1274) rfl (by decide))) rfl ?_
    dsimp only [List.set]
    exact fx_go 23 (by decide +kernel) (kq g2 l5 l6 ((kp1.tr kp2).inv hI hs2) q5 q6)
  have cz : g2 148 0 = z ∧ (z = 0 → g2 159 0 = ((fJ zw - 4 : Nat) : Int)) := by
    have inj : ∀ y : Int, 0 ≤ y → y ≤ 2 → fI z = fI y → z = y := fun y y0 y2 t => fI_inj (by unfold fR; omega) (by unfold fR; omega) t
    rcases hc with ⟨c0, c1⟩ | ⟨c0, c1, c2⟩
    · have := inj 1 (by decide) (by decide) c1
      rcases hc2 with ⟨-, e⟩ | ⟨t, -⟩
      · exact ⟨by omega, fun t => by omega⟩
      · exact absurd t c0
    · have := inj 0 (by decide) (by decide) c1
      rcases hc2 with ⟨t, -⟩ | ⟨-, e, e2⟩
      · exact absurd c0 t
      · refine ⟨by omega, fun _ => ?_⟩
        rw [ho, c2, e2]
  refine fx_la 2 1058 (v := 1186) (by decide +kernel) rfl (by decide +kernel) ?_
  refine fx_c1 263 21 1061 0 [] (by decide +kernel) (by decide) rfl (by first | decide | omega) ?_
  refine sp_thrown (fK1 ?_)
  rw [cz.1]
  refine fx_li 5 1063 (by decide +kernel) rfl ?_
  refine fx_ieq 1068 1066 (by decide +kernel) (by unfold fR; omega) (by unfold fR; omega) (fun h1063 => ?_) (fun h1063 => ?_)
  · refine fx_li 5 1070 (by decide +kernel) rfl ?_
    refine fx_zne 1085 1073 (by decide +kernel) (by unfold fR; omega) (fun h1070 => ?_) (fun h1070 => ?_)
    · exact fin _ _ (fI_n4 _) (fI_n4 _)
    · have c2 := cz.2 h1070
      refine fx_la 3 1074 (v := 1274) (by decide +kernel) rfl (by decide +kernel) ?_
      refine fx_ci 0 1075 (by decide +kernel) ?_
      refine fx_lal 1274 159 1 1076 (by decide +kernel) rfl (by omega) (by omega) ?_
      refine fx_li 6 1078 (by decide +kernel) rfl ?_
      refine fx_i2l 1079 (by decide +kernel) rfl ?_
      have ej := fJ_ok zw
      rw [show (0 : Int).toNat = 0 from rfl, c2, show ((fJ zw - 4 : Nat) : Int).toNat + 4 = fJ zw by omega]
      refine fx_lcmp0 1080 (by decide +kernel) rfl ej.1 ?_
      exact fx_zeq 1085 1083 (by decide +kernel) (by unfold fR; omega) (fun _ => fin _ _ (fI_n4 _) (fI_n4 _)) (fun t => absurd rfl t)
  · exact absurd rfl h1063
end L23
section L23T
variable {W : ax_W} {g : Nat → Nat → Int} {Q : Nat → Nat → (Nat → Nat → Int) → Prop}
theorem law_23 {cW cM : ax_C} {b r2 d : Nat} {s : Nat → Int} {i : Int} {x5 x6 : Nat} (hs : fScr W s) (hvW : ax_Valid W.N W.sy cW) (w1 : cW.1 = 199) (w2 : cW.2.2.1 = [(0, 2, 0), (1, 0, 4294967295), (0, 1274, 0)]) (w3 : cW.2.2.2.1 = []) (w4 : cW.2.1 ≤ 20)
    (hvM : ax_Valid W.N W.sy cM) (m1 : cM.1 = 351) (m2 : cM.2.2.1 = [(0, 1186, 0), (1, 0, 4294967295)]) (m3 : cM.2.2.2.1 = []) (m4 : cM.2.1 ≤ 20) (hd : 21 ≤ d) (hl : 1 + b ≤ W.lim) (hr : 1 ≤ r2) (hi0 : 0 ≤ i) (hi1 : i ≤ 3072) (hiN : i + 6 ≤ W.N) (hI : LInv g)
    (kq : ∀ g' x5 x6, LInv g' → x5 % 8 ≠ 4 → x6 % 8 ≠ 4 → fx (fWl W b) r2 d 0 23 [5, 2, 1186, 1274, fI (i + 6), x5, x6] [] g' Q) : fx W (r2 + 1) d 0 1032 [5, 2, 1186, 1274, fI i, x5, x6] [] g Q := by
  refine fx_LB hI.1 (fun hb => ?_)
  refine law_23_g hs hvW w1 w2 w3 w4 hvM m1 m2 m3 m4 hd hl hr hi0 hi1 hiN hI (fun A => 0 ≤ A ∧ A < g 3 5) (fun A => pLk (g 6) (g 3 5) (fop 6 1 A)) (fun A sA => ?_) (fun A sA g1 kp mm hs1 => ?_) kq
  · exact fx.up (sp_wlike (W := fWl W 1) (Nat.le_refl 1) sA hb.2.2.1.1 hb.2.2.1.2 (fun t => ⟨rfl, fKp.rf, fun _ => rfl, Or.inl ⟨t, rfl⟩⟩) (fun t => ⟨rfl, fKp.out, fun _ => fu_nc (by decide), Or.inr ⟨t, rfl, fu_eq _ _ _ _⟩⟩)) (Nat.le_refl 1) (by decide)
  · have hx := hI.2.1.2.1
    have e4 : g1 149 4 = g 3 5 := by rw [mm]; exact hx.2.1.symm
    have hb3 := hb.2.2.1
    have he : ∀ j : Nat, j < 48 → (j : Int) < 8 * g1 149 4 → g1 149 (68 + j) = g 6 j := fun j j1 j2 => by
      rw [mm]
      exact (hx.2.2.2.1 j j1 (by omega)).symm
    have pb := pLk_b (g 6) (g 3 5) (fop 6 1 A)
    exact fx.up (sp_mlike he sA (by omega) (by omega) (fun t => ⟨rfl, 0, rfl, by unfold fR; omega, fKp.thr, fu_nc (by decide), Or.inl ⟨fun u => t ⟨u.1, by omega⟩, fu_eq _ _ _ _⟩⟩) (fun t => ⟨rfl, _, rfl, by rw [e4]; unfold fR; omega, fKp.thr, fu_nc (by decide), Or.inr ⟨⟨t.1, by omega⟩, fu_eq _ _ _ _, by rw [e4]⟩⟩)) (Nat.le_refl _) (by decide)
end L23T
