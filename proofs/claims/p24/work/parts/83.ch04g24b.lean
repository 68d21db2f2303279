/-! fx: the law's case of apart, walked -/
theorem ax_As_w22 : ax_As [(0, 2, 0)] [2] := ⟨ax_Aq_p (by decide), True.intro⟩
theorem ax_As_m22 : ax_As [(0, 1186, 0)] [1186] := ⟨ax_Aq_p (by decide), True.intro⟩
section L22
variable {W : ax_W} {g : Nat → Nat → Int} {Q : Nat → Nat → (Nat → Nat → Int) → Prop}
theorem fx_lim24 {r d mi pc : Nat} {L S : List Nat} {a b : Nat} (h : fx (fWl W a) r d mi pc L S g Q) (hl : a ≤ b) : fx (fWl W b) r d mi pc L S g Q := fun D hh cs ss hD hv h1 h2 => by
  obtain ⟨o, ev, x1, x2, g', c1, c2, c3, c4⟩ := h D hh cs ss hD hv h1 h2
  have c3 : o.1 ≤ 1 → o.2.2.2.2.2.1 ≤ cs + a ∧ o.2.2.2.2.2.2 ≤ ss + 6 * a := c3
  have c4 : 1 < o.1 → 1 ≤ r ∧ o.2.2.2.2.2.1 ≤ cs + 1 + a ∧ o.2.2.2.2.2.2 ≤ ss + 6 + 6 * a := c4
  exact ⟨o, ev, x1, x2, g', c1, c2, fun t => by have := c3 t; exact ⟨by show _ ≤ cs + b; omega, by show _ ≤ ss + 6 * b; omega⟩, fun t => by have := c4 t; exact ⟨this.1, by show _ ≤ cs + 1 + b; omega, by show _ ≤ ss + 6 + 6 * b; omega⟩⟩
theorem law_22 {cW cM : ax_C} {b r2 d : Nat} {s : Nat → Int} {i : Int} {x5 x6 : Nat} (_hs : fScr W s) (hvW : ax_Valid W.N W.sy cW) (w1 : cW.1 = 18) (w2 : cW.2.2.1 = [(0, 2, 0)]) (w3 : cW.2.2.2.1 = []) (w4 : cW.2.1 ≤ 20)
    (hvM : ax_Valid W.N W.sy cM) (m1 : cM.1 = 347) (m2 : cM.2.2.1 = [(0, 1186, 0)]) (m3 : cM.2.2.2.1 = []) (m4 : cM.2.1 ≤ 20) (hd : 21 ≤ d) (hl : 1 + b ≤ W.lim) (hr : 1 ≤ r2) (hi0 : 0 ≤ i) (hi1 : i ≤ 3072) (hiN : i + 6 ≤ W.N) (hI : LInv g) (h5 : x5 % 8 ≠ 4) (h6 : x6 % 8 ≠ 4)
    (kq : ∀ g' x5 x6, LInv g' → x5 % 8 ≠ 4 → x6 % 8 ≠ 4 → fx (fWl W b) r2 d 0 23 [5, 2, 1186, 1274, fI (i + 6), x5, x6] [] g' Q) : fx W (r2 + 1) d 0 1019 [5, 2, 1186, 1274, fI i, x5, x6] [] g Q := by
  refine fx.up (r := r2) (d := d) ?_ (by omega) (Nat.le_refl _)
  have e0 : fWl W W.lim = W := rfl
  rw [← e0]
  refine fx_lim24 (a := b) ?_ (by omega)
  refine fx_LB hI.1 (fun hb => ?_)
  have hb3 := hb.2.2.1
  refine fx_la 1 1020 (v := 2) (by decide +kernel) rfl (by decide +kernel) ?_
  refine fx_c1 18 21 1023 20 [] (by decide +kernel) (by decide) rfl (by omega) ?_
  have wk : fx (fWl (fWl W b) 0) r2 20 18 0 [2] [] g (fun k v g1 => (k = 1 ∧ g1 = g ∧ v = fI (pAp (g 6) (g 3 5) (fop 6 1 (g 3 5) - 1).toNat 1 (-1))) ∧ gHs g1) := by
    rw [← w1]
    refine fx_hs (W := fWl (fWl W b) 0) (cav := [2]) hvW hI.1 (by rw [w2]; exact ax_As_w22) w3 (by rw [w1]; decide +kernel) hr w4 ?_
    rw [w1]
    exact fx.up (sp_capart rfl hb3.1 hb3.2 ⟨rfl, rfl, rfl⟩) (Nat.le_refl _) (by decide)
  refine wk.mono (fun k v g1 h => ?_)
  obtain ⟨⟨hk, eg, ev⟩, hs1⟩ := h
  subst hk eg ev
  refine fK1 ?_
  have hx := hI.2.1.2.1
  have e4 : g1 149 4 = g1 3 5 := hx.2.1.symm
  have he : ∀ j : Nat, j < 48 → (j : Int) < 8 * g1 3 5 → g1 149 (68 + j) = g1 6 j := fun j j1 j2 => (hx.2.2.2.1 j j1 j2).symm
  have pb := pAp_b (g1 6) (g1 3 5) (fop 6 1 (g1 3 5) - 1).toNat 1 (-1) (by decide) (by decide)
  have hM := f_shl1 hb3.1 hb3.2
  refine fx_la 2 1024 (v := 1186) (by decide +kernel) rfl (by decide +kernel) ?_
  refine fx_c1 347 21 1027 20 [7, 7] (by decide +kernel) (by decide) rfl (by omega) ?_
  have mk : fx (fWl (fWl W b) 0) r2 20 347 0 [1186, 7, 7] [] g1 (fun k v g2 => (k = 1 ∧ fKp g1 g2 ∧ v = fI (pAp (g1 6) (g1 3 5) (fop 6 1 (g1 3 5) - 1).toNat 1 (-1))) ∧ gHs g2) := by
    rw [← m1]
    refine fx_hs (W := fWl (fWl W b) 0) (cav := [1186]) hvM hs1 (by rw [m2]; exact ax_As_m22) m3 (by rw [m1]; decide +kernel) hr m4 ?_
    rw [m1]
    exact fx.up (sp_mapart he e4 hb3.1 hb3.2 ⟨rfl, fKp.thr, rfl⟩) (Nat.le_refl _) (by decide)
  refine mk.mono (fun k v g2 h => ?_)
  obtain ⟨⟨hk, kp, ev⟩, hs2⟩ := h
  subst hk ev
  refine fK1 ?_
  refine fx_ieq 1962 1030 (by decide +kernel) (by unfold fR; omega) (by unfold fR; omega) (fun _ => ?_) (fun t => absurd rfl t)
  refine fx_inc 4 1965 6 (by decide +kernel) rfl (Or.inr (f_n4p (v := 1274) rfl (by decide))) rfl ?_
  dsimp only [List.set]
  exact fx_go 23 (by decide +kernel) (kq g2 _ _ (kp.inv hI hs2) h5 h6)
end L22
