/-! fx: the law's case of house, walked -/
theorem ax_As_2 {p q : Nat} {cav : List Nat} (hp : 2 ≤ p % 8 ∧ p % 8 ≤ 6 ∧ p < 1280 ∧ (p % 8 = 2 → p / 8 < 160)) (hq : 2 ≤ q % 8 ∧ q % 8 ≤ 6 ∧ q < 1280 ∧ (q % 8 = 2 → q / 8 < 160)) : ax_As [(0, p, 0), (0, q, 0)] [p, q] :=
  ⟨Or.inl ⟨rfl, [], ax_V.ref ⟨hp.1, hp.2.1, (by show p < _; omega), hp.2.2.2⟩⟩, Or.inl ⟨rfl, [], ax_V.ref ⟨hq.1, hq.2.1, (by show q < _; omega), hq.2.2.2⟩⟩, True.intro⟩
theorem ax_As_1 {p : Nat} (hp : 2 ≤ p % 8 ∧ p % 8 ≤ 6 ∧ p < 1280 ∧ (p % 8 = 2 → p / 8 < 160)) : ax_As [(0, p, 0)] [p] := ⟨Or.inl ⟨rfl, [], ax_V.ref ⟨hp.1, hp.2.1, (by show p < _; omega), hp.2.2.2⟩⟩, True.intro⟩
section FYN
variable {W : ax_W} {g : Nat → Nat → Int} {Q : Nat → Nat → (Nat → Nat → Int) → Prop}
theorem law_2 {cW cM : ax_C} {b r2 d : Nat} {i : Int} {x5 x6 : Nat} (hvW : ax_Valid W.N W.sy cW) (w1 : cW.1 = 69) (w2 : cW.2.2.1 = [(0, 2, 0), (0, 1274, 0)]) (w3 : cW.2.2.2.1 = []) (w4 : cW.2.1 ≤ 20)
    (hvM : ax_Valid W.N W.sy cM) (m1 : cM.1 = 267) (m2 : cM.2.2.1 = [(0, 1186, 0)]) (m3 : cM.2.2.2.1 = []) (m4 : cM.2.1 ≤ 20) (hd : 21 ≤ d) (hl : 1 + b ≤ W.lim) (hr : 1 ≤ r2) (hi0 : 0 ≤ i) (hi1 : i ≤ 3072) (hI : LInv g)
    (kq : ∀ g' x5 x6, LInv g' → x5 % 8 ≠ 4 → x6 % 8 ≠ 4 → fx (fWl W b) r2 d 0 23 [5, 2, 1186, 1274, fI (i + 6), x5, x6] [] g' Q) : fx W (r2 + 1) d 0 398 [5, 2, 1186, 1274, fI i, x5, x6] [] g Q := by
  refine fx_LB hI.1 (fun hb => ?_)
  refine fx_la 1 399 (v := 2) (by decide +kernel) rfl (by decide +kernel) ?_
  refine fx_la 3 400 (v := 1274) (by decide +kernel) rfl (by decide +kernel) ?_
  obtain ⟨e1, e2⟩ := f_qm_ok (W := W) (L := [5, 2, 1186, 1274, fI i, x5, x6]) (g := g) (S := [1274, 2]) (rest := []) (mi := 0) (pc := 400) (mj := 69) (n := 2) (op := 22) (a := 2) (av' := [1274]) (by decide +kernel) (by decide +kernel) (fun K => rfl) (fun t => absurd t (by decide))
  refine fx_callW (a := 1) (b := b) (r1 := 1) (r2 := r2) hl (by omega) (by omega) e1 e2 (by decide +kernel) (dj := 20) hd (pc' := 403) rfl (Lj := [2, 1274, 7]) (by decide +kernel) ?_
  have wk : fx (fWl W 1) 1 20 69 0 [2, 1274, 7] [] g (fun k v g' => PW (fun k => g 2 k.toNat) (g 1 1) g k v g' ∧ gHs g') := by
    rw [← w1]
    refine fx_hs (W := fWl W 1) (cav := [2, 1274]) hvW hI.1 (by rw [w2]; exact ax_As_2 (cav := []) (by decide) (by decide)) w3 (by rw [w1]; decide +kernel) (Nat.le_refl 1) w4 ?_
    rw [w1]
    exact fx.up (sp_whouseP (W := fWl W 1) (Nat.le_refl 1) hI hb) (Nat.le_refl 1) (by decide)
  refine wk.mono (fun k v g1 h => ⟨h.1.1, ?_⟩)
  obtain ⟨hw, hs1⟩ := h
  obtain ⟨hk, hw⟩ := hw
  have hw : PW (fun k => g 2 k.toNat) (g 1 1) g 1 v g1 := ⟨rfl, hw⟩
  have hz : ∃ z : Int, v = fI z ∧ 0 ≤ z ∧ z ≤ 2 := by
    rcases hw.2 with ⟨q, -, e, -⟩ | ⟨us, -, -, e, -⟩ | ⟨us, A, g0, -, -, e, -⟩
    · exact ⟨1, e, by decide, by decide⟩
    · exact ⟨2, e, by decide, by decide⟩
    · exact ⟨0, e, by decide, by decide⟩
  obtain ⟨z, hz, z0, z2⟩ := hz
  subst hz
  refine fx_si 5 405 (by decide +kernel) (Or.inr (fI_n4 _)) rfl ?_
  dsimp only [List.set]
  refine fx_la 2 406 (v := 1186) (by decide +kernel) rfl (by decide +kernel) ?_
  refine fx_c1 267 21 409 20 [7] (by decide +kernel) (by decide) rfl (by first | decide | omega) ?_
  have mk : fx (fWl (fWl W b) 0) r2 20 267 0 [1186, 7] [] g1 (fun k w g2 => (k = 1 ∧ PB g (fI z) w g2) ∧ gHs g2) := by
    rw [← m1]
    refine fx_hs (W := fWl (fWl W b) 0) (cav := [1186]) hvM hs1 (by rw [m2]; exact ax_As_1 (by decide)) m3 (by rw [m1]; decide +kernel) hr m4 ?_
    rw [m1]
    exact fx.up (house_both hI hb hw) (Nat.le_refl _) (by decide)
  refine mk.mono (fun k w g2 h => ?_)
  obtain ⟨⟨hk2, ⟨zw, hzw, hzr⟩, hg2, hl2, hi2, hc⟩, hs2⟩ := h
  subst hk2
  subst hzw
  refine fK1 ?_
  refine fx_si 6 411 (by decide +kernel) (Or.inr (fI_n4 _)) rfl ?_
  dsimp only [List.set]
  refine fx_go 1990 (by decide +kernel) ?_
  refine fx_inc 4 1993 6 (by decide +kernel) rfl (Or.inr (f_n4p (v := 1274) rfl (by decide))) rfl ?_
  dsimp only [List.set]
  exact fx_go 23 (by decide +kernel) (kq g2 _ _ ⟨hs2, hg2, hl2, hi2⟩ (fI_n4 _) (fI_n4 _))
end FYN
