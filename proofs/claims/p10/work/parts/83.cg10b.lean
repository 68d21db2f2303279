/-! fx: the law's case of road, walked -/
theorem ax_As_xiio {p q : Nat} {a b : Int} (hp : 2 ≤ p % 8 ∧ p % 8 ≤ 6 ∧ p < 1280 ∧ (p % 8 = 2 → p / 8 < 160)) (hq : 2 ≤ q % 8 ∧ q % 8 ≤ 6 ∧ q < 1280 ∧ (q % 8 = 2 → q / 8 < 160)) : ax_As [(0, p, 0), (1, 0, 4294967295), (1, 0, 4294967295), (0, q, 0)] [p, fI a, fI b, q] :=
  ⟨Or.inl ⟨rfl, [], ax_V.ref ⟨hp.1, hp.2.1, (by show p < _; omega), hp.2.2.2⟩⟩, ax_Aq_i a, ax_Aq_i b, Or.inl ⟨rfl, [], ax_V.ref ⟨hq.1, hq.2.1, (by show q < _; omega), hq.2.2.2⟩⟩, True.intro⟩
theorem ax_As_mii {p : Nat} {a b : Int} (hp : 2 ≤ p % 8 ∧ p % 8 ≤ 6 ∧ p < 1280 ∧ (p % 8 = 2 → p / 8 < 160)) : ax_As [(0, p, 0), (1, 0, 4294967295), (1, 0, 4294967295)] [p, fI a, fI b] :=
  ⟨Or.inl ⟨rfl, [], ax_V.ref ⟨hp.1, hp.2.1, (by show p < _; omega), hp.2.2.2⟩⟩, ax_Aq_i a, ax_Aq_i b, True.intro⟩
theorem f_n4_xiio {p q : Nat} {a b : Int} (hp : p % 8 ≠ 4) (hq : q % 8 ≠ 4) : ∀ v ∈ [p, fI a, fI b, q], v % 8 ≠ 4 := fun v hv => by
  simp only [List.mem_cons, List.not_mem_nil, or_false] at hv
  rcases hv with rfl | rfl | rfl | rfl
  · exact hp
  · exact fI_n4 _
  · exact fI_n4 _
  · exact hq
section G10L
variable {W : ax_W} {g : Nat → Nat → Int} {Q : Nat → Nat → (Nat → Nat → Int) → Prop}
/-- what both have said -/
def PR (a b : Int) (v w : Int) (k z : Int) (g2 : Nat → Nat → Int) : Prop := g2 148 0 = k ∧ (k = 0 → w = v ∧ (v = 0 ∨ v = 1) ∧ g2 159 0 = ((fJ v - 4 : Nat) : Int))
theorem law_8 {cW cM : ax_C} {b r2 d : Nat} {s : Nat → Int} {i : Int} {x5 x6 : Nat} (hs : fScr W s) (hvW : ax_Valid W.N W.sy cW) (w1 : cW.1 = 146) (w2 : cW.2.2.1 = [(0, 2, 0), (1, 0, 4294967295), (1, 0, 4294967295), (0, 1274, 0)]) (w3 : cW.2.2.2.1 = []) (w4 : cW.2.1 ≤ 20)
    (hvM : ax_Valid W.N W.sy cM) (m1 : cM.1 = 318) (m2 : cM.2.2.1 = [(0, 1186, 0), (1, 0, 4294967295), (1, 0, 4294967295)]) (m3 : cM.2.2.2.1 = []) (m4 : cM.2.1 ≤ 20) (hd : 21 ≤ d) (hl : 1 + b ≤ W.lim) (hr : 1 ≤ r2) (hi0 : 0 ≤ i) (hi1 : i ≤ 3072) (hiN : i + 6 ≤ W.N) (hI : LInv g)
    (kq : ∀ g' x5 x6, LInv g' → x5 % 8 ≠ 4 → x6 % 8 ≠ 4 → fx (fWl W b) r2 d 0 23 [5, 2, 1186, 1274, fI (i + 6), x5, x6] [] g' Q) : fx W (r2 + 1) d 0 575 [5, 2, 1186, 1274, fI i, x5, x6] [] g Q := by
  have sr : ∀ k : Int, 0 ≤ k → k < W.N → fR (s k.toNat) := fun k k0 k1 => (hs.2 k.toNat (by omega)).1
  refine fx_la 1 576 (v := 2) (by decide +kernel) rfl (by decide +kernel) ?_
  refine fx_la 0 577 (v := 5) (by decide +kernel) rfl (by decide +kernel) ?_
  refine fx_li 4 579 (by decide +kernel) rfl ?_
  refine fx_ci (1) 580 (by decide +kernel) ?_
  refine fx_add 581 (by decide +kernel) rfl ?_
  refine fx_scr 582 hs (by decide +kernel) rfl (by omega) (by omega) ?_
  refine fx_la 0 583 (v := 5) (by decide +kernel) rfl (by decide +kernel) ?_
  refine fx_li 4 585 (by decide +kernel) rfl ?_
  refine fx_ci (2) 586 (by decide +kernel) ?_
  refine fx_add 587 (by decide +kernel) rfl ?_
  refine fx_scr 588 hs (by decide +kernel) rfl (by omega) (by omega) ?_
  refine fx_la 3 589 (v := 1274) (by decide +kernel) rfl (by decide +kernel) ?_
  have sA := sr (i + 1) (by omega) (by omega)
  have sB := sr (i + 2) (by omega) (by omega)
  obtain ⟨e1, e2⟩ := f_qm_ok (W := W) (L := [5, 2, 1186, 1274, fI i, x5, x6]) (g := g) (S := [1274, fI (s (i + 2).toNat), fI (s (i + 1).toNat), 2]) (rest := []) (mi := 0) (pc := 589) (mj := 146) (n := 4) (op := 22) (a := 2) (av' := [fI (s (i + 1).toNat), fI (s (i + 2).toNat), 1274]) (by decide +kernel) (by decide +kernel) (fun K => rfl) (fun t => absurd t (by decide))
  refine fx_callW (a := 1) (b := b) (r1 := 1) (r2 := r2) hl (by omega) (by omega) e1 e2 (by decide +kernel) (dj := 20) hd (pc' := 592) rfl (Lj := [2, fI (s (i + 1).toNat), fI (s (i + 2).toNat), 1274, 7]) (f_xp (f_n4_xiio (by decide) (by decide)) (show 4 ≤ _ by decide +kernel)) ?_
  generalize eA : s (i + 1).toNat = A at *
  generalize eB : s (i + 2).toNat = B at *
  have wk : fx (fWl W 1) 1 20 146 0 [2, fI A, fI B, 1274, 7] [] g (fun k v g1 => (k = 1 ∧ fKp g g1 ∧ (∀ j, g1 149 j = g 149 j) ∧ ((¬ (0 ≤ A ∧ A ≤ 7) ∨ ¬ (0 ≤ B ∧ B ≤ 7)) ∧ v = fI 1 ∨ (0 ≤ A ∧ A ≤ 7 ∧ 0 ≤ B ∧ B ≤ 7 ∧ A = B) ∧ v = fI 2 ∨ (0 ≤ A ∧ A ≤ 7 ∧ 0 ≤ B ∧ B ≤ 7 ∧ A ≠ B) ∧ v = fI 0 ∧ g1 159 0 = ((fJ (fbt (g 7 A.toNat) B) - 4 : Nat) : Int))) ∧ gHs g1) := by
    rw [← w1]
    refine fx_hs (W := fWl W 1) (cav := [2, fI A, fI B, 1274]) hvW hI.1 (by rw [w2]; exact ax_As_xiio (by decide) (by decide)) w3 (by rw [w1]; exact f_xp (f_n4_xiio (by decide) (by decide)) (show 4 ≤ _ by decide +kernel)) (Nat.le_refl 1) w4 ?_
    rw [w1]
    exact fx.up (sp_wroad (W := fWl W 1) (Nat.le_refl 1) sA sB (fun t => ⟨rfl, fKp.rf, fun _ => rfl, Or.inl ⟨t, rfl⟩⟩) (fun t1 t2 t3 => ⟨rfl, fKp.rf, fun _ => rfl, Or.inr (Or.inl ⟨⟨t1.1, t1.2, t2.1, t2.2, t3⟩, rfl⟩)⟩) (fun t1 t2 t3 => ⟨rfl, fKp.out, fun _ => fu_nc (by decide), Or.inr (Or.inr ⟨⟨t1.1, t1.2, t2.1, t2.2, t3⟩, rfl, fu_eq _ _ _ _⟩)⟩)) (Nat.le_refl 1) (by decide)
  refine wk.mono (fun k v g1 h => ⟨h.1.1, ?_⟩)
  obtain ⟨⟨-, kp1, mm1, hc⟩, hs1⟩ := h
  have hz : ∃ z : Int, v = fI z ∧ 0 ≤ z ∧ z ≤ 2 := by
    rcases hc with ⟨-, e⟩ | ⟨-, e⟩ | ⟨-, e, -⟩
    · exact ⟨1, e, by decide, by decide⟩
    · exact ⟨2, e, by decide, by decide⟩
    · exact ⟨0, e, by decide, by decide⟩
  obtain ⟨z, hz, z0, z2⟩ := hz
  subst hz
  have hs : fScr (fWl W b) s := hs
  have hiN : i + 6 ≤ ((fWl W b).N : Int) := hiN
  refine fx_si 5 594 (by decide +kernel) (Or.inr (fI_n4 _)) rfl ?_
  dsimp only [List.set]
  refine fx_la 2 595 (v := 1186) (by decide +kernel) rfl (by decide +kernel) ?_
  refine fx_la 0 596 (v := 5) (by decide +kernel) rfl (by decide +kernel) ?_
  refine fx_li 4 598 (by decide +kernel) rfl ?_
  refine fx_ci (1) 599 (by decide +kernel) ?_
  refine fx_add 600 (by decide +kernel) rfl ?_
  refine fx_scr 601 hs (by decide +kernel) rfl (by omega) (by omega) ?_
  refine fx_la 0 602 (v := 5) (by decide +kernel) rfl (by decide +kernel) ?_
  refine fx_li 4 604 (by decide +kernel) rfl ?_
  refine fx_ci (2) 605 (by decide +kernel) ?_
  refine fx_add 606 (by decide +kernel) rfl ?_
  refine fx_scr 607 hs (by decide +kernel) rfl (by omega) (by omega) ?_
  refine fx_c3 318 21 610 20 [] (by decide +kernel) (by decide) (by decide) (fI_n4 _) (fI_n4 _) rfl (by first | decide | omega) ?_
  rw [eA, eB]
  have mk : fx (fWl (fWl W b) 0) r2 20 318 0 [1186, fI A, fI B] [] g1 (fun k w g2 => (k = 1 ∧ ∃ zw, w = fI zw ∧ (zw = 0 ∨ zw = 1) ∧ fKp g1 g2 ∧ g2 159 0 = g1 159 0 ∧ ((¬ (0 ≤ A ∧ A ≤ 7) ∨ ¬ (0 ≤ B ∧ B ≤ 7)) ∧ g2 148 0 = 1 ∨ (0 ≤ A ∧ A ≤ 7 ∧ 0 ≤ B ∧ B ≤ 7 ∧ A = B) ∧ g2 148 0 = 2 ∨ (0 ≤ A ∧ A ≤ 7 ∧ 0 ≤ B ∧ B ≤ 7 ∧ A ≠ B) ∧ g2 148 0 = 0 ∧ zw = fbt (g1 149 (116 + A).toNat) B)) ∧ gHs g2) := by
    rw [← m1]
    refine fx_hs (W := fWl (fWl W b) 0) (cav := [1186, fI A, fI B]) hvM hs1 (by rw [m2]; exact ax_As_mii (by decide)) m3 (by rw [m1]; exact f_xp (f_n4_3 (by decide)) (show 3 ≤ _ by decide +kernel)) hr m4 ?_
    rw [m1]
    exact fx.up (sp_mroad sA sB (fun t => ⟨rfl, 0, rfl, Or.inl rfl, fKp.thr, fu_nc (by decide), Or.inl ⟨t, fu_eq _ _ _ _⟩⟩) (fun t1 t2 t3 => ⟨rfl, 0, rfl, Or.inl rfl, fKp.thr, fu_nc (by decide), Or.inr (Or.inl ⟨⟨t1.1, t1.2, t2.1, t2.2, t3⟩, fu_eq _ _ _ _⟩)⟩) (fun t1 t2 t3 => ⟨rfl, _, rfl, fbt_01 _ _, fKp.thr, fu_nc (by decide), Or.inr (Or.inr ⟨⟨t1.1, t1.2, t2.1, t2.2, t3⟩, fu_eq _ _ _ _, rfl⟩)⟩)) (Nat.le_refl _) (by decide)
  refine mk.mono (fun k w g2 h => ?_)
  obtain ⟨⟨hk2, zw, hzw, zw01, kp2, ho, hc2⟩, hs2⟩ := h
  subst hk2
  subst hzw
  refine fK1 ?_
  refine fx_si 6 612 (by decide +kernel) (Or.inr (fI_n4 _)) rfl ?_
  dsimp only [List.set]
  have fin : ∀ l5 l6 : Nat, l5 % 8 ≠ 4 → l6 % 8 ≠ 4 → fx (fWl W b) r2 d 0 647 [5, 2, 1186, 1274, fI i, l5, l6] [] g2 Q := fun l5 l6 q5 q6 => by
    refine fx_go 1997 (by decide +kernel) ?_
    refine fx_inc 4 2000 6 (by decide +kernel) rfl (Or.inr (f_n4p (v := 1274) rfl (by decide))) rfl ?_
    dsimp only [List.set]
    exact fx_go 23 (by decide +kernel) (kq g2 l5 l6 ((kp1.tr kp2).inv hI hs2) q5 q6)
  have cz : g2 148 0 = z ∧ (z = 0 → g2 159 0 = ((fJ zw - 4 : Nat) : Int)) := by
    have inj : ∀ y : Int, 0 ≤ y → y ≤ 2 → fI z = fI y → z = y := fun y y0 y2 t => fI_inj (by unfold fR; omega) (by unfold fR; omega) t
    rcases hc with ⟨c0, c1⟩ | ⟨c0, c1⟩ | ⟨c0, c1, c2⟩
    · have := inj 1 (by decide) (by decide) c1
      rcases hc2 with ⟨-, e⟩ | ⟨t, -⟩ | ⟨t, -⟩
      · exact ⟨by omega, fun t => by omega⟩
      · omega
      · omega
    · have := inj 2 (by decide) (by decide) c1
      rcases hc2 with ⟨t, -⟩ | ⟨-, e⟩ | ⟨t, -⟩
      · omega
      · exact ⟨by omega, fun t => by omega⟩
      · omega
    · have := inj 0 (by decide) (by decide) c1
      rcases hc2 with ⟨t, -⟩ | ⟨t, -⟩ | ⟨-, e, e2⟩
      · omega
      · omega
      · refine ⟨by omega, fun _ => ?_⟩
        rw [ho, c2, e2, mm1, hI.2.1.2.1.2.2.2.2.1 A.toNat (by omega), show (116 + A).toNat = 116 + A.toNat by omega]
  refine fx_la 2 613 (v := 1186) (by decide +kernel) rfl (by decide +kernel) ?_
  refine fx_c1 263 21 616 0 [] (by decide +kernel) (by decide) rfl (by first | decide | omega) ?_
  refine sp_thrown (fK1 ?_)
  rw [cz.1]
  refine fx_li 5 618 (by decide +kernel) rfl ?_
  refine fx_ieq 623 621 (by decide +kernel) (by unfold fR; omega) (by unfold fR; omega) (fun h618 => ?_) (fun h618 => ?_)
  · refine fx_li 5 625 (by decide +kernel) rfl ?_
    refine fx_zne 647 628 (by decide +kernel) (by unfold fR; omega) (fun h625 => ?_) (fun h625 => ?_)
    · exact fin _ _ (fI_n4 _) (fI_n4 _)
    · have c2 := cz.2 h625
      refine fx_la 3 629 (v := 1274) (by decide +kernel) rfl (by decide +kernel) ?_
      refine fx_ci 0 630 (by decide +kernel) ?_
      refine fx_lal 1274 159 1 631 (by decide +kernel) rfl (by omega) (by omega) ?_
      refine fx_li 6 633 (by decide +kernel) rfl ?_
      have ej := fJ_ok zw
      rw [show (0 : Int).toNat = 0 from rfl, c2, show ((fJ zw - 4 : Nat) : Int).toNat + 4 = fJ zw by omega]
      refine fx_zeq 640 636 (by decide +kernel) (by unfold fR; omega) (fun hz => ?_) (fun hz => ?_)
      · subst hz
        refine fx_cv 4 641 (by decide +kernel) ?_
        refine fx_lcmp0 (v := 4) 642 (by decide +kernel) rfl (by decide) ?_
        exact fx_zeq 647 645 (by decide +kernel) (by unfold fR; omega) (fun _ => fin _ _ (fI_n4 _) (fI_n4 _)) (fun t => absurd rfl t)
      · have hz1 : zw = 1 := by omega
        subst hz1
        refine fx_cv 12 637 (by decide +kernel) ?_
        refine fx_go 641 (by decide +kernel) ?_
        refine fx_lcmp0 (v := 12) 642 (by decide +kernel) rfl (by decide) ?_
        exact fx_zeq 647 645 (by decide +kernel) (by unfold fR; omega) (fun _ => fin _ _ (fI_n4 _) (fI_n4 _)) (fun t => absurd rfl t)
  · exact absurd rfl h618
end G10L
