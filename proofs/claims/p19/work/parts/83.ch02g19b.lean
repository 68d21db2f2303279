/-! fx: the law's case of far, walked -/
theorem f_n4_w17 {A B : Int} : ∀ v ∈ [2, fI A, fI B, 1274], v % 8 ≠ 4 := fun v hv => by
  simp only [List.mem_cons, List.not_mem_nil, or_false] at hv
  rcases hv with rfl | rfl | rfl | rfl
  · decide
  · exact fI_n4 _
  · exact fI_n4 _
  · decide
theorem f_n4_m17 {A B : Int} : ∀ v ∈ [1186, fI A, fI B], v % 8 ≠ 4 := fun v hv => by
  simp only [List.mem_cons, List.not_mem_nil, or_false] at hv
  rcases hv with rfl | rfl | rfl
  · decide
  · exact fI_n4 _
  · exact fI_n4 _
theorem ax_As_w17 {A B : Int} : ax_As [(0, 2, 0), (1, 0, 4294967295), (1, 0, 4294967295), (0, 1274, 0)] [2, fI A, fI B, 1274] := ⟨ax_Aq_p (by decide), ax_Aq_i _, ax_Aq_i _, ax_Aq_p (by decide), True.intro⟩
theorem ax_As_m17 {A B : Int} : ax_As [(0, 1186, 0), (1, 0, 4294967295), (1, 0, 4294967295)] [1186, fI A, fI B] := ⟨ax_Aq_p (by decide), ax_Aq_i _, ax_Aq_i _, True.intro⟩
section L17
variable {W : ax_W} {g : Nat → Nat → Int} {Q : Nat → Nat → (Nat → Nat → Int) → Prop}
theorem law_17_g {cW cM : ax_C} {b r2 d : Nat} {s : Nat → Int} {i : Int} {x5 x6 : Nat} (hs : fScr W s) (hvW : ax_Valid W.N W.sy cW) (w1 : cW.1 = 179) (w2 : cW.2.2.1 = [(0, 2, 0), (1, 0, 4294967295), (1, 0, 4294967295), (0, 1274, 0)]) (w3 : cW.2.2.2.1 = []) (w4 : cW.2.1 ≤ 20)
    (hvM : ax_Valid W.N W.sy cM) (m1 : cM.1 = 339) (m2 : cM.2.2.1 = [(0, 1186, 0), (1, 0, 4294967295), (1, 0, 4294967295)]) (m3 : cM.2.2.2.1 = []) (m4 : cM.2.1 ≤ 20) (hd : 21 ≤ d) (hl : 1 + b ≤ W.lim) (hr : 1 ≤ r2) (hi0 : 0 ≤ i) (hi1 : i ≤ 3072) (hiN : i + 6 ≤ W.N) (hI : LInv g)
    (ok : Int → Int → Prop) (val : Int → Int → Int)
    (hw : ∀ A B : Int, fR A → fR B → fx (fWl W 1) 1 20 179 0 [2, fI A, fI B, 1274, 7] [] g (PWi (ok A B) (val A B) g))
    (hm : ∀ A B : Int, fR A → fR B → ∀ g1, fKp g g1 → (∀ j, g1 149 j = g 149 j) → gHs g1 → fx (fWl (fWl W b) 0) r2 20 339 0 [1186, fI A, fI B] [] g1 (PMi (ok A B) (val A B) g1))
    (kq : ∀ g' x5 x6, LInv g' → x5 % 8 ≠ 4 → x6 % 8 ≠ 4 → fx (fWl W b) r2 d 0 23 [5, 2, 1186, 1274, fI (i + 6), x5, x6] [] g' Q) : fx W (r2 + 1) d 0 863 [5, 2, 1186, 1274, fI i, x5, x6] [] g Q := by
  have sr : ∀ k : Int, 0 ≤ k → k < W.N → fR (s k.toNat) := fun k k0 k1 => (hs.2 k.toNat (by omega)).1
  refine fx_la 1 864 (v := 2) (by decide +kernel) rfl (by decide +kernel) ?_
  refine fx_la 0 865 (v := 5) (by decide +kernel) rfl (by decide +kernel) ?_
  refine fx_li 4 867 (by decide +kernel) rfl ?_
  refine fx_ci (1) 868 (by decide +kernel) ?_
  refine fx_add 869 (by decide +kernel) rfl ?_
  refine fx_scr 870 hs (by decide +kernel) rfl (by omega) (by omega) ?_
  refine fx_la 0 871 (v := 5) (by decide +kernel) rfl (by decide +kernel) ?_
  refine fx_li 4 873 (by decide +kernel) rfl ?_
  refine fx_ci (2) 874 (by decide +kernel) ?_
  refine fx_add 875 (by decide +kernel) rfl ?_
  refine fx_scr 876 hs (by decide +kernel) rfl (by omega) (by omega) ?_
  refine fx_la 3 877 (v := 1274) (by decide +kernel) rfl (by decide +kernel) ?_
  have sA := sr (i + 1) (by omega) (by omega)
  have sB := sr (i + 2) (by omega) (by omega)
  obtain ⟨e1, e2⟩ := f_qm_ok (W := W) (L := [5, 2, 1186, 1274, fI i, x5, x6]) (g := g) (S := [1274, fI (s (i + 2).toNat), fI (s (i + 1).toNat), 2]) (rest := []) (mi := 0) (pc := 877) (mj := 179) (n := 4) (op := 22) (a := 2) (av' := [fI (s (i + 1).toNat), fI (s (i + 2).toNat), 1274]) (by decide +kernel) (by decide +kernel) (fun K => rfl) (fun t => absurd t (by decide))
  refine fx_callW (a := 1) (b := b) (r1 := 1) (r2 := r2) hl (by omega) (by omega) e1 e2 (by decide +kernel) (dj := 20) hd (pc' := 880) rfl (Lj := [2, fI (s (i + 1).toNat), fI (s (i + 2).toNat), 1274, 7]) (f_xp f_n4_w17 (show 4 ≤ _ by decide +kernel)) ?_
  generalize eA : s (i + 1).toNat = A at *
  generalize eB : s (i + 2).toNat = B at *
  have wk : fx (fWl W 1) 1 20 179 0 [2, fI A, fI B, 1274, 7] [] g (fun k v g1 => PWi (ok A B) (val A B) g k v g1 ∧ gHs g1) := by
    rw [← w1]
    refine fx_hs (W := fWl W 1) (cav := [2, fI A, fI B, 1274]) hvW hI.1 (by rw [w2]; exact ax_As_w17) w3 (by rw [w1]; exact f_xp f_n4_w17 (show 4 ≤ _ by decide +kernel)) (Nat.le_refl 1) w4 ?_
    rw [w1]
    exact hw A B sA sB
  refine wk.mono (fun k v g1 h => ⟨h.1.1, ?_⟩)
  obtain ⟨⟨-, kp1, mm1, hc⟩, hs1⟩ := h
  have hz : ∃ z : Int, v = fI z ∧ 0 ≤ z ∧ z ≤ 1 := by
    rcases hc with ⟨-, e⟩ | ⟨-, e, -⟩
    · exact ⟨1, e, by decide, by decide⟩
    · exact ⟨0, e, by decide, by decide⟩
  obtain ⟨z, hz, z0, z2⟩ := hz
  subst hz
  have hs : fScr (fWl W b) s := hs
  have hiN : i + 6 ≤ ((fWl W b).N : Int) := hiN
  refine fx_si 5 882 (by decide +kernel) (Or.inr (fI_n4 _)) rfl ?_
  dsimp only [List.set]
  refine fx_la 2 883 (v := 1186) (by decide +kernel) rfl (by decide +kernel) ?_
  refine fx_la 0 884 (v := 5) (by decide +kernel) rfl (by decide +kernel) ?_
  refine fx_li 4 886 (by decide +kernel) rfl ?_
  refine fx_ci (1) 887 (by decide +kernel) ?_
  refine fx_add 888 (by decide +kernel) rfl ?_
  refine fx_scr 889 hs (by decide +kernel) rfl (by omega) (by omega) ?_
  refine fx_la 0 890 (v := 5) (by decide +kernel) rfl (by decide +kernel) ?_
  refine fx_li 4 892 (by decide +kernel) rfl ?_
  refine fx_ci (2) 893 (by decide +kernel) ?_
  refine fx_add 894 (by decide +kernel) rfl ?_
  refine fx_scr 895 hs (by decide +kernel) rfl (by omega) (by omega) ?_
  refine fx_c3 339 21 898 20 [] (by decide +kernel) (by decide) (by decide) (fI_n4 _) (fI_n4 _) rfl (by first | decide | omega) ?_
  rw [eA]
  rw [eB]
  have mk : fx (fWl (fWl W b) 0) r2 20 339 0 [1186, fI A, fI B] [] g1 (fun k w g2 => PMi (ok A B) (val A B) g1 k w g2 ∧ gHs g2) := by
    rw [← m1]
    refine fx_hs (W := fWl (fWl W b) 0) (cav := [1186, fI A, fI B]) hvM hs1 (by rw [m2]; exact ax_As_m17) m3 (by rw [m1]; exact f_xp f_n4_m17 (show 3 ≤ _ by decide +kernel)) hr m4 ?_
    rw [m1]
    exact hm A B sA sB g1 kp1 mm1 hs1
  refine mk.mono (fun k w g2 h => ?_)
  obtain ⟨⟨hk2, zw, hzw, zwR, kp2, ho, hc2⟩, hs2⟩ := h
  subst hk2
  subst hzw
  refine fK1 ?_
  refine fx_si 6 900 (by decide +kernel) (Or.inr (fI_n4 _)) rfl ?_
  dsimp only [List.set]
  have fin : ∀ l5 l6 : Nat, l5 % 8 ≠ 4 → l6 % 8 ≠ 4 → fx (fWl W b) r2 d 0 928 [5, 2, 1186, 1274, fI i, l5, l6] [] g2 Q := fun l5 l6 q5 q6 => by
    refine fx_go 1990 (by decide +kernel) ?_
    refine fx_inc 4 1993 6 (by decide +kernel) rfl (Or.inr (f_n4p (v := 1274) rfl (by decide))) rfl ?_
    dsimp only [List.set]
    exact fx_go 23 (by decide +kernel) (kq g2 l5 l6 ((kp1.tr kp2).inv hI hs2) q5 q6)
  have cz : g2 148 0 = z ∧ (z = 0 → g2 159 0 = ((fJ zw - 4 : Nat) : Int)) := by
    have inj : ∀ y : Int, 0 ≤ y → y ≤ 2 → fI z = fI y → z = y := fun y y0 y2 t => fI_inj (by unfold fR; omega) (by unfold fR; omega) t
    rcases hc with ⟨c0, c1⟩ | ⟨c0, c1, c2⟩
    · have := inj 1 (by decide) (by decide) c1
      rcases hc2 with ⟨-, e⟩ | ⟨t, -⟩
      · exact ⟨by omega, fun t => by omega⟩
      · exact absurd t c0
    · have := inj 0 (by decide) (by decide) c1
      rcases hc2 with ⟨t, -⟩ | ⟨-, e, e2⟩
      · exact absurd c0 t
      · refine ⟨by omega, fun _ => ?_⟩
        rw [ho, c2, e2]
  refine fx_la 2 901 (v := 1186) (by decide +kernel) rfl (by decide +kernel) ?_
  refine fx_c1 263 21 904 0 [] (by decide +kernel) (by decide) rfl (by first | decide | omega) ?_
  refine sp_thrown (fK1 ?_)
  rw [cz.1]
  refine fx_li 5 906 (by decide +kernel) rfl ?_
  refine fx_ieq 911 909 (by decide +kernel) (by unfold fR; omega) (by unfold fR; omega) (fun h906 => ?_) (fun h906 => ?_)
  · refine fx_li 5 913 (by decide +kernel) rfl ?_
    refine fx_zne 928 916 (by decide +kernel) (by unfold fR; omega) (fun h913 => ?_) (fun h913 => ?_)
    · exact fin _ _ (fI_n4 _) (fI_n4 _)
    · have c2 := cz.2 h913
      refine fx_la 3 917 (v := 1274) (by decide +kernel) rfl (by decide +kernel) ?_
      refine fx_ci 0 918 (by decide +kernel) ?_
      refine fx_lal 1274 159 1 919 (by decide +kernel) rfl (by omega) (by omega) ?_
      refine fx_li 6 921 (by decide +kernel) rfl ?_
      refine fx_i2l 922 (by decide +kernel) rfl ?_
      have ej := fJ_ok zw
      rw [show (0 : Int).toNat = 0 from rfl, c2, show ((fJ zw - 4 : Nat) : Int).toNat + 4 = fJ zw by omega]
      refine fx_lcmp0 923 (by decide +kernel) rfl ej.1 ?_
      exact fx_zeq 928 926 (by decide +kernel) (by unfold fR; omega) (fun _ => fin _ _ (fI_n4 _) (fI_n4 _)) (fun t => absurd rfl t)
  · exact absurd rfl h906
end L17
section L17T
variable {W : ax_W} {g : Nat → Nat → Int} {Q : Nat → Nat → (Nat → Nat → Int) → Prop}
theorem pS_c {rd rd' : Nat → Int} {a : Nat} (h : ∀ q, q < 8 → rd q = rd' q) : ∀ n p : Nat, pS rd a n p → pS rd' a n p
  | 0, _, t => t
  | n + 1, p, t => by
    rcases t with t | ⟨q, q1, q2, q3⟩
    · exact Or.inl (pS_c h n p t)
    · exact Or.inr ⟨q, q1, pS_c h n q q2, by rw [← h q q1]; exact q3⟩
theorem pD_c {rd rd' : Nat → Int} {a b : Nat} (h : ∀ q, q < 8 → rd q = rd' q) : ∀ l n : Nat, pD rd a b l n = pD rd' a b l n
  | 0, _ => rfl
  | l + 1, n => by
    classical
    have e1 : pD rd a b (l + 1) n = if pS rd a n b then (n : Int) else pD rd a b l (n + 1) := rfl
    have e2 : pD rd' a b (l + 1) n = if pS rd' a n b then (n : Int) else pD rd' a b l (n + 1) := rfl
    rw [e1, e2, pD_c h l (n + 1)]
    by_cases q : pS rd a n b
    · rw [if_pos q, if_pos (pS_c h n b q)]
    · rw [if_neg q, if_neg (fun t => q (pS_c (fun q hq => (h q hq).symm) n b t))]
theorem fKp.far {g g' : Nat → Nat → Int} {z : Int} (h : fFA (fu g 148 0 z) g') : fKp g g' := fun c j k => by
  rw [h c j (by unfold gx_K at k; omega)]
  exact fKp.thr (g := g) (z := z) c j k
theorem law_17 {cW cM : ax_C} {b r2 d : Nat} {s : Nat → Int} {i : Int} {x5 x6 : Nat} (hs : fScr W s) (hvW : ax_Valid W.N W.sy cW) (w1 : cW.1 = 179) (w2 : cW.2.2.1 = [(0, 2, 0), (1, 0, 4294967295), (1, 0, 4294967295), (0, 1274, 0)]) (w3 : cW.2.2.2.1 = []) (w4 : cW.2.1 ≤ 20)
    (hvM : ax_Valid W.N W.sy cM) (m1 : cM.1 = 339) (m2 : cM.2.2.1 = [(0, 1186, 0), (1, 0, 4294967295), (1, 0, 4294967295)]) (m3 : cM.2.2.2.1 = []) (m4 : cM.2.1 ≤ 20) (hd : 21 ≤ d) (hl : 1 + b ≤ W.lim) (hr : 1 ≤ r2) (hi0 : 0 ≤ i) (hi1 : i ≤ 3072) (hiN : i + 6 ≤ W.N) (hI : LInv g)
    (kq : ∀ g' x5 x6, LInv g' → x5 % 8 ≠ 4 → x6 % 8 ≠ 4 → fx (fWl W b) r2 d 0 23 [5, 2, 1186, 1274, fI (i + 6), x5, x6] [] g' Q) : fx W (r2 + 1) d 0 863 [5, 2, 1186, 1274, fI i, x5, x6] [] g Q := by
  refine law_17_g hs hvW w1 w2 w3 w4 hvM m1 m2 m3 m4 hd hl hr hi0 hi1 hiN hI (fun A B => (0 ≤ A ∧ A ≤ 7) ∧ 0 ≤ B ∧ B ≤ 7) (fun A B => pD (g 7) A.toNat B.toNat 8 0) (fun A B sA sB => ?_) (fun A B sA sB g1 kp mm hs1 => ?_) kq
  · exact fx.up (sp_wfar (W := fWl W 1) (Nat.le_refl 1) sA sB (fun t => ⟨rfl, fKp.rf, fun _ => rfl, Or.inl ⟨t, rfl⟩⟩) (fun t => ⟨rfl, fKp.out, fun _ => fu_nc (by decide), Or.inr ⟨t, rfl, fu_eq _ _ _ _⟩⟩)) (Nat.le_refl 1) (by decide)
  · have hx := hI.2.1.2.1
    have hD : pD (fun q => g1 149 (116 + q)) A.toNat B.toNat 8 0 = pD (g 7) A.toNat B.toNat 8 0 := pD_c (fun q hq => by
      show g1 149 (116 + q) = g 7 q
      rw [mm]
      exact (hx.2.2.2.2.1 q hq).symm) 8 0
    have pb := pD_b (g 7) A.toNat B.toNat 8 0
    exact fx.up (sp_mfar sA sB (fun t => ⟨rfl, 0, rfl, by unfold fR; omega, fKp.thr, fu_nc (by decide), Or.inl ⟨t, fu_eq _ _ _ _⟩⟩) (fun t g' hf => ⟨rfl, _, rfl, by rw [hD]; unfold fR; omega, fKp.far hf, by rw [hf _ _ (by decide), fu_nc (by decide)], Or.inr ⟨t, by rw [hf 148 0 (by decide), fu_eq], hD⟩⟩)) (Nat.le_refl _) (by decide)
end L17T
