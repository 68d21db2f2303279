/-! fx: the law's text, on both sides -/
section G5OP
variable {T : Int → Int} {E : Int}
theorem pIf_sh (c : List Int) (f k a : Int) : pIf T E f c k a = bS (pIf T E f [] k a) (fun x => Sum.inr (x.1, c ++ x.2.1, x.2.2)) := by
  unfold pIf
  by_cases w : pWd T E [105, 102] f
  · rw [cif_t w, cif_t w]
    have h := pCd_sh (T := T) (E := E) c 1300 2 0 (pSk T E (pWe T E f)) [] false
    rw [List.append_nil] at h
    rw [h]
    cases pCd T E 1300 2 0 (pSk T E (pWe T E f)) [] false with
    | inl q => rfl
    | inr x => rfl
  · rw [cif_f w, cif_f w, bS_r, List.append_nil]
theorem pLL_sh (c : List Int) (f : Int) : pLL T E f c = bS (pLL T E f []) (fun x => Sum.inr (x.1, c ++ x.2.1, x.2.2)) := by
  unfold pLL
  by_cases k : pKind T E f = -1
  · rw [cif_t k, cif_t k]; rfl
  · rw [cif_f k, cif_f k]
    by_cases k2 : pKind T E f = 2
    · rw [cif_t k2, cif_t k2]; exact pIf_sh c _ _ _
    · rw [cif_f k2, cif_f k2]
      by_cases n : pN T E 0 30 (pSk T E (pWe T E f))
      · rw [cif_t n, cif_t n]; exact pIf_sh c _ _ _
      · rw [cif_f n, cif_f n]; rfl
theorem pLs_seg : ∀ (n : Nat) (f : Int) (c : List Int) (ls : List (List Int)), (∀ q, pSeg T E n f = Sum.inl q → pLs T E n f c ls = Sum.inl q) ∧ (∀ segs, pSeg T E n f = Sum.inr segs → ∃ c1 l1, pLs T E n f c ls = Sum.inr (c1, l1) ∧ l1.length = ls.length + segs.length)
  | 0, f, c, ls => ⟨fun q h => by
      have h : (Sum.inl f : Int ⊕ List (List Int × Int × Int)) = Sum.inl q := h
      cases h
      rfl, fun segs h => by
      have h : (Sum.inl f : Int ⊕ List (List Int × Int × Int)) = Sum.inr segs := h
      cases h⟩
  | n + 1, f, c, ls => by
    cases h : pLL T E f [] with
    | inl q0 =>
      have e1 : pLL T E f c = Sum.inl q0 := by rw [pLL_sh, h, bS_l]
      refine ⟨fun q hq => ?_, fun segs hs => ?_⟩
      · have hq : bS (pLL T E f []) _ = Sum.inl q := hq
        rw [h, bS_l] at hq
        cases hq
        show bS (pLL T E f c) _ = _
        rw [e1, bS_l]
      · have hs : bS (pLL T E f []) _ = Sum.inr segs := hs
        rw [h, bS_l] at hs
        cases hs
    | inr a =>
      obtain ⟨f1, d, kd, am⟩ := a
      have e1 : pLL T E f c = Sum.inr (f1, c ++ d, kd, am) := by rw [pLL_sh, h, bS_r]
      have eS : pSeg T E (n + 1) f = if f1 = E then Sum.inr [(d, kd, am)] else if T f1 = 59 then bS (pSeg T E n (pSk T E (f1 + 1))) (fun r => Sum.inr ((d, kd, am) :: r)) else Sum.inl f1 := by
        show bS (pLL T E f []) _ = _
        rw [h, bS_r]
      have eL : pLs T E (n + 1) f c ls = if f1 = E then Sum.inr (c ++ d, ls ++ [[kd, am, (c.length : Int), ((c ++ d).length : Int)]]) else if T f1 = 59 then pLs T E n (pSk T E (f1 + 1)) (c ++ d) (ls ++ [[kd, am, (c.length : Int), ((c ++ d).length : Int)]]) else Sum.inl f1 := by
        show bS (pLL T E f c) _ = _
        rw [e1, bS_r]
      rw [eS, eL]
      by_cases x1 : f1 = E
      · rw [if_pos x1, if_pos x1]
        refine ⟨(fun q hq => nomatch hq), fun segs hs => ?_⟩
        cases hs
        exact ⟨_, _, rfl, by rw [List.length_append]; rfl⟩
      · rw [if_neg x1, if_neg x1]
        by_cases x2 : T f1 = 59
        · rw [if_pos x2, if_pos x2]
          obtain ⟨i1, i2⟩ := pLs_seg n (pSk T E (f1 + 1)) (c ++ d) (ls ++ [[kd, am, (c.length : Int), ((c ++ d).length : Int)]])
          refine ⟨fun q hq => ?_, fun segs hs => ?_⟩
          · cases h2 : pSeg T E n (pSk T E (f1 + 1)) with
            | inl q2 => rw [h2, bS_l] at hq; cases hq; exact i1 _ h2
            | inr r2 => rw [h2, bS_r] at hq; cases hq
          · obtain ⟨r2, h2, h3⟩ := bS_inr hs
            cases h3
            obtain ⟨c1, l1, h4, h5⟩ := i2 r2 h2
            refine ⟨c1, l1, h4, ?_⟩
            rw [h5, List.length_append, List.length_cons]
            show ls.length + 1 + r2.length = ls.length + (r2.length + 1)
            omega
        · rw [if_neg x2, if_neg x2]
          exact ⟨fun q hq => by cases hq; rfl, fun segs hs => by cases hs⟩
theorem pLaw_L {q : Int} (h : pLawR T E = Sum.inl q) : pLaw T E = Sum.inl q := by
  unfold pLawR at h
  unfold pLaw
  by_cases e : pSk T E 0 = E
  · rw [if_pos e] at h; cases h
  · rw [if_neg e] at h ⊢
    exact (pLs_seg 12 _ [] []).1 q h
theorem pLaw_R {segs : List (List Int × Int × Int)} (h : pLawR T E = Sum.inr segs) : ∃ c1 l1, pLaw T E = Sum.inr (c1, l1) ∧ l1.length = segs.length := by
  unfold pLawR at h
  unfold pLaw
  by_cases e : pSk T E 0 = E
  · rw [if_pos e] at h ⊢
    cases h
    exact ⟨[], [], rfl, rfl⟩
  · rw [if_neg e] at h ⊢
    obtain ⟨c1, l1, h1, h2⟩ := (pLs_seg 12 _ [] []).2 segs h
    exact ⟨c1, l1, h1, by rw [h2]; show 0 + segs.length = _; omega⟩
end G5OP
/-- what the law reads -/
abbrev tpT (g : Nat → Nat → Int) : Int → Int := fun k => g 2 k.toNat
def fLC (g g1 : Nat → Nat → Int) : Prop := ∀ c j, ¬ (8 ≤ c ∧ c ≤ 13) → ¬ (34 ≤ c ∧ c ≤ 40) → ¬ (c = 1 ∧ j = 1) → ¬ (c = 0 ∧ (j = 18 ∨ j = 16)) → c ≠ 159 → g1 c j = g c j
def PWl (g : Nat → Nat → Int) (k v : Nat) (g1 : Nat → Nat → Int) : Prop := k = 1 ∧ fLC g g1 ∧ g1 1 1 = 0 ∧ ((∃ q, pLaw (tpT g) (g 1 1) = Sum.inl q ∧ v = fI 1) ∨ (∃ c1 l1, pLaw (tpT g) (g 1 1) = Sum.inr (c1, l1) ∧ v = fI 0 ∧ g1 159 0 = ((fJ (l1.length : Int) - 4 : Nat) : Int)))
def PMl (g g1 : Nat → Nat → Int) (k w : Nat) (g2 : Nat → Nat → Int) : Prop := k = 1 ∧ ∃ zw, w = fI zw ∧ fR zw ∧ ((∃ q, pLawR (tpT g) (g 1 1) = Sum.inl q ∧ g2 148 0 = 1) ∨ (∃ segs, pLawR (tpT g) (g 1 1) = Sum.inr segs ∧ g2 148 0 = 0 ∧ zw = (segs.length : Int))) ∧ (gxg g2 ∧ g2 1 1 = g2 148 8 ∧ g2 0 15 = g2 148 3 ∧ g2 159 0 = g1 159 0)
/-! fx: the law's case of law, walked -/
theorem f_n4_w3 : ∀ v ∈ [2, 1274], v % 8 ≠ 4 := fun v hv => by
  simp only [List.mem_cons, List.not_mem_nil, or_false] at hv
  rcases hv with rfl | rfl
  · decide
  · decide
theorem f_n4_m3 : ∀ v ∈ [1186], v % 8 ≠ 4 := fun v hv => by
  simp only [List.mem_cons, List.not_mem_nil, or_false] at hv
  subst hv
  decide
theorem ax_As_w3 : ax_As [(0, 2, 0), (0, 1274, 0)] [2, 1274] := ⟨ax_Aq_p (by decide), ax_Aq_p (by decide), True.intro⟩
theorem ax_As_m3 : ax_As [(0, 1186, 0)] [1186] := ⟨ax_Aq_p (by decide), True.intro⟩
section L3
variable {W : ax_W} {g : Nat → Nat → Int} {Q : Nat → Nat → (Nat → Nat → Int) → Prop}
theorem law_3_g {cW cM : ax_C} {b r2 d : Nat} {s : Nat → Int} {i : Int} {x5 x6 : Nat} (hs : fScr W s) (hvW : ax_Valid W.N W.sy cW) (w1 : cW.1 = 117) (w2 : cW.2.2.1 = [(0, 2, 0), (0, 1274, 0)]) (w3 : cW.2.2.2.1 = []) (w4 : cW.2.1 ≤ 36)
    (hvM : ax_Valid W.N W.sy cM) (m1 : cM.1 = 295) (m2 : cM.2.2.1 = [(0, 1186, 0)]) (m3 : cM.2.2.2.1 = []) (m4 : cM.2.1 ≤ 36) (hd : 37 ≤ d) (hl : 1 + b ≤ W.lim) (hr : 1 ≤ r2) (hi0 : 0 ≤ i) (hi1 : i ≤ 3072) (hiN : i + 6 ≤ W.N) (hI : LInv g)
    (hw : fx (fWl W 1) 1 36 117 0 [2, 1274, 7] [] g (PWl g))
    (hm : ∀ g1 k v, PWl g k v g1 → gHs g1 → fx (fWl (fWl W b) 0) r2 36 295 0 [1186, 7, 7] [] g1 (PMl g g1))
    (kq : ∀ g' x5 x6, LInv g' → x5 % 8 ≠ 4 → x6 % 8 ≠ 4 → fx (fWl W b) r2 d 0 23 [5, 2, 1186, 1274, fI (i + 6), x5, x6] [] g' Q) : fx W (r2 + 1) d 0 414 [5, 2, 1186, 1274, fI i, x5, x6] [] g Q := by
  have sr : ∀ k : Int, 0 ≤ k → k < W.N → fR (s k.toNat) := fun k k0 k1 => (hs.2 k.toNat (by omega)).1
  refine fx_la 1 415 (v := 2) (by decide +kernel) rfl (by decide +kernel) ?_
  refine fx_la 3 416 (v := 1274) (by decide +kernel) rfl (by decide +kernel) ?_
  obtain ⟨e1, e2⟩ := f_qm_ok (W := W) (L := [5, 2, 1186, 1274, fI i, x5, x6]) (g := g) (S := [1274, 2]) (rest := []) (mi := 0) (pc := 416) (mj := 117) (n := 2) (op := 22) (a := 2) (av' := [1274]) (by decide +kernel) (by decide +kernel) (fun K => rfl) (fun t => absurd t (by decide))
  refine fx_callW (a := 1) (b := b) (r1 := 1) (r2 := r2) hl (by omega) (by omega) e1 e2 (by decide +kernel) (dj := 36) hd (pc' := 419) rfl (Lj := [2, 1274, 7]) (f_xp f_n4_w3 (show 2 ≤ _ by decide +kernel)) ?_
  have wk : fx (fWl W 1) 1 36 117 0 [2, 1274, 7] [] g (fun k v g1 => PWl g k v g1 ∧ gHs g1) := by
    rw [← w1]
    refine fx_hs (W := fWl W 1) (cav := [2, 1274]) hvW hI.1 (by rw [w2]; exact ax_As_w3) w3 (by rw [w1]; exact f_xp f_n4_w3 (show 2 ≤ _ by decide +kernel)) (Nat.le_refl 1) w4 ?_
    rw [w1]
    exact hw
  refine wk.mono (fun k v g1 h => ⟨h.1.1, ?_⟩)
  obtain ⟨hPW, hs1⟩ := h
  have hc := hPW.2.2.2
  have hz : ∃ z : Int, v = fI z ∧ 0 ≤ z ∧ z ≤ 1 := by
    rcases hc with ⟨q, -, e⟩ | ⟨c1, l1, -, e, -⟩
    · exact ⟨1, e, by decide, by decide⟩
    · exact ⟨0, e, by decide, by decide⟩
  obtain ⟨z, hz, z0, z2⟩ := hz
  subst hz
  have hs : fScr (fWl W b) s := hs
  have hiN : i + 6 ≤ ((fWl W b).N : Int) := hiN
  refine fx_si 5 421 (by decide +kernel) (Or.inr (fI_n4 _)) rfl ?_
  dsimp only [List.set]
  refine fx_la 2 422 (v := 1186) (by decide +kernel) rfl (by decide +kernel) ?_
  refine fx_c1 295 21 425 36 [7, 7] (by decide +kernel) (by decide) rfl (by first | decide | omega) ?_
  have mk : fx (fWl (fWl W b) 0) r2 36 295 0 [1186, 7, 7] [] g1 (fun k w g2 => PMl g g1 k w g2 ∧ gHs g2) := by
    rw [← m1]
    refine fx_hs (W := fWl (fWl W b) 0) (cav := [1186]) hvM hs1 (by rw [m2]; exact ax_As_m3) m3 (by rw [m1]; exact f_xp f_n4_m3 (show 1 ≤ _ by decide +kernel)) hr m4 ?_
    rw [m1]
    exact hm g1 _ _ hPW hs1
  refine mk.mono (fun k w g2 h => ?_)
  obtain ⟨⟨hk2, zw, hzw, zwR, hc2, hfin⟩, hs2⟩ := h
  subst hk2
  subst hzw
  refine fK1 ?_
  refine fx_si 6 427 (by decide +kernel) (Or.inr (fI_n4 _)) rfl ?_
  dsimp only [List.set]
  have fin : ∀ l5 l6 : Nat, l5 % 8 ≠ 4 → l6 % 8 ≠ 4 → fx (fWl W b) r2 d 0 455 [5, 2, 1186, 1274, fI i, l5, l6] [] g2 Q := fun l5 l6 q5 q6 => by
    refine fx_go 1990 (by decide +kernel) ?_
    refine fx_inc 4 1993 6 (by decide +kernel) rfl (Or.inr (f_n4p (v := 1274) rfl (by decide))) rfl ?_
    dsimp only [List.set]
    exact fx_go 23 (by decide +kernel) (kq g2 l5 l6 ⟨hs2, hfin.1, hfin.2.1, hfin.2.2.1⟩ q5 q6)
  have cz : g2 148 0 = z ∧ (z = 0 → g2 159 0 = ((fJ zw - 4 : Nat) : Int)) := by
    have inj : ∀ y : Int, 0 ≤ y → y ≤ 2 → fI z = fI y → z = y := fun y y0 y2 t => fI_inj (by unfold fR; omega) (by unfold fR; omega) t
    rcases hc with ⟨q, c0, c1⟩ | ⟨c1', l1, c0, c1, c2⟩
    · have := inj 1 (by decide) (by decide) c1
      rcases hc2 with ⟨q', -, e⟩ | ⟨segs, t, -⟩
      · exact ⟨by omega, fun t => by omega⟩
      · obtain ⟨c1'', l1', t2, -⟩ := pLaw_R t
        rw [t2] at c0
        cases c0
    · have := inj 0 (by decide) (by decide) c1
      rcases hc2 with ⟨q', t, -⟩ | ⟨segs, t, e, e2⟩
      · rw [pLaw_L t] at c0
        cases c0
      · refine ⟨by omega, fun _ => ?_⟩
        obtain ⟨c1'', l1', t2, t3⟩ := pLaw_R t
        rw [t2] at c0
        cases c0
        rw [hfin.2.2.2, c2, e2, t3]
  refine fx_la 2 428 (v := 1186) (by decide +kernel) rfl (by decide +kernel) ?_
  refine fx_c1 263 21 431 0 [] (by decide +kernel) (by decide) rfl (by first | decide | omega) ?_
  refine sp_thrown (fK1 ?_)
  rw [cz.1]
  refine fx_li 5 433 (by decide +kernel) rfl ?_
  refine fx_ieq 438 436 (by decide +kernel) (by unfold fR; omega) (by unfold fR; omega) (fun h433 => ?_) (fun h433 => ?_)
  · refine fx_li 5 440 (by decide +kernel) rfl ?_
    refine fx_zne 455 443 (by decide +kernel) (by unfold fR; omega) (fun h440 => ?_) (fun h440 => ?_)
    · exact fin _ _ (fI_n4 _) (fI_n4 _)
    · have c2 := cz.2 h440
      refine fx_la 3 444 (v := 1274) (by decide +kernel) rfl (by decide +kernel) ?_
      refine fx_ci 0 445 (by decide +kernel) ?_
      refine fx_lal 1274 159 1 446 (by decide +kernel) rfl (by omega) (by omega) ?_
      refine fx_li 6 448 (by decide +kernel) rfl ?_
      refine fx_i2l 449 (by decide +kernel) rfl ?_
      have ej := fJ_ok zw
      rw [show (0 : Int).toNat = 0 from rfl, c2, show ((fJ zw - 4 : Nat) : Int).toNat + 4 = fJ zw by omega]
      refine fx_lcmp0 450 (by decide +kernel) rfl ej.1 ?_
      exact fx_zeq 455 453 (by decide +kernel) (by unfold fR; omega) (fun _ => fin _ _ (fI_n4 _) (fI_n4 _)) (fun t => absurd rfl t)
  · exact absurd rfl h433
end L3
section L3T
variable {W : ax_W} {g : Nat → Nat → Int} {Q : Nat → Nat → (Nat → Nat → Int) → Prop}
theorem gHs_P {h : sx_H} {g : Nat → Nat → Int} (q : ax_Hs h) (v : HV h g) : (g 148 15 = 0 ∨ g 148 15 = 1) ∧ (g 148 16 = 0 ∨ g 148 16 = 1) := by
  have a := Hs_b q v 148 15 0 1 (by decide +kernel) (16, 0, 2147483648, 2147483649, 0, 0) (by decide +kernel) rfl rfl rfl
  have b := Hs_b q v 148 16 0 1 (by decide +kernel) (17, 0, 2147483648, 2147483649, 0, 0) (by decide +kernel) rfl rfl rfl
  omega
theorem fx_P {r d mi pc : Nat} {L S : List Nat} (hg : gHs g) (k : (g 148 15 = 0 ∨ g 148 15 = 1) ∧ (g 148 16 = 0 ∨ g 148 16 = 1) → fx W r d mi pc L S g Q) : fx W r d mi pc L S g Q := fun D h cs ss hD v => k (gHs_P (hg h v) v) D h cs ss hD v
theorem sp_wlaw (hl : 1 ≤ W.lim) (hT : ∀ k : Int, 0 ≤ k → k < 400 → g 2 k.toNat = tpT g k ∧ 0 ≤ tpT g k ∧ tpT g k ≤ 255) (hE0 : 0 ≤ g 1 1) (hE1 : g 1 1 ≤ 400) : fx W 1 26 117 0 [2, 1274, 7] [] g (PWl g) := by
  refine fx_la 1 1 (v := 1274) (by decide +kernel) rfl (by decide +kernel) ?_
  refine fx_ci (0) 2 (by decide +kernel) ?_
  refine fx_la 0 3 (v := 2) (by decide +kernel) rfl (by decide +kernel) ?_
  obtain ⟨e1, e2⟩ := f_qm_ok (W := W) (L := [2, 1274, 7]) (g := g) (S := [2, fI 0, 1274]) (rest := [fI 0, 1274]) (mi := 117) (pc := 3) (mj := 118) (n := 1) (op := 21) (a := 2) (av' := []) (by decide +kernel) (by decide +kernel) (fun K => rfl) (fun t => absurd t (by decide))
  refine fx_callH (l := 0) (r := 0) (by omega) e1 e2 (by decide +kernel) (dj := 25) (by decide) (by decide +kernel) (pc' := 6) rfl (Lj := [2, 7]) (by decide +kernel) ?_
  refine sp_claw (T := tpT g) (E := g 1 1) (Nat.le_refl 1) hT rfl hE0 hE1 (fun q p g' f1 f2 f3 => ?_) (fun c1 l1 p g1 f1' g' f1 f2 f3 f4 f5 f6 f7 => ?_)
  · refine fKH2 0 12 2 (by decide +kernel) (Or.inr (f_n4p (v := 1274) rfl (by decide))) rfl ?_
    dsimp only [List.set]
    exact fx_ci 1 13 (by decide +kernel) (fx_ret (by decide +kernel) ⟨rfl, fun c j a b d e _ => f1 c j b d (fun t => e ⟨t.1, Or.inl t.2⟩), f2, Or.inl ⟨q, p, rfl⟩⟩)
  · refine fKH1 ?_
    refine fx_i2l 7 (by decide +kernel) rfl ?_
    refine fx_las 1274 159 1 8 (by decide +kernel) rfl (by omega) (by omega) (by decide +kernel) (fJ_ok _).1 (fJ_ok _).2 ?_
    exact fx_go 14 (by decide +kernel) (fx_ci 0 15 (by decide +kernel) (fx_ret (by decide +kernel) ⟨rfl, fun c j a b d e h => by rw [fu_nc h]; exact f4 c j a b d e, by rw [fu_nc (by decide)]; exact f5, Or.inr ⟨c1, l1, p, rfl, fu_eq _ _ _ _⟩⟩))
theorem law_3 {cW cM : ax_C} {b r2 d : Nat} {s : Nat → Int} {i : Int} {x5 x6 : Nat} (hs : fScr W s) (hvW : ax_Valid W.N W.sy cW) (w1 : cW.1 = 117) (w2 : cW.2.2.1 = [(0, 2, 0), (0, 1274, 0)]) (w3 : cW.2.2.2.1 = []) (w4 : cW.2.1 ≤ 36)
    (hvM : ax_Valid W.N W.sy cM) (m1 : cM.1 = 295) (m2 : cM.2.2.1 = [(0, 1186, 0)]) (m3 : cM.2.2.2.1 = []) (m4 : cM.2.1 ≤ 36) (hd : 37 ≤ d) (hl : 1 + b ≤ W.lim) (hr : 1 ≤ r2) (hi0 : 0 ≤ i) (hi1 : i ≤ 3072) (hiN : i + 6 ≤ W.N) (hI : LInv g)
    (kq : ∀ g' x5 x6, LInv g' → x5 % 8 ≠ 4 → x6 % 8 ≠ 4 → fx (fWl W b) r2 d 0 23 [5, 2, 1186, 1274, fI (i + 6), x5, x6] [] g' Q) : fx W (r2 + 1) d 0 414 [5, 2, 1186, 1274, fI i, x5, x6] [] g Q := by
  refine fx_LB hI.1 (fun hb => ?_)
  have hT : ∀ k : Int, 0 ≤ k → k < 400 → g 2 k.toNat = tpT g k ∧ 0 ≤ tpT g k ∧ tpT g k ≤ 255 := fun k k0 k1 => ⟨rfl, hb.2.2.2.1 k.toNat (by omega)⟩
  refine law_3_g hs hvW w1 w2 w3 w4 hvM m1 m2 m3 m4 hd hl hr hi0 hi1 hiN hI ?_ (fun g1 k v hw hs1 => ?_) kq
  · exact fx.up (sp_wlaw (W := fWl W 1) (Nat.le_refl 1) hT hb.1.1 hb.1.2) (Nat.le_refl 1) (by decide)
  · obtain ⟨-, fl, tl, -⟩ := hw
    obtain ⟨hx, hL, hM⟩ := hI.2
    have mm : ∀ c j, 43 ≤ c → c ≠ 159 → g1 c j = g c j := fun c j h1 h2 => fl c j (by omega) (by omega) (by omega) (by omega) h2
    have fin : ∀ g2 : Nat → Nat → Int, (∀ c j, ¬ (c = 148 ∧ (j = 0 ∨ j = 6 ∨ (8 ≤ j ∧ j ≤ 13) ∨ j = 17 ∨ j = 18 ∨ j = 19)) → ¬ (c = 149 ∧ (j = 1 ∨ j = 2 ∨ 364 ≤ j)) → g2 c j = g1 c j) → g2 148 8 = 0 → (g2 148 6 = g1 148 6 ∨ g2 148 6 = 0) → gxg g2 ∧ g2 1 1 = g2 148 8 ∧ g2 0 15 = g2 148 3 ∧ g2 159 0 = g1 159 0 := fun g2 z zt za => by
      have al : ∀ c j, gx_K c j → ¬ (c = 148 ∧ j = 6) → g2 c j = g c j := fun c j k e => by
        rw [z c j (by unfold gx_K gx_P at k; omega) (by unfold gx_K gx_P at k; omega), fl c j (by unfold gx_K at k; omega) (by unfold gx_K at k; omega) (by unfold gx_K at k; omega) (by unfold gx_K at k; omega) (by unfold gx_K at k; omega)]
      refine ⟨gxg_cg hx (fun c j k _ e => al c j k e) (fun r k q1 q2 q3 => ?_), ?_, ?_, z _ _ (fun t => absurd t.1 (by decide)) (fun t => absurd t.1 (by decide))⟩
      · rcases za with za | za
        · rw [za, mm _ _ (by decide) (by decide)] at q1
          rw [al 152 _ (by unfold gx_K; omega) (by omega), al 149 k (Or.inl ⟨rfl, q3⟩) (by omega)]
          exact hx.2.2.2 r k q1 q2 q3
        · rw [za] at q1
          omega
      · rw [zt, z 1 1 (by decide) (by decide)]; exact tl
      · rw [z 0 15 (by decide) (by decide), z 148 3 (by decide) (by decide), fl 0 15 (by decide) (by decide) (by decide) (by decide) (by decide), mm 148 3 (by decide) (by decide)]
        exact hM
    refine fx_P hs1 (fun hp => ?_)
    refine fx.up (sp_mlaw (T := tpT g) (E := g 1 1) (fun k k0 k1 => ⟨?_, (hT k k0 k1).2⟩) ?_ hb.1.1 hb.1.2 hp.1 hp.2 (fun q p g' f1 f2 f3 f4 => ?_) (fun segs p g' f1 f2 f3 f4 f5 f6 f7 f8 f9 => ?_)) (Nat.le_refl _) (by decide)
    · rw [mm _ _ (by decide) (by decide)]
      exact (hx.1 k.toNat (by omega)).symm
    · rw [mm _ _ (by decide) (by decide)]
      exact hL.symm
    · exact ⟨rfl, 0, rfl, by unfold fR; omega, Or.inl ⟨q, p, f3⟩, fin g' (fun c j a b => f1 c j (by omega)) f2 (Or.inl (f1 _ _ (by decide)))⟩
    · exact ⟨rfl, _, rfl, by unfold fR; omega, Or.inr ⟨segs, p, f3, rfl⟩, fin g' f1 f2 (Or.inr f5)⟩
end L3T
