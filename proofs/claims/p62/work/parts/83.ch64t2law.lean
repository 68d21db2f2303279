/-! fx: the law's cases, walked, of the whole state -/
theorem t2_w0 {p q : Nat} (hp : p % 8 ≠ 4) (hq : q % 8 ≠ 4) : ∀ v ∈ [p, q], v % 8 ≠ 4 := fun v hv => by
  simp only [List.mem_cons, List.not_mem_nil, or_false] at hv
  rcases hv with rfl | rfl
  · exact hp
  · exact hq
theorem t2_w1 {p q : Nat} {a : Int} (hp : p % 8 ≠ 4) (hq : q % 8 ≠ 4) : ∀ v ∈ [p, fI a, q], v % 8 ≠ 4 := fun v hv => by
  simp only [List.mem_cons, List.not_mem_nil, or_false] at hv
  rcases hv with rfl | rfl | rfl
  · exact hp
  · exact fI_n4 _
  · exact hq
theorem t2_w2 {p q : Nat} {a b : Int} (hp : p % 8 ≠ 4) (hq : q % 8 ≠ 4) : ∀ v ∈ [p, fI a, fI b, q], v % 8 ≠ 4 := fun v hv => by
  simp only [List.mem_cons, List.not_mem_nil, or_false] at hv
  rcases hv with rfl | rfl | rfl | rfl
  · exact hp
  · exact fI_n4 _
  · exact fI_n4 _
  · exact hq
theorem t2_w3 {p q : Nat} {a b c : Int} (hp : p % 8 ≠ 4) (hq : q % 8 ≠ 4) : ∀ v ∈ [p, fI a, fI b, fI c, q], v % 8 ≠ 4 := fun v hv => by
  simp only [List.mem_cons, List.not_mem_nil, or_false] at hv
  rcases hv with rfl | rfl | rfl | rfl | rfl
  · exact hp
  · exact fI_n4 _
  · exact fI_n4 _
  · exact fI_n4 _
  · exact hq
theorem t2_m0 {p : Nat} (hp : p % 8 ≠ 4) : ∀ v ∈ [p], v % 8 ≠ 4 := fun v hv => by
  simp only [List.mem_cons, List.not_mem_nil, or_false] at hv
  subst hv
  exact hp
theorem t2_m1 {p : Nat} {a : Int} (hp : p % 8 ≠ 4) : ∀ v ∈ [p, fI a], v % 8 ≠ 4 := fun v hv => by
  simp only [List.mem_cons, List.not_mem_nil, or_false] at hv
  rcases hv with rfl | rfl
  · exact hp
  · exact fI_n4 _
theorem t2_m2 {p : Nat} {a b : Int} (hp : p % 8 ≠ 4) : ∀ v ∈ [p, fI a, fI b], v % 8 ≠ 4 := fun v hv => by
  simp only [List.mem_cons, List.not_mem_nil, or_false] at hv
  rcases hv with rfl | rfl | rfl
  · exact hp
  · exact fI_n4 _
  · exact fI_n4 _
theorem t2_m3 {p : Nat} {a b c : Int} (hp : p % 8 ≠ 4) : ∀ v ∈ [p, fI a, fI b, fI c], v % 8 ≠ 4 := fun v hv => by
  simp only [List.mem_cons, List.not_mem_nil, or_false] at hv
  rcases hv with rfl | rfl | rfl | rfl
  · exact hp
  · exact fI_n4 _
  · exact fI_n4 _
  · exact fI_n4 _
theorem t2_m5 {p : Nat} {a b c d e : Int} (hp : p % 8 ≠ 4) : ∀ v ∈ [p, fI a, fI b, fI c, fI d, fI e], v % 8 ≠ 4 := f_n4_6 hp
section T2LAW
variable {W : ax_W} {g : Nat → Nat → Int} {Q : Nat → Nat → (Nat → Nat → Int) → Prop}
theorem la_0 {cW cM : ax_C} {r2 d : Nat} {s : Nat → Int} {i : Int} {x5 x6 : Nat} (hs : fScr W s) (hvW : ax_Valid W.N W.sy cW) (w1 : cW.1 = 14) (w2 : cW.2.2.1 = [(0, 2, 0), (1, 0, 4294967295), (1, 0, 4294967295), (1, 0, 4294967295), (1, 0, 4294967295), (1, 0, 4294967295)]) (w3 : cW.2.2.2.1 = []) (w4 : cW.2.1 ≤ 42)
    (hvM : ax_Valid W.N W.sy cM) (m1 : cM.1 = 263) (m2 : cM.2.2.1 = [(0, 1186, 0), (1, 0, 4294967295), (1, 0, 4294967295), (1, 0, 4294967295), (1, 0, 4294967295), (1, 0, 4294967295)]) (m3 : cM.2.2.2.1 = []) (m4 : cM.2.1 ≤ 42) (hd : 43 ≤ d) (hr : 1 ≤ r2) (hi0 : 0 ≤ i) (hi1 : i ≤ 3072) (hiN : i + 6 ≤ W.N) (hI : LInv2 g) (h5 : x5 % 8 ≠ 4) (h6 : x6 % 8 ≠ 4)
    (kq : ∀ g' x5 x6, LInv2 g' → x5 % 8 ≠ 4 → x6 % 8 ≠ 4 → fx W r2 d 0 23 [5, 2, 1186, 1274, fI (i + 6), x5, x6] [] g' Q) : fx W r2 d 0 300 [5, 2, 1186, 1274, fI i, x5, x6] [] g Q := by
  refine fx_LB2 hI.1 (fun hB => ?_)
  have sr : ∀ k : Int, 0 ≤ k → k < W.N → fR (s k.toNat) := fun k k0 k1 => (hs.2 k.toNat (by omega)).1
  refine fx_la 1 301 (v := 2) (by decide +kernel) rfl (by decide +kernel) ?_
  refine fx_la 0 302 (v := 5) (by decide +kernel) rfl (by decide +kernel) ?_
  refine fx_li 4 304 (by decide +kernel) rfl ?_
  refine fx_ci (1) 305 (by decide +kernel) ?_
  refine fx_add 306 (by decide +kernel) rfl ?_
  refine fx_scr 307 hs (by decide +kernel) rfl (by omega) (by omega) ?_
  refine fx_la 0 308 (v := 5) (by decide +kernel) rfl (by decide +kernel) ?_
  refine fx_li 4 310 (by decide +kernel) rfl ?_
  refine fx_ci (2) 311 (by decide +kernel) ?_
  refine fx_add 312 (by decide +kernel) rfl ?_
  refine fx_scr 313 hs (by decide +kernel) rfl (by omega) (by omega) ?_
  refine fx_la 0 314 (v := 5) (by decide +kernel) rfl (by decide +kernel) ?_
  refine fx_li 4 316 (by decide +kernel) rfl ?_
  refine fx_ci (3) 317 (by decide +kernel) ?_
  refine fx_add 318 (by decide +kernel) rfl ?_
  refine fx_scr 319 hs (by decide +kernel) rfl (by omega) (by omega) ?_
  refine fx_la 0 320 (v := 5) (by decide +kernel) rfl (by decide +kernel) ?_
  refine fx_li 4 322 (by decide +kernel) rfl ?_
  refine fx_ci (4) 323 (by decide +kernel) ?_
  refine fx_add 324 (by decide +kernel) rfl ?_
  refine fx_scr 325 hs (by decide +kernel) rfl (by omega) (by omega) ?_
  refine fx_la 0 326 (v := 5) (by decide +kernel) rfl (by decide +kernel) ?_
  refine fx_li 4 328 (by decide +kernel) rfl ?_
  refine fx_ci (5) 329 (by decide +kernel) ?_
  refine fx_add 330 (by decide +kernel) rfl ?_
  refine fx_scr 331 hs (by decide +kernel) rfl (by omega) (by omega) ?_
  refine fx_c6 14 21 334 42 [] (by decide +kernel) (by decide) (by decide) (fI_n4 _) (fI_n4 _) (fI_n4 _) (fI_n4 _) (fI_n4 _) rfl (by first | decide | omega) ?_
  have wk : fx (fWl W 0) r2 42 14 0 [2, fI (s (i + 1).toNat), fI (s (i + 2).toNat), fI (s (i + 3).toNat), fI (s (i + 4).toNat), fI (s (i + 5).toNat)] [] g (fun k v g1 => (k = 1 ∧ v % 8 ≠ 4 ∧ HM_feed g (s (i + 1).toNat) (s (i + 2).toNat) (s (i + 3).toNat) (s (i + 4).toNat) (s (i + 5).toNat) g1) ∧ gHs g1) := by
    rw [← w1]
    refine fx_hs (W := fWl W 0) (cav := [2, fI (s (i + 1).toNat), fI (s (i + 2).toNat), fI (s (i + 3).toNat), fI (s (i + 4).toNat), fI (s (i + 5).toNat)]) hvW hI.1 (by rw [w2]; exact ⟨ax_Aq_p (by decide), ax_Aq_i _, ax_Aq_i _, ax_Aq_i _, ax_Aq_i _, ax_Aq_i _, True.intro⟩) w3 (by rw [w1]; exact f_xp (t2_m5 (by decide)) (show 6 ≤ _ by decide +kernel)) hr w4 ?_
    rw [w1]
    exact fx.up (sp_w_feed (sr (i + 1) (by omega) (by omega)) (sr (i + 2) (by omega) (by omega)) (sr (i + 3) (by omega) (by omega)) (sr (i + 4) (by omega) (by omega)) (sr (i + 5) (by omega) (by omega)) hB) (Nat.le_refl _) (by decide)
  refine wk.mono (fun k v g1 h => ?_)
  obtain ⟨⟨hk1, hv, hM⟩, hs1⟩ := h
  subst hk1
  refine fK1 ?_
  refine fx_pop 335 (by decide +kernel) rfl hv ?_
  refine fx_la 2 336 (v := 1186) (by decide +kernel) rfl (by decide +kernel) ?_
  refine fx_la 0 337 (v := 5) (by decide +kernel) rfl (by decide +kernel) ?_
  refine fx_li 4 339 (by decide +kernel) rfl ?_
  refine fx_ci (1) 340 (by decide +kernel) ?_
  refine fx_add 341 (by decide +kernel) rfl ?_
  refine fx_scr 342 hs (by decide +kernel) rfl (by omega) (by omega) ?_
  refine fx_la 0 343 (v := 5) (by decide +kernel) rfl (by decide +kernel) ?_
  refine fx_li 4 345 (by decide +kernel) rfl ?_
  refine fx_ci (2) 346 (by decide +kernel) ?_
  refine fx_add 347 (by decide +kernel) rfl ?_
  refine fx_scr 348 hs (by decide +kernel) rfl (by omega) (by omega) ?_
  refine fx_la 0 349 (v := 5) (by decide +kernel) rfl (by decide +kernel) ?_
  refine fx_li 4 351 (by decide +kernel) rfl ?_
  refine fx_ci (3) 352 (by decide +kernel) ?_
  refine fx_add 353 (by decide +kernel) rfl ?_
  refine fx_scr 354 hs (by decide +kernel) rfl (by omega) (by omega) ?_
  refine fx_la 0 355 (v := 5) (by decide +kernel) rfl (by decide +kernel) ?_
  refine fx_li 4 357 (by decide +kernel) rfl ?_
  refine fx_ci (4) 358 (by decide +kernel) ?_
  refine fx_add 359 (by decide +kernel) rfl ?_
  refine fx_scr 360 hs (by decide +kernel) rfl (by omega) (by omega) ?_
  refine fx_la 0 361 (v := 5) (by decide +kernel) rfl (by decide +kernel) ?_
  refine fx_li 4 363 (by decide +kernel) rfl ?_
  refine fx_ci (5) 364 (by decide +kernel) ?_
  refine fx_add 365 (by decide +kernel) rfl ?_
  refine fx_scr 366 hs (by decide +kernel) rfl (by omega) (by omega) ?_
  refine fx_c6 263 21 369 42 [7, 7] (by decide +kernel) (by decide) (by decide) (fI_n4 _) (fI_n4 _) (fI_n4 _) (fI_n4 _) (fI_n4 _) rfl (by first | decide | omega) ?_
  have mk : fx (fWl W 0) r2 42 263 0 [1186, fI (s (i + 1).toNat), fI (s (i + 2).toNat), fI (s (i + 3).toNat), fI (s (i + 4).toNat), fI (s (i + 5).toNat), 7, 7] [] g1 (fun k v g2 => (k = 1 ∧ v % 8 ≠ 4 ∧ LI g2) ∧ gHs g2) := by
    rw [← m1]
    refine fx_hs (W := fWl W 0) (cav := [1186, fI (s (i + 1).toNat), fI (s (i + 2).toNat), fI (s (i + 3).toNat), fI (s (i + 4).toNat), fI (s (i + 5).toNat)]) hvM hs1 (by rw [m2]; exact ⟨ax_Aq_p (by decide), ax_Aq_i _, ax_Aq_i _, ax_Aq_i _, ax_Aq_i _, ax_Aq_i _, True.intro⟩) m3 (by rw [m1]; exact f_xp (t2_m5 (by decide)) (show 6 ≤ _ by decide +kernel)) hr m4 ?_
    rw [m1]
    exact fx.up (sp_r_feed (sr (i + 1) (by omega) (by omega)) (sr (i + 2) (by omega) (by omega)) (sr (i + 3) (by omega) (by omega)) (sr (i + 4) (by omega) (by omega)) (sr (i + 5) (by omega) (by omega)) hI.2 hB hM) (Nat.le_refl _) (by decide)
  refine mk.mono (fun k v g2 h => ?_)
  obtain ⟨⟨hk3, hv2, hLI⟩, hs2⟩ := h
  subst hk3
  refine fK1 ?_
  refine fx_pop 370 (by decide +kernel) rfl hv2 ?_
  refine fx_go 1962 (by decide +kernel) ?_
  refine fx_inc 4 1965 6 (by decide +kernel) rfl (Or.inr (f_n4p (v := 1274) rfl (by decide))) rfl ?_
  dsimp only [List.set]
  exact fx_go 23 (by decide +kernel) (kq g2 x5 x6 ⟨hs2, hLI⟩ h5 h6)
theorem la_2_g {cW cM : ax_C} {b r2 d : Nat} {s : Nat → Int} {i : Int} {x5 x6 : Nat} (hs : fScr W s) (hvW : ax_Valid W.N W.sy cW) (w1 : cW.1 = 69) (w2 : cW.2.2.1 = [(0, 2, 0), (0, 1274, 0)]) (w3 : cW.2.2.2.1 = []) (w4 : cW.2.1 ≤ 42)
    (hvM : ax_Valid W.N W.sy cM) (m1 : cM.1 = 266) (m2 : cM.2.2.1 = [(0, 1186, 0)]) (m3 : cM.2.2.2.1 = []) (m4 : cM.2.1 ≤ 42) (hd : 43 ≤ d) (hl : 1 + b ≤ W.lim) (hr : 1 ≤ r2) (hi0 : 0 ≤ i) (hi1 : i ≤ 3072) (hiN : i + 6 ≤ W.N) (hI : LInv2 g)
    (HM : Int → (Nat → Nat → Int) → Prop)
    (hw : fx (fWl W 1) 1 42 69 0 [2, 1274, 7] [] g (fun k v g1 => k = 1 ∧ ∃ zc, v = fI zc ∧ 0 ≤ zc ∧ zc ≤ 3 ∧ HM zc g1))
    (hm : ∀ zc g1, HM zc g1 → fx (fWl (fWl W b) 0) r2 42 266 0 [1186, 7] [] g1 (PMa g1 zc))
    (kq : ∀ g' x5 x6, LInv2 g' → x5 % 8 ≠ 4 → x6 % 8 ≠ 4 → fx (fWl W b) r2 d 0 23 [5, 2, 1186, 1274, fI (i + 6), x5, x6] [] g' Q) : fx W (r2 + 1) d 0 398 [5, 2, 1186, 1274, fI i, x5, x6] [] g Q := by
  have sr : ∀ k : Int, 0 ≤ k → k < W.N → fR (s k.toNat) := fun k k0 k1 => (hs.2 k.toNat (by omega)).1
  refine fx_la 1 399 (v := 2) (by decide +kernel) rfl (by decide +kernel) ?_
  refine fx_la 3 400 (v := 1274) (by decide +kernel) rfl (by decide +kernel) ?_
  obtain ⟨e1, e2⟩ := f_qm_ok (W := W) (L := [5, 2, 1186, 1274, fI i, x5, x6]) (g := g) (S := [1274, 2]) (rest := []) (mi := 0) (pc := 400) (mj := 69) (n := 2) (op := 22) (a := 2) (av' := [1274]) (by decide +kernel) (by decide +kernel) (fun K => rfl) (fun t => absurd t (by decide))
  refine fx_callW (a := 1) (b := b) (r1 := 1) (r2 := r2) hl (by omega) (by omega) e1 e2 (by decide +kernel) (dj := 42) hd (pc' := 403) rfl (Lj := [2, 1274, 7]) (f_xp (t2_w0 (by decide) (by decide)) (show 2 ≤ _ by decide +kernel)) ?_
  have wk : fx (fWl W 1) 1 42 69 0 [2, 1274, 7] [] g (fun k v g1 => (k = 1 ∧ ∃ zc, v = fI zc ∧ 0 ≤ zc ∧ zc ≤ 3 ∧ HM zc g1) ∧ gHs g1) := by
    rw [← w1]
    refine fx_hs (W := fWl W 1) (cav := [2, 1274]) hvW hI.1 (by rw [w2]; exact ⟨ax_Aq_p (by decide), ax_Aq_p (by decide), True.intro⟩) w3 (by rw [w1]; exact f_xp (t2_w0 (by decide) (by decide)) (show 2 ≤ _ by decide +kernel)) (Nat.le_refl 1) w4 ?_
    rw [w1]
    exact hw
  refine wk.mono (fun k v g1 h => ⟨h.1.1, ?_⟩)
  obtain ⟨⟨-, z, hz, z0, z2, hM⟩, hs1⟩ := h
  subst hz
  have hs : fScr (fWl W b) s := hs
  have hiN : i + 6 ≤ ((fWl W b).N : Int) := hiN
  refine fx_si 5 405 (by decide +kernel) (Or.inr (fI_n4 _)) rfl ?_
  dsimp only [List.set]
  refine fx_la 2 406 (v := 1186) (by decide +kernel) rfl (by decide +kernel) ?_
  refine fx_c1 266 21 409 42 [7] (by decide +kernel) (by decide) rfl (by first | decide | omega) ?_
  have mk : fx (fWl (fWl W b) 0) r2 42 266 0 [1186, 7] [] g1 (fun k w g2 => PMa g1 z k w g2 ∧ gHs g2) := by
    rw [← m1]
    refine fx_hs (W := fWl (fWl W b) 0) (cav := [1186]) hvM hs1 (by rw [m2]; exact ⟨ax_Aq_p (by decide), True.intro⟩) m3 (by rw [m1]; exact f_xp (t2_m0 (by decide)) (show 1 ≤ _ by decide +kernel)) hr m4 ?_
    rw [m1]
    exact hm z g1 hM
  refine mk.mono (fun k w g2 h => ?_)
  obtain ⟨⟨hk2, zw, hzw, zwR, hLI, hth, hou, hoo⟩, hs2⟩ := h
  subst hk2
  subst hzw
  refine fK1 ?_
  refine fx_si 6 411 (by decide +kernel) (Or.inr (fI_n4 _)) rfl ?_
  dsimp only [List.set]
  refine fx_go 1962 (by decide +kernel) ?_
  refine fx_inc 4 1965 6 (by decide +kernel) rfl (Or.inr (f_n4p (v := 1274) rfl (by decide))) rfl ?_
  dsimp only [List.set]
  exact fx_go 23 (by decide +kernel) (kq g2 _ _ ⟨hs2, hLI⟩ (fI_n4 _) (fI_n4 _))
theorem la_2 {cW cM : ax_C} {b r2 d : Nat} {s : Nat → Int} {i : Int} {x5 x6 : Nat} (hs : fScr W s) (hvW : ax_Valid W.N W.sy cW) (w1 : cW.1 = 69) (w2 : cW.2.2.1 = [(0, 2, 0), (0, 1274, 0)]) (w3 : cW.2.2.2.1 = []) (w4 : cW.2.1 ≤ 42)
    (hvM : ax_Valid W.N W.sy cM) (m1 : cM.1 = 266) (m2 : cM.2.2.1 = [(0, 1186, 0)]) (m3 : cM.2.2.2.1 = []) (m4 : cM.2.1 ≤ 42) (hd : 43 ≤ d) (hl : 1 + b ≤ W.lim) (hr : 1 ≤ r2) (hi0 : 0 ≤ i) (hi1 : i ≤ 3072) (hiN : i + 6 ≤ W.N) (hI : LInv2 g)
    (kq : ∀ g' x5 x6, LInv2 g' → x5 % 8 ≠ 4 → x6 % 8 ≠ 4 → fx (fWl W b) r2 d 0 23 [5, 2, 1186, 1274, fI (i + 6), x5, x6] [] g' Q) : fx W (r2 + 1) d 0 398 [5, 2, 1186, 1274, fI i, x5, x6] [] g Q := by
  refine fx_LB2 hI.1 (fun hB => ?_)
  exact la_2_g hs hvW w1 w2 w3 w4 hvM m1 m2 m3 m4 hd hl hr hi0 hi1 hiN hI (fun zc g1 => HM_house g zc g1) (fx.up (sp_w_house (W := fWl W 1) (Nat.le_refl 1) hI.2 hB) (Nat.le_refl 1) (by decide)) (fun zc g1 hM => fx.up (sp_r_house hI.2 hB hM) (Nat.le_refl _) (by decide)) kq
theorem la_3_g {cW cM : ax_C} {b r2 d : Nat} {s : Nat → Int} {i : Int} {x5 x6 : Nat} (hs : fScr W s) (hvW : ax_Valid W.N W.sy cW) (w1 : cW.1 = 117) (w2 : cW.2.2.1 = [(0, 2, 0), (0, 1274, 0)]) (w3 : cW.2.2.2.1 = []) (w4 : cW.2.1 ≤ 42)
    (hvM : ax_Valid W.N W.sy cM) (m1 : cM.1 = 294) (m2 : cM.2.2.1 = [(0, 1186, 0)]) (m3 : cM.2.2.2.1 = []) (m4 : cM.2.1 ≤ 42) (hd : 43 ≤ d) (hl : 1 + b ≤ W.lim) (hr : 1 ≤ r2) (hi0 : 0 ≤ i) (hi1 : i ≤ 3072) (hiN : i + 6 ≤ W.N) (hI : LInv2 g)
    (HM : Int → (Nat → Nat → Int) → Prop)
    (hw : fx (fWl W 1) 1 42 117 0 [2, 1274, 7] [] g (fun k v g1 => k = 1 ∧ ∃ zc, v = fI zc ∧ 0 ≤ zc ∧ zc ≤ 3 ∧ HM zc g1))
    (hm : ∀ zc g1, HM zc g1 → fx (fWl (fWl W b) 0) r2 42 294 0 [1186, 7, 7] [] g1 (PMa g1 zc))
    (kq : ∀ g' x5 x6, LInv2 g' → x5 % 8 ≠ 4 → x6 % 8 ≠ 4 → fx (fWl W b) r2 d 0 23 [5, 2, 1186, 1274, fI (i + 6), x5, x6] [] g' Q) : fx W (r2 + 1) d 0 414 [5, 2, 1186, 1274, fI i, x5, x6] [] g Q := by
  have sr : ∀ k : Int, 0 ≤ k → k < W.N → fR (s k.toNat) := fun k k0 k1 => (hs.2 k.toNat (by omega)).1
  refine fx_la 1 415 (v := 2) (by decide +kernel) rfl (by decide +kernel) ?_
  refine fx_la 3 416 (v := 1274) (by decide +kernel) rfl (by decide +kernel) ?_
  obtain ⟨e1, e2⟩ := f_qm_ok (W := W) (L := [5, 2, 1186, 1274, fI i, x5, x6]) (g := g) (S := [1274, 2]) (rest := []) (mi := 0) (pc := 416) (mj := 117) (n := 2) (op := 22) (a := 2) (av' := [1274]) (by decide +kernel) (by decide +kernel) (fun K => rfl) (fun t => absurd t (by decide))
  refine fx_callW (a := 1) (b := b) (r1 := 1) (r2 := r2) hl (by omega) (by omega) e1 e2 (by decide +kernel) (dj := 42) hd (pc' := 419) rfl (Lj := [2, 1274, 7]) (f_xp (t2_w0 (by decide) (by decide)) (show 2 ≤ _ by decide +kernel)) ?_
  have wk : fx (fWl W 1) 1 42 117 0 [2, 1274, 7] [] g (fun k v g1 => (k = 1 ∧ ∃ zc, v = fI zc ∧ 0 ≤ zc ∧ zc ≤ 3 ∧ HM zc g1) ∧ gHs g1) := by
    rw [← w1]
    refine fx_hs (W := fWl W 1) (cav := [2, 1274]) hvW hI.1 (by rw [w2]; exact ⟨ax_Aq_p (by decide), ax_Aq_p (by decide), True.intro⟩) w3 (by rw [w1]; exact f_xp (t2_w0 (by decide) (by decide)) (show 2 ≤ _ by decide +kernel)) (Nat.le_refl 1) w4 ?_
    rw [w1]
    exact hw
  refine wk.mono (fun k v g1 h => ⟨h.1.1, ?_⟩)
  obtain ⟨⟨-, z, hz, z0, z2, hM⟩, hs1⟩ := h
  subst hz
  have hs : fScr (fWl W b) s := hs
  have hiN : i + 6 ≤ ((fWl W b).N : Int) := hiN
  refine fx_si 5 421 (by decide +kernel) (Or.inr (fI_n4 _)) rfl ?_
  dsimp only [List.set]
  refine fx_la 2 422 (v := 1186) (by decide +kernel) rfl (by decide +kernel) ?_
  refine fx_c1 294 21 425 42 [7, 7] (by decide +kernel) (by decide) rfl (by first | decide | omega) ?_
  have mk : fx (fWl (fWl W b) 0) r2 42 294 0 [1186, 7, 7] [] g1 (fun k w g2 => PMa g1 z k w g2 ∧ gHs g2) := by
    rw [← m1]
    refine fx_hs (W := fWl (fWl W b) 0) (cav := [1186]) hvM hs1 (by rw [m2]; exact ⟨ax_Aq_p (by decide), True.intro⟩) m3 (by rw [m1]; exact f_xp (t2_m0 (by decide)) (show 1 ≤ _ by decide +kernel)) hr m4 ?_
    rw [m1]
    exact hm z g1 hM
  refine mk.mono (fun k w g2 h => ?_)
  obtain ⟨⟨hk2, zw, hzw, zwR, hLI, hth, hou, hoo⟩, hs2⟩ := h
  subst hk2
  subst hzw
  refine fK1 ?_
  refine fx_si 6 427 (by decide +kernel) (Or.inr (fI_n4 _)) rfl ?_
  dsimp only [List.set]
  refine fx_go 1962 (by decide +kernel) ?_
  refine fx_inc 4 1965 6 (by decide +kernel) rfl (Or.inr (f_n4p (v := 1274) rfl (by decide))) rfl ?_
  dsimp only [List.set]
  exact fx_go 23 (by decide +kernel) (kq g2 _ _ ⟨hs2, hLI⟩ (fI_n4 _) (fI_n4 _))
theorem la_3 {cW cM : ax_C} {b r2 d : Nat} {s : Nat → Int} {i : Int} {x5 x6 : Nat} (hs : fScr W s) (hvW : ax_Valid W.N W.sy cW) (w1 : cW.1 = 117) (w2 : cW.2.2.1 = [(0, 2, 0), (0, 1274, 0)]) (w3 : cW.2.2.2.1 = []) (w4 : cW.2.1 ≤ 42)
    (hvM : ax_Valid W.N W.sy cM) (m1 : cM.1 = 294) (m2 : cM.2.2.1 = [(0, 1186, 0)]) (m3 : cM.2.2.2.1 = []) (m4 : cM.2.1 ≤ 42) (hd : 43 ≤ d) (hl : 1 + b ≤ W.lim) (hr : 1 ≤ r2) (hi0 : 0 ≤ i) (hi1 : i ≤ 3072) (hiN : i + 6 ≤ W.N) (hI : LInv2 g)
    (kq : ∀ g' x5 x6, LInv2 g' → x5 % 8 ≠ 4 → x6 % 8 ≠ 4 → fx (fWl W b) r2 d 0 23 [5, 2, 1186, 1274, fI (i + 6), x5, x6] [] g' Q) : fx W (r2 + 1) d 0 414 [5, 2, 1186, 1274, fI i, x5, x6] [] g Q := by
  refine fx_LB2 hI.1 (fun hB => ?_)
  exact la_3_g hs hvW w1 w2 w3 w4 hvM m1 m2 m3 m4 hd hl hr hi0 hi1 hiN hI (fun zc g1 => HM_law g zc g1) (fx.up (sp_w_law (W := fWl W 1) (Nat.le_refl 1) hI.2 hB) (Nat.le_refl 1) (by decide)) (fun zc g1 hM => fx.up (sp_r_law hI.2 hB hM) (Nat.le_refl _) (by decide)) kq
theorem la_9_g {cW cM : ax_C} {b r2 d : Nat} {s : Nat → Int} {i : Int} {x5 x6 : Nat} (hs : fScr W s) (hvW : ax_Valid W.N W.sy cW) (w1 : cW.1 = 149) (w2 : cW.2.2.1 = [(0, 2, 0), (1, 0, 4294967295), (0, 1274, 0)]) (w3 : cW.2.2.2.1 = []) (w4 : cW.2.1 ≤ 42)
    (hvM : ax_Valid W.N W.sy cM) (m1 : cM.1 = 318) (m2 : cM.2.2.1 = [(0, 1186, 0), (1, 0, 4294967295)]) (m3 : cM.2.2.2.1 = []) (m4 : cM.2.1 ≤ 42) (hd : 43 ≤ d) (hl : 1 + b ≤ W.lim) (hr : 1 ≤ r2) (hi0 : 0 ≤ i) (hi1 : i ≤ 3072) (hiN : i + 6 ≤ W.N) (hI : LInv2 g)
    (HM : Int → Int → (Nat → Nat → Int) → Prop)
    (hw : ∀ A : Int, fR A → fx (fWl W 1) 1 42 149 0 [2, fI A, 1274, 7] [] g (fun k v g1 => k = 1 ∧ ∃ zc, v = fI zc ∧ 0 ≤ zc ∧ zc ≤ 3 ∧ HM A zc g1))
    (hm : ∀ A : Int, fR A → ∀ zc g1, HM A zc g1 → fx (fWl (fWl W b) 0) r2 42 318 0 [1186, fI A] [] g1 (PMa g1 zc))
    (kq : ∀ g' x5 x6, LInv2 g' → x5 % 8 ≠ 4 → x6 % 8 ≠ 4 → fx (fWl W b) r2 d 0 23 [5, 2, 1186, 1274, fI (i + 6), x5, x6] [] g' Q) : fx W (r2 + 1) d 0 615 [5, 2, 1186, 1274, fI i, x5, x6] [] g Q := by
  have sr : ∀ k : Int, 0 ≤ k → k < W.N → fR (s k.toNat) := fun k k0 k1 => (hs.2 k.toNat (by omega)).1
  refine fx_la 1 616 (v := 2) (by decide +kernel) rfl (by decide +kernel) ?_
  refine fx_la 0 617 (v := 5) (by decide +kernel) rfl (by decide +kernel) ?_
  refine fx_li 4 619 (by decide +kernel) rfl ?_
  refine fx_ci (1) 620 (by decide +kernel) ?_
  refine fx_add 621 (by decide +kernel) rfl ?_
  refine fx_scr 622 hs (by decide +kernel) rfl (by omega) (by omega) ?_
  refine fx_la 3 623 (v := 1274) (by decide +kernel) rfl (by decide +kernel) ?_
  have sA := sr (i + 1) (by omega) (by omega)
  obtain ⟨e1, e2⟩ := f_qm_ok (W := W) (L := [5, 2, 1186, 1274, fI i, x5, x6]) (g := g) (S := [1274, fI (s (i + 1).toNat), 2]) (rest := []) (mi := 0) (pc := 623) (mj := 149) (n := 3) (op := 22) (a := 2) (av' := [fI (s (i + 1).toNat), 1274]) (by decide +kernel) (by decide +kernel) (fun K => rfl) (fun t => absurd t (by decide))
  refine fx_callW (a := 1) (b := b) (r1 := 1) (r2 := r2) hl (by omega) (by omega) e1 e2 (by decide +kernel) (dj := 42) hd (pc' := 626) rfl (Lj := [2, fI (s (i + 1).toNat), 1274, 7]) (f_xp (t2_w1 (by decide) (by decide)) (show 3 ≤ _ by decide +kernel)) ?_
  generalize eA : s (i + 1).toNat = A at *
  have wk : fx (fWl W 1) 1 42 149 0 [2, fI A, 1274, 7] [] g (fun k v g1 => (k = 1 ∧ ∃ zc, v = fI zc ∧ 0 ≤ zc ∧ zc ≤ 3 ∧ HM A zc g1) ∧ gHs g1) := by
    rw [← w1]
    refine fx_hs (W := fWl W 1) (cav := [2, fI A, 1274]) hvW hI.1 (by rw [w2]; exact ⟨ax_Aq_p (by decide), ax_Aq_i _, ax_Aq_p (by decide), True.intro⟩) w3 (by rw [w1]; exact f_xp (t2_w1 (by decide) (by decide)) (show 3 ≤ _ by decide +kernel)) (Nat.le_refl 1) w4 ?_
    rw [w1]
    exact hw A sA
  refine wk.mono (fun k v g1 h => ⟨h.1.1, ?_⟩)
  obtain ⟨⟨-, z, hz, z0, z2, hM⟩, hs1⟩ := h
  subst hz
  have hs : fScr (fWl W b) s := hs
  have hiN : i + 6 ≤ ((fWl W b).N : Int) := hiN
  refine fx_si 5 628 (by decide +kernel) (Or.inr (fI_n4 _)) rfl ?_
  dsimp only [List.set]
  refine fx_la 2 629 (v := 1186) (by decide +kernel) rfl (by decide +kernel) ?_
  refine fx_la 0 630 (v := 5) (by decide +kernel) rfl (by decide +kernel) ?_
  refine fx_li 4 632 (by decide +kernel) rfl ?_
  refine fx_ci (1) 633 (by decide +kernel) ?_
  refine fx_add 634 (by decide +kernel) rfl ?_
  refine fx_scr 635 hs (by decide +kernel) rfl (by omega) (by omega) ?_
  refine fx_c2 318 21 638 42 [] (by decide +kernel) (by decide) (by decide) (fI_n4 _) rfl (by first | decide | omega) ?_
  rw [eA]
  have mk : fx (fWl (fWl W b) 0) r2 42 318 0 [1186, fI A] [] g1 (fun k w g2 => PMa g1 z k w g2 ∧ gHs g2) := by
    rw [← m1]
    refine fx_hs (W := fWl (fWl W b) 0) (cav := [1186, fI A]) hvM hs1 (by rw [m2]; exact ⟨ax_Aq_p (by decide), ax_Aq_i _, True.intro⟩) m3 (by rw [m1]; exact f_xp (t2_m1 (by decide)) (show 2 ≤ _ by decide +kernel)) hr m4 ?_
    rw [m1]
    exact hm A sA z g1 hM
  refine mk.mono (fun k w g2 h => ?_)
  obtain ⟨⟨hk2, zw, hzw, zwR, hLI, hth, hou, hoo⟩, hs2⟩ := h
  subst hk2
  subst hzw
  refine fK1 ?_
  refine fx_si 6 640 (by decide +kernel) (Or.inr (fI_n4 _)) rfl ?_
  dsimp only [List.set]
  refine fx_go 1962 (by decide +kernel) ?_
  refine fx_inc 4 1965 6 (by decide +kernel) rfl (Or.inr (f_n4p (v := 1274) rfl (by decide))) rfl ?_
  dsimp only [List.set]
  exact fx_go 23 (by decide +kernel) (kq g2 _ _ ⟨hs2, hLI⟩ (fI_n4 _) (fI_n4 _))
theorem la_9 {cW cM : ax_C} {b r2 d : Nat} {s : Nat → Int} {i : Int} {x5 x6 : Nat} (hs : fScr W s) (hvW : ax_Valid W.N W.sy cW) (w1 : cW.1 = 149) (w2 : cW.2.2.1 = [(0, 2, 0), (1, 0, 4294967295), (0, 1274, 0)]) (w3 : cW.2.2.2.1 = []) (w4 : cW.2.1 ≤ 42)
    (hvM : ax_Valid W.N W.sy cM) (m1 : cM.1 = 318) (m2 : cM.2.2.1 = [(0, 1186, 0), (1, 0, 4294967295)]) (m3 : cM.2.2.2.1 = []) (m4 : cM.2.1 ≤ 42) (hd : 43 ≤ d) (hl : 1 + b ≤ W.lim) (hr : 1 ≤ r2) (hi0 : 0 ≤ i) (hi1 : i ≤ 3072) (hiN : i + 6 ≤ W.N) (hI : LInv2 g)
    (kq : ∀ g' x5 x6, LInv2 g' → x5 % 8 ≠ 4 → x6 % 8 ≠ 4 → fx (fWl W b) r2 d 0 23 [5, 2, 1186, 1274, fI (i + 6), x5, x6] [] g' Q) : fx W (r2 + 1) d 0 615 [5, 2, 1186, 1274, fI i, x5, x6] [] g Q := by
  refine fx_LB2 hI.1 (fun hB => ?_)
  exact la_9_g hs hvW w1 w2 w3 w4 hvM m1 m2 m3 m4 hd hl hr hi0 hi1 hiN hI (fun A zc g1 => HM_leave g A zc g1) (fun A sA => fx.up (sp_w_leave (W := fWl W 1) (Nat.le_refl 1) sA hI.2 hB) (Nat.le_refl 1) (by decide)) (fun A sA zc g1 hM => fx.up (sp_r_leave sA hI.2 hB hM) (Nat.le_refl _) (by decide)) kq
theorem la_10_g {cW cM : ax_C} {b r2 d : Nat} {s : Nat → Int} {i : Int} {x5 x6 : Nat} (hs : fScr W s) (hvW : ax_Valid W.N W.sy cW) (w1 : cW.1 = 154) (w2 : cW.2.2.1 = [(0, 2, 0), (1, 0, 4294967295), (0, 1274, 0)]) (w3 : cW.2.2.2.1 = []) (w4 : cW.2.1 ≤ 42)
    (hvM : ax_Valid W.N W.sy cM) (m1 : cM.1 = 323) (m2 : cM.2.2.1 = [(0, 1186, 0), (1, 0, 4294967295)]) (m3 : cM.2.2.2.1 = []) (m4 : cM.2.1 ≤ 42) (hd : 43 ≤ d) (hl : 1 + b ≤ W.lim) (hr : 1 ≤ r2) (hi0 : 0 ≤ i) (hi1 : i ≤ 3072) (hiN : i + 6 ≤ W.N) (hI : LInv2 g)
    (HM : Int → Int → (Nat → Nat → Int) → Prop)
    (hw : ∀ A : Int, fR A → fx (fWl W 1) 1 42 154 0 [2, fI A, 1274, 7] [] g (fun k v g1 => k = 1 ∧ ∃ zc, v = fI zc ∧ 0 ≤ zc ∧ zc ≤ 3 ∧ HM A zc g1))
    (hm : ∀ A : Int, fR A → ∀ zc g1, HM A zc g1 → fx (fWl (fWl W b) 0) r2 42 323 0 [1186, fI A] [] g1 (PMa g1 zc))
    (kq : ∀ g' x5 x6, LInv2 g' → x5 % 8 ≠ 4 → x6 % 8 ≠ 4 → fx (fWl W b) r2 d 0 23 [5, 2, 1186, 1274, fI (i + 6), x5, x6] [] g' Q) : fx W (r2 + 1) d 0 643 [5, 2, 1186, 1274, fI i, x5, x6] [] g Q := by
  have sr : ∀ k : Int, 0 ≤ k → k < W.N → fR (s k.toNat) := fun k k0 k1 => (hs.2 k.toNat (by omega)).1
  refine fx_la 1 644 (v := 2) (by decide +kernel) rfl (by decide +kernel) ?_
  refine fx_la 0 645 (v := 5) (by decide +kernel) rfl (by decide +kernel) ?_
  refine fx_li 4 647 (by decide +kernel) rfl ?_
  refine fx_ci (1) 648 (by decide +kernel) ?_
  refine fx_add 649 (by decide +kernel) rfl ?_
  refine fx_scr 650 hs (by decide +kernel) rfl (by omega) (by omega) ?_
  refine fx_la 3 651 (v := 1274) (by decide +kernel) rfl (by decide +kernel) ?_
  have sA := sr (i + 1) (by omega) (by omega)
  obtain ⟨e1, e2⟩ := f_qm_ok (W := W) (L := [5, 2, 1186, 1274, fI i, x5, x6]) (g := g) (S := [1274, fI (s (i + 1).toNat), 2]) (rest := []) (mi := 0) (pc := 651) (mj := 154) (n := 3) (op := 22) (a := 2) (av' := [fI (s (i + 1).toNat), 1274]) (by decide +kernel) (by decide +kernel) (fun K => rfl) (fun t => absurd t (by decide))
  refine fx_callW (a := 1) (b := b) (r1 := 1) (r2 := r2) hl (by omega) (by omega) e1 e2 (by decide +kernel) (dj := 42) hd (pc' := 654) rfl (Lj := [2, fI (s (i + 1).toNat), 1274, 7]) (f_xp (t2_w1 (by decide) (by decide)) (show 3 ≤ _ by decide +kernel)) ?_
  generalize eA : s (i + 1).toNat = A at *
  have wk : fx (fWl W 1) 1 42 154 0 [2, fI A, 1274, 7] [] g (fun k v g1 => (k = 1 ∧ ∃ zc, v = fI zc ∧ 0 ≤ zc ∧ zc ≤ 3 ∧ HM A zc g1) ∧ gHs g1) := by
    rw [← w1]
    refine fx_hs (W := fWl W 1) (cav := [2, fI A, 1274]) hvW hI.1 (by rw [w2]; exact ⟨ax_Aq_p (by decide), ax_Aq_i _, ax_Aq_p (by decide), True.intro⟩) w3 (by rw [w1]; exact f_xp (t2_w1 (by decide) (by decide)) (show 3 ≤ _ by decide +kernel)) (Nat.le_refl 1) w4 ?_
    rw [w1]
    exact hw A sA
  refine wk.mono (fun k v g1 h => ⟨h.1.1, ?_⟩)
  obtain ⟨⟨-, z, hz, z0, z2, hM⟩, hs1⟩ := h
  subst hz
  have hs : fScr (fWl W b) s := hs
  have hiN : i + 6 ≤ ((fWl W b).N : Int) := hiN
  refine fx_si 5 656 (by decide +kernel) (Or.inr (fI_n4 _)) rfl ?_
  dsimp only [List.set]
  refine fx_la 2 657 (v := 1186) (by decide +kernel) rfl (by decide +kernel) ?_
  refine fx_la 0 658 (v := 5) (by decide +kernel) rfl (by decide +kernel) ?_
  refine fx_li 4 660 (by decide +kernel) rfl ?_
  refine fx_ci (1) 661 (by decide +kernel) ?_
  refine fx_add 662 (by decide +kernel) rfl ?_
  refine fx_scr 663 hs (by decide +kernel) rfl (by omega) (by omega) ?_
  refine fx_c2 323 21 666 42 [] (by decide +kernel) (by decide) (by decide) (fI_n4 _) rfl (by first | decide | omega) ?_
  rw [eA]
  have mk : fx (fWl (fWl W b) 0) r2 42 323 0 [1186, fI A] [] g1 (fun k w g2 => PMa g1 z k w g2 ∧ gHs g2) := by
    rw [← m1]
    refine fx_hs (W := fWl (fWl W b) 0) (cav := [1186, fI A]) hvM hs1 (by rw [m2]; exact ⟨ax_Aq_p (by decide), ax_Aq_i _, True.intro⟩) m3 (by rw [m1]; exact f_xp (t2_m1 (by decide)) (show 2 ≤ _ by decide +kernel)) hr m4 ?_
    rw [m1]
    exact hm A sA z g1 hM
  refine mk.mono (fun k w g2 h => ?_)
  obtain ⟨⟨hk2, zw, hzw, zwR, hLI, hth, hou, hoo⟩, hs2⟩ := h
  subst hk2
  subst hzw
  refine fK1 ?_
  refine fx_si 6 668 (by decide +kernel) (Or.inr (fI_n4 _)) rfl ?_
  dsimp only [List.set]
  refine fx_go 1962 (by decide +kernel) ?_
  refine fx_inc 4 1965 6 (by decide +kernel) rfl (Or.inr (f_n4p (v := 1274) rfl (by decide))) rfl ?_
  dsimp only [List.set]
  exact fx_go 23 (by decide +kernel) (kq g2 _ _ ⟨hs2, hLI⟩ (fI_n4 _) (fI_n4 _))
theorem la_10 {cW cM : ax_C} {b r2 d : Nat} {s : Nat → Int} {i : Int} {x5 x6 : Nat} (hs : fScr W s) (hvW : ax_Valid W.N W.sy cW) (w1 : cW.1 = 154) (w2 : cW.2.2.1 = [(0, 2, 0), (1, 0, 4294967295), (0, 1274, 0)]) (w3 : cW.2.2.2.1 = []) (w4 : cW.2.1 ≤ 42)
    (hvM : ax_Valid W.N W.sy cM) (m1 : cM.1 = 323) (m2 : cM.2.2.1 = [(0, 1186, 0), (1, 0, 4294967295)]) (m3 : cM.2.2.2.1 = []) (m4 : cM.2.1 ≤ 42) (hd : 43 ≤ d) (hl : 1 + b ≤ W.lim) (hr : 1 ≤ r2) (hi0 : 0 ≤ i) (hi1 : i ≤ 3072) (hiN : i + 6 ≤ W.N) (hI : LInv2 g)
    (kq : ∀ g' x5 x6, LInv2 g' → x5 % 8 ≠ 4 → x6 % 8 ≠ 4 → fx (fWl W b) r2 d 0 23 [5, 2, 1186, 1274, fI (i + 6), x5, x6] [] g' Q) : fx W (r2 + 1) d 0 643 [5, 2, 1186, 1274, fI i, x5, x6] [] g Q := by
  refine fx_LB2 hI.1 (fun hB => ?_)
  exact la_10_g hs hvW w1 w2 w3 w4 hvM m1 m2 m3 m4 hd hl hr hi0 hi1 hiN hI (fun A zc g1 => HM_home g A zc g1) (fun A sA => fx.up (sp_w_home (W := fWl W 1) (Nat.le_refl 1) sA hI.2 hB) (Nat.le_refl 1) (by decide)) (fun A sA zc g1 hM => fx.up (sp_r_home sA hI.2 hB hM) (Nat.le_refl _) (by decide)) kq
theorem la_11_g {cW cM : ax_C} {b r2 d : Nat} {s : Nat → Int} {i : Int} {x5 x6 : Nat} (hs : fScr W s) (hvW : ax_Valid W.N W.sy cW) (w1 : cW.1 = 159) (w2 : cW.2.2.1 = [(0, 2, 0), (1, 0, 4294967295), (0, 1274, 0)]) (w3 : cW.2.2.2.1 = []) (w4 : cW.2.1 ≤ 42)
    (hvM : ax_Valid W.N W.sy cM) (m1 : cM.1 = 324) (m2 : cM.2.2.1 = [(0, 1186, 0), (1, 0, 4294967295)]) (m3 : cM.2.2.2.1 = []) (m4 : cM.2.1 ≤ 42) (hd : 43 ≤ d) (hl : 1 + b ≤ W.lim) (hr : 1 ≤ r2) (hi0 : 0 ≤ i) (hi1 : i ≤ 3072) (hiN : i + 6 ≤ W.N) (hI : LInv2 g)
    (HM : Int → Int → (Nat → Nat → Int) → Prop)
    (hw : ∀ A : Int, fR A → fx (fWl W 1) 1 42 159 0 [2, fI A, 1274, 7] [] g (fun k v g1 => k = 1 ∧ ∃ zc, v = fI zc ∧ 0 ≤ zc ∧ zc ≤ 3 ∧ HM A zc g1))
    (hm : ∀ A : Int, fR A → ∀ zc g1, HM A zc g1 → fx (fWl (fWl W b) 0) r2 42 324 0 [1186, fI A] [] g1 (PMa g1 zc))
    (kq : ∀ g' x5 x6, LInv2 g' → x5 % 8 ≠ 4 → x6 % 8 ≠ 4 → fx (fWl W b) r2 d 0 23 [5, 2, 1186, 1274, fI (i + 6), x5, x6] [] g' Q) : fx W (r2 + 1) d 0 671 [5, 2, 1186, 1274, fI i, x5, x6] [] g Q := by
  have sr : ∀ k : Int, 0 ≤ k → k < W.N → fR (s k.toNat) := fun k k0 k1 => (hs.2 k.toNat (by omega)).1
  refine fx_la 1 672 (v := 2) (by decide +kernel) rfl (by decide +kernel) ?_
  refine fx_la 0 673 (v := 5) (by decide +kernel) rfl (by decide +kernel) ?_
  refine fx_li 4 675 (by decide +kernel) rfl ?_
  refine fx_ci (1) 676 (by decide +kernel) ?_
  refine fx_add 677 (by decide +kernel) rfl ?_
  refine fx_scr 678 hs (by decide +kernel) rfl (by omega) (by omega) ?_
  refine fx_la 3 679 (v := 1274) (by decide +kernel) rfl (by decide +kernel) ?_
  have sA := sr (i + 1) (by omega) (by omega)
  obtain ⟨e1, e2⟩ := f_qm_ok (W := W) (L := [5, 2, 1186, 1274, fI i, x5, x6]) (g := g) (S := [1274, fI (s (i + 1).toNat), 2]) (rest := []) (mi := 0) (pc := 679) (mj := 159) (n := 3) (op := 22) (a := 2) (av' := [fI (s (i + 1).toNat), 1274]) (by decide +kernel) (by decide +kernel) (fun K => rfl) (fun t => absurd t (by decide))
  refine fx_callW (a := 1) (b := b) (r1 := 1) (r2 := r2) hl (by omega) (by omega) e1 e2 (by decide +kernel) (dj := 42) hd (pc' := 682) rfl (Lj := [2, fI (s (i + 1).toNat), 1274, 7]) (f_xp (t2_w1 (by decide) (by decide)) (show 3 ≤ _ by decide +kernel)) ?_
  generalize eA : s (i + 1).toNat = A at *
  have wk : fx (fWl W 1) 1 42 159 0 [2, fI A, 1274, 7] [] g (fun k v g1 => (k = 1 ∧ ∃ zc, v = fI zc ∧ 0 ≤ zc ∧ zc ≤ 3 ∧ HM A zc g1) ∧ gHs g1) := by
    rw [← w1]
    refine fx_hs (W := fWl W 1) (cav := [2, fI A, 1274]) hvW hI.1 (by rw [w2]; exact ⟨ax_Aq_p (by decide), ax_Aq_i _, ax_Aq_p (by decide), True.intro⟩) w3 (by rw [w1]; exact f_xp (t2_w1 (by decide) (by decide)) (show 3 ≤ _ by decide +kernel)) (Nat.le_refl 1) w4 ?_
    rw [w1]
    exact hw A sA
  refine wk.mono (fun k v g1 h => ⟨h.1.1, ?_⟩)
  obtain ⟨⟨-, z, hz, z0, z2, hM⟩, hs1⟩ := h
  subst hz
  have hs : fScr (fWl W b) s := hs
  have hiN : i + 6 ≤ ((fWl W b).N : Int) := hiN
  refine fx_si 5 684 (by decide +kernel) (Or.inr (fI_n4 _)) rfl ?_
  dsimp only [List.set]
  refine fx_la 2 685 (v := 1186) (by decide +kernel) rfl (by decide +kernel) ?_
  refine fx_la 0 686 (v := 5) (by decide +kernel) rfl (by decide +kernel) ?_
  refine fx_li 4 688 (by decide +kernel) rfl ?_
  refine fx_ci (1) 689 (by decide +kernel) ?_
  refine fx_add 690 (by decide +kernel) rfl ?_
  refine fx_scr 691 hs (by decide +kernel) rfl (by omega) (by omega) ?_
  refine fx_c2 324 21 694 42 [] (by decide +kernel) (by decide) (by decide) (fI_n4 _) rfl (by first | decide | omega) ?_
  rw [eA]
  have mk : fx (fWl (fWl W b) 0) r2 42 324 0 [1186, fI A] [] g1 (fun k w g2 => PMa g1 z k w g2 ∧ gHs g2) := by
    rw [← m1]
    refine fx_hs (W := fWl (fWl W b) 0) (cav := [1186, fI A]) hvM hs1 (by rw [m2]; exact ⟨ax_Aq_p (by decide), ax_Aq_i _, True.intro⟩) m3 (by rw [m1]; exact f_xp (t2_m1 (by decide)) (show 2 ≤ _ by decide +kernel)) hr m4 ?_
    rw [m1]
    exact hm A sA z g1 hM
  refine mk.mono (fun k w g2 h => ?_)
  obtain ⟨⟨hk2, zw, hzw, zwR, hLI, hth, hou, hoo⟩, hs2⟩ := h
  subst hk2
  subst hzw
  refine fK1 ?_
  refine fx_si 6 696 (by decide +kernel) (Or.inr (fI_n4 _)) rfl ?_
  dsimp only [List.set]
  refine fx_go 1962 (by decide +kernel) ?_
  refine fx_inc 4 1965 6 (by decide +kernel) rfl (Or.inr (f_n4p (v := 1274) rfl (by decide))) rfl ?_
  dsimp only [List.set]
  exact fx_go 23 (by decide +kernel) (kq g2 _ _ ⟨hs2, hLI⟩ (fI_n4 _) (fI_n4 _))
theorem la_11 {cW cM : ax_C} {b r2 d : Nat} {s : Nat → Int} {i : Int} {x5 x6 : Nat} (hs : fScr W s) (hvW : ax_Valid W.N W.sy cW) (w1 : cW.1 = 159) (w2 : cW.2.2.1 = [(0, 2, 0), (1, 0, 4294967295), (0, 1274, 0)]) (w3 : cW.2.2.2.1 = []) (w4 : cW.2.1 ≤ 42)
    (hvM : ax_Valid W.N W.sy cM) (m1 : cM.1 = 324) (m2 : cM.2.2.1 = [(0, 1186, 0), (1, 0, 4294967295)]) (m3 : cM.2.2.2.1 = []) (m4 : cM.2.1 ≤ 42) (hd : 43 ≤ d) (hl : 1 + b ≤ W.lim) (hr : 1 ≤ r2) (hi0 : 0 ≤ i) (hi1 : i ≤ 3072) (hiN : i + 6 ≤ W.N) (hI : LInv2 g)
    (kq : ∀ g' x5 x6, LInv2 g' → x5 % 8 ≠ 4 → x6 % 8 ≠ 4 → fx (fWl W b) r2 d 0 23 [5, 2, 1186, 1274, fI (i + 6), x5, x6] [] g' Q) : fx W (r2 + 1) d 0 671 [5, 2, 1186, 1274, fI i, x5, x6] [] g Q := by
  refine fx_LB2 hI.1 (fun hB => ?_)
  exact la_11_g hs hvW w1 w2 w3 w4 hvM m1 m2 m3 m4 hd hl hr hi0 hi1 hiN hI (fun A zc g1 => HM_serve g A zc g1) (fun A sA => fx.up (sp_w_serve (W := fWl W 1) (Nat.le_refl 1) sA hI.2 hB) (Nat.le_refl 1) (by decide)) (fun A sA zc g1 hM => fx.up (sp_r_serve sA hI.2 hB hM) (Nat.le_refl _) (by decide)) kq
theorem la_12_g {cW cM : ax_C} {b r2 d : Nat} {s : Nat → Int} {i : Int} {x5 x6 : Nat} (hs : fScr W s) (hvW : ax_Valid W.N W.sy cW) (w1 : cW.1 = 167) (w2 : cW.2.2.1 = [(0, 2, 0), (1, 0, 4294967295), (0, 1274, 0)]) (w3 : cW.2.2.2.1 = []) (w4 : cW.2.1 ≤ 42)
    (hvM : ax_Valid W.N W.sy cM) (m1 : cM.1 = 331) (m2 : cM.2.2.1 = [(0, 1186, 0), (1, 0, 4294967295)]) (m3 : cM.2.2.2.1 = []) (m4 : cM.2.1 ≤ 42) (hd : 43 ≤ d) (hl : 1 + b ≤ W.lim) (hr : 1 ≤ r2) (hi0 : 0 ≤ i) (hi1 : i ≤ 3072) (hiN : i + 6 ≤ W.N) (hI : LInv2 g)
    (HM : Int → Int → (Nat → Nat → Int) → Prop)
    (hw : ∀ A : Int, fR A → fx (fWl W 1) 1 42 167 0 [2, fI A, 1274, 7] [] g (fun k v g1 => k = 1 ∧ ∃ zc, v = fI zc ∧ 0 ≤ zc ∧ zc ≤ 3 ∧ HM A zc g1))
    (hm : ∀ A : Int, fR A → ∀ zc g1, HM A zc g1 → fx (fWl (fWl W b) 0) r2 42 331 0 [1186, fI A] [] g1 (PMa g1 zc))
    (kq : ∀ g' x5 x6, LInv2 g' → x5 % 8 ≠ 4 → x6 % 8 ≠ 4 → fx (fWl W b) r2 d 0 23 [5, 2, 1186, 1274, fI (i + 6), x5, x6] [] g' Q) : fx W (r2 + 1) d 0 699 [5, 2, 1186, 1274, fI i, x5, x6] [] g Q := by
  have sr : ∀ k : Int, 0 ≤ k → k < W.N → fR (s k.toNat) := fun k k0 k1 => (hs.2 k.toNat (by omega)).1
  refine fx_la 1 700 (v := 2) (by decide +kernel) rfl (by decide +kernel) ?_
  refine fx_la 0 701 (v := 5) (by decide +kernel) rfl (by decide +kernel) ?_
  refine fx_li 4 703 (by decide +kernel) rfl ?_
  refine fx_ci (1) 704 (by decide +kernel) ?_
  refine fx_add 705 (by decide +kernel) rfl ?_
  refine fx_scr 706 hs (by decide +kernel) rfl (by omega) (by omega) ?_
  refine fx_la 3 707 (v := 1274) (by decide +kernel) rfl (by decide +kernel) ?_
  have sA := sr (i + 1) (by omega) (by omega)
  obtain ⟨e1, e2⟩ := f_qm_ok (W := W) (L := [5, 2, 1186, 1274, fI i, x5, x6]) (g := g) (S := [1274, fI (s (i + 1).toNat), 2]) (rest := []) (mi := 0) (pc := 707) (mj := 167) (n := 3) (op := 22) (a := 2) (av' := [fI (s (i + 1).toNat), 1274]) (by decide +kernel) (by decide +kernel) (fun K => rfl) (fun t => absurd t (by decide))
  refine fx_callW (a := 1) (b := b) (r1 := 1) (r2 := r2) hl (by omega) (by omega) e1 e2 (by decide +kernel) (dj := 42) hd (pc' := 710) rfl (Lj := [2, fI (s (i + 1).toNat), 1274, 7]) (f_xp (t2_w1 (by decide) (by decide)) (show 3 ≤ _ by decide +kernel)) ?_
  generalize eA : s (i + 1).toNat = A at *
  have wk : fx (fWl W 1) 1 42 167 0 [2, fI A, 1274, 7] [] g (fun k v g1 => (k = 1 ∧ ∃ zc, v = fI zc ∧ 0 ≤ zc ∧ zc ≤ 3 ∧ HM A zc g1) ∧ gHs g1) := by
    rw [← w1]
    refine fx_hs (W := fWl W 1) (cav := [2, fI A, 1274]) hvW hI.1 (by rw [w2]; exact ⟨ax_Aq_p (by decide), ax_Aq_i _, ax_Aq_p (by decide), True.intro⟩) w3 (by rw [w1]; exact f_xp (t2_w1 (by decide) (by decide)) (show 3 ≤ _ by decide +kernel)) (Nat.le_refl 1) w4 ?_
    rw [w1]
    exact hw A sA
  refine wk.mono (fun k v g1 h => ⟨h.1.1, ?_⟩)
  obtain ⟨⟨-, z, hz, z0, z2, hM⟩, hs1⟩ := h
  subst hz
  have hs : fScr (fWl W b) s := hs
  have hiN : i + 6 ≤ ((fWl W b).N : Int) := hiN
  refine fx_si 5 712 (by decide +kernel) (Or.inr (fI_n4 _)) rfl ?_
  dsimp only [List.set]
  refine fx_la 2 713 (v := 1186) (by decide +kernel) rfl (by decide +kernel) ?_
  refine fx_la 0 714 (v := 5) (by decide +kernel) rfl (by decide +kernel) ?_
  refine fx_li 4 716 (by decide +kernel) rfl ?_
  refine fx_ci (1) 717 (by decide +kernel) ?_
  refine fx_add 718 (by decide +kernel) rfl ?_
  refine fx_scr 719 hs (by decide +kernel) rfl (by omega) (by omega) ?_
  refine fx_c2 331 21 722 42 [] (by decide +kernel) (by decide) (by decide) (fI_n4 _) rfl (by first | decide | omega) ?_
  rw [eA]
  have mk : fx (fWl (fWl W b) 0) r2 42 331 0 [1186, fI A] [] g1 (fun k w g2 => PMa g1 z k w g2 ∧ gHs g2) := by
    rw [← m1]
    refine fx_hs (W := fWl (fWl W b) 0) (cav := [1186, fI A]) hvM hs1 (by rw [m2]; exact ⟨ax_Aq_p (by decide), ax_Aq_i _, True.intro⟩) m3 (by rw [m1]; exact f_xp (t2_m1 (by decide)) (show 2 ≤ _ by decide +kernel)) hr m4 ?_
    rw [m1]
    exact hm A sA z g1 hM
  refine mk.mono (fun k w g2 h => ?_)
  obtain ⟨⟨hk2, zw, hzw, zwR, hLI, hth, hou, hoo⟩, hs2⟩ := h
  subst hk2
  subst hzw
  refine fK1 ?_
  refine fx_si 6 724 (by decide +kernel) (Or.inr (fI_n4 _)) rfl ?_
  dsimp only [List.set]
  refine fx_go 1962 (by decide +kernel) ?_
  refine fx_inc 4 1965 6 (by decide +kernel) rfl (Or.inr (f_n4p (v := 1274) rfl (by decide))) rfl ?_
  dsimp only [List.set]
  exact fx_go 23 (by decide +kernel) (kq g2 _ _ ⟨hs2, hLI⟩ (fI_n4 _) (fI_n4 _))
theorem la_12 {cW cM : ax_C} {b r2 d : Nat} {s : Nat → Int} {i : Int} {x5 x6 : Nat} (hs : fScr W s) (hvW : ax_Valid W.N W.sy cW) (w1 : cW.1 = 167) (w2 : cW.2.2.1 = [(0, 2, 0), (1, 0, 4294967295), (0, 1274, 0)]) (w3 : cW.2.2.2.1 = []) (w4 : cW.2.1 ≤ 42)
    (hvM : ax_Valid W.N W.sy cM) (m1 : cM.1 = 331) (m2 : cM.2.2.1 = [(0, 1186, 0), (1, 0, 4294967295)]) (m3 : cM.2.2.2.1 = []) (m4 : cM.2.1 ≤ 42) (hd : 43 ≤ d) (hl : 1 + b ≤ W.lim) (hr : 1 ≤ r2) (hi0 : 0 ≤ i) (hi1 : i ≤ 3072) (hiN : i + 6 ≤ W.N) (hI : LInv2 g)
    (kq : ∀ g' x5 x6, LInv2 g' → x5 % 8 ≠ 4 → x6 % 8 ≠ 4 → fx (fWl W b) r2 d 0 23 [5, 2, 1186, 1274, fI (i + 6), x5, x6] [] g' Q) : fx W (r2 + 1) d 0 699 [5, 2, 1186, 1274, fI i, x5, x6] [] g Q := by
  refine fx_LB2 hI.1 (fun hB => ?_)
  exact la_12_g hs hvW w1 w2 w3 w4 hvM m1 m2 m3 m4 hd hl hr hi0 hi1 hiN hI (fun A zc g1 => HM_off g A zc g1) (fun A sA => fx.up (sp_w_off (W := fWl W 1) (Nat.le_refl 1) sA hI.2 hB) (Nat.le_refl 1) (by decide)) (fun A sA zc g1 hM => fx.up (sp_r_off sA hI.2 hB hM) (Nat.le_refl _) (by decide)) kq
theorem la_13_g {cW cM : ax_C} {b r2 d : Nat} {s : Nat → Int} {i : Int} {x5 x6 : Nat} (hs : fScr W s) (hvW : ax_Valid W.N W.sy cW) (w1 : cW.1 = 169) (w2 : cW.2.2.1 = [(0, 2, 0), (1, 0, 4294967295), (0, 1274, 0)]) (w3 : cW.2.2.2.1 = []) (w4 : cW.2.1 ≤ 42)
    (hvM : ax_Valid W.N W.sy cM) (m1 : cM.1 = 332) (m2 : cM.2.2.1 = [(0, 1186, 0), (1, 0, 4294967295)]) (m3 : cM.2.2.2.1 = []) (m4 : cM.2.1 ≤ 42) (hd : 43 ≤ d) (hl : 1 + b ≤ W.lim) (hr : 1 ≤ r2) (hi0 : 0 ≤ i) (hi1 : i ≤ 3072) (hiN : i + 6 ≤ W.N) (hI : LInv2 g)
    (HM : Int → Int → (Nat → Nat → Int) → Prop)
    (hw : ∀ A : Int, fR A → fx (fWl W 1) 1 42 169 0 [2, fI A, 1274, 7] [] g (fun k v g1 => k = 1 ∧ ∃ zc, v = fI zc ∧ 0 ≤ zc ∧ zc ≤ 3 ∧ HM A zc g1))
    (hm : ∀ A : Int, fR A → ∀ zc g1, HM A zc g1 → fx (fWl (fWl W b) 0) r2 42 332 0 [1186, fI A, 7] [] g1 (PMa g1 zc))
    (kq : ∀ g' x5 x6, LInv2 g' → x5 % 8 ≠ 4 → x6 % 8 ≠ 4 → fx (fWl W b) r2 d 0 23 [5, 2, 1186, 1274, fI (i + 6), x5, x6] [] g' Q) : fx W (r2 + 1) d 0 727 [5, 2, 1186, 1274, fI i, x5, x6] [] g Q := by
  have sr : ∀ k : Int, 0 ≤ k → k < W.N → fR (s k.toNat) := fun k k0 k1 => (hs.2 k.toNat (by omega)).1
  refine fx_la 1 728 (v := 2) (by decide +kernel) rfl (by decide +kernel) ?_
  refine fx_la 0 729 (v := 5) (by decide +kernel) rfl (by decide +kernel) ?_
  refine fx_li 4 731 (by decide +kernel) rfl ?_
  refine fx_ci (1) 732 (by decide +kernel) ?_
  refine fx_add 733 (by decide +kernel) rfl ?_
  refine fx_scr 734 hs (by decide +kernel) rfl (by omega) (by omega) ?_
  refine fx_la 3 735 (v := 1274) (by decide +kernel) rfl (by decide +kernel) ?_
  have sA := sr (i + 1) (by omega) (by omega)
  obtain ⟨e1, e2⟩ := f_qm_ok (W := W) (L := [5, 2, 1186, 1274, fI i, x5, x6]) (g := g) (S := [1274, fI (s (i + 1).toNat), 2]) (rest := []) (mi := 0) (pc := 735) (mj := 169) (n := 3) (op := 22) (a := 2) (av' := [fI (s (i + 1).toNat), 1274]) (by decide +kernel) (by decide +kernel) (fun K => rfl) (fun t => absurd t (by decide))
  refine fx_callW (a := 1) (b := b) (r1 := 1) (r2 := r2) hl (by omega) (by omega) e1 e2 (by decide +kernel) (dj := 42) hd (pc' := 738) rfl (Lj := [2, fI (s (i + 1).toNat), 1274, 7]) (f_xp (t2_w1 (by decide) (by decide)) (show 3 ≤ _ by decide +kernel)) ?_
  generalize eA : s (i + 1).toNat = A at *
  have wk : fx (fWl W 1) 1 42 169 0 [2, fI A, 1274, 7] [] g (fun k v g1 => (k = 1 ∧ ∃ zc, v = fI zc ∧ 0 ≤ zc ∧ zc ≤ 3 ∧ HM A zc g1) ∧ gHs g1) := by
    rw [← w1]
    refine fx_hs (W := fWl W 1) (cav := [2, fI A, 1274]) hvW hI.1 (by rw [w2]; exact ⟨ax_Aq_p (by decide), ax_Aq_i _, ax_Aq_p (by decide), True.intro⟩) w3 (by rw [w1]; exact f_xp (t2_w1 (by decide) (by decide)) (show 3 ≤ _ by decide +kernel)) (Nat.le_refl 1) w4 ?_
    rw [w1]
    exact hw A sA
  refine wk.mono (fun k v g1 h => ⟨h.1.1, ?_⟩)
  obtain ⟨⟨-, z, hz, z0, z2, hM⟩, hs1⟩ := h
  subst hz
  have hs : fScr (fWl W b) s := hs
  have hiN : i + 6 ≤ ((fWl W b).N : Int) := hiN
  refine fx_si 5 740 (by decide +kernel) (Or.inr (fI_n4 _)) rfl ?_
  dsimp only [List.set]
  refine fx_la 2 741 (v := 1186) (by decide +kernel) rfl (by decide +kernel) ?_
  refine fx_la 0 742 (v := 5) (by decide +kernel) rfl (by decide +kernel) ?_
  refine fx_li 4 744 (by decide +kernel) rfl ?_
  refine fx_ci (1) 745 (by decide +kernel) ?_
  refine fx_add 746 (by decide +kernel) rfl ?_
  refine fx_scr 747 hs (by decide +kernel) rfl (by omega) (by omega) ?_
  refine fx_c2 332 21 750 42 [7] (by decide +kernel) (by decide) (by decide) (fI_n4 _) rfl (by first | decide | omega) ?_
  rw [eA]
  have mk : fx (fWl (fWl W b) 0) r2 42 332 0 [1186, fI A, 7] [] g1 (fun k w g2 => PMa g1 z k w g2 ∧ gHs g2) := by
    rw [← m1]
    refine fx_hs (W := fWl (fWl W b) 0) (cav := [1186, fI A]) hvM hs1 (by rw [m2]; exact ⟨ax_Aq_p (by decide), ax_Aq_i _, True.intro⟩) m3 (by rw [m1]; exact f_xp (t2_m1 (by decide)) (show 2 ≤ _ by decide +kernel)) hr m4 ?_
    rw [m1]
    exact hm A sA z g1 hM
  refine mk.mono (fun k w g2 h => ?_)
  obtain ⟨⟨hk2, zw, hzw, zwR, hLI, hth, hou, hoo⟩, hs2⟩ := h
  subst hk2
  subst hzw
  refine fK1 ?_
  refine fx_si 6 752 (by decide +kernel) (Or.inr (fI_n4 _)) rfl ?_
  dsimp only [List.set]
  refine fx_go 1962 (by decide +kernel) ?_
  refine fx_inc 4 1965 6 (by decide +kernel) rfl (Or.inr (f_n4p (v := 1274) rfl (by decide))) rfl ?_
  dsimp only [List.set]
  exact fx_go 23 (by decide +kernel) (kq g2 _ _ ⟨hs2, hLI⟩ (fI_n4 _) (fI_n4 _))
theorem la_13 {cW cM : ax_C} {b r2 d : Nat} {s : Nat → Int} {i : Int} {x5 x6 : Nat} (hs : fScr W s) (hvW : ax_Valid W.N W.sy cW) (w1 : cW.1 = 169) (w2 : cW.2.2.1 = [(0, 2, 0), (1, 0, 4294967295), (0, 1274, 0)]) (w3 : cW.2.2.2.1 = []) (w4 : cW.2.1 ≤ 42)
    (hvM : ax_Valid W.N W.sy cM) (m1 : cM.1 = 332) (m2 : cM.2.2.1 = [(0, 1186, 0), (1, 0, 4294967295)]) (m3 : cM.2.2.2.1 = []) (m4 : cM.2.1 ≤ 42) (hd : 43 ≤ d) (hl : 1 + b ≤ W.lim) (hr : 1 ≤ r2) (hi0 : 0 ≤ i) (hi1 : i ≤ 3072) (hiN : i + 6 ≤ W.N) (hI : LInv2 g)
    (kq : ∀ g' x5 x6, LInv2 g' → x5 % 8 ≠ 4 → x6 % 8 ≠ 4 → fx (fWl W b) r2 d 0 23 [5, 2, 1186, 1274, fI (i + 6), x5, x6] [] g' Q) : fx W (r2 + 1) d 0 727 [5, 2, 1186, 1274, fI i, x5, x6] [] g Q := by
  refine fx_LB2 hI.1 (fun hB => ?_)
  refine fx_rg (fun hg => ?_)
  have hrT : ∀ c : Nat, f_al c 8 = true → ∀ p : Nat, p < 8 → fR (g c p) := fun c hc p hp => hgA hg 8 hc hp
  exact la_13_g hs hvW w1 w2 w3 w4 hvM m1 m2 m3 m4 hd hl hr hi0 hi1 hiN hI (fun A zc g1 => HM_rise g A zc g1) (fun A sA => fx.up (sp_w_rise (W := fWl W 1) (Nat.le_refl 1) sA hI.2 hB) (Nat.le_refl 1) (by decide)) (fun A sA zc g1 hM => fx.up (sp_r_rise hrT sA hI.2 hB hM) (Nat.le_refl _) (by decide)) kq
theorem la_14_g {cW cM : ax_C} {b r2 d : Nat} {s : Nat → Int} {i : Int} {x5 x6 : Nat} (hs : fScr W s) (hvW : ax_Valid W.N W.sy cW) (w1 : cW.1 = 171) (w2 : cW.2.2.1 = [(0, 2, 0), (1, 0, 4294967295), (1, 0, 4294967295), (0, 1274, 0)]) (w3 : cW.2.2.2.1 = []) (w4 : cW.2.1 ≤ 42)
    (hvM : ax_Valid W.N W.sy cM) (m1 : cM.1 = 333) (m2 : cM.2.2.1 = [(0, 1186, 0), (1, 0, 4294967295), (1, 0, 4294967295)]) (m3 : cM.2.2.2.1 = []) (m4 : cM.2.1 ≤ 42) (hd : 43 ≤ d) (hl : 1 + b ≤ W.lim) (hr : 1 ≤ r2) (hi0 : 0 ≤ i) (hi1 : i ≤ 3072) (hiN : i + 6 ≤ W.N) (hI : LInv2 g)
    (HM : Int → Int → Int → (Nat → Nat → Int) → Prop)
    (hw : ∀ A B : Int, fR A → fR B → fx (fWl W 1) 1 42 171 0 [2, fI A, fI B, 1274, 7] [] g (fun k v g1 => k = 1 ∧ ∃ zc, v = fI zc ∧ 0 ≤ zc ∧ zc ≤ 3 ∧ HM A B zc g1))
    (hm : ∀ A B : Int, fR A → fR B → ∀ zc g1, HM A B zc g1 → fx (fWl (fWl W b) 0) r2 42 333 0 [1186, fI A, fI B] [] g1 (PMa g1 zc))
    (kq : ∀ g' x5 x6, LInv2 g' → x5 % 8 ≠ 4 → x6 % 8 ≠ 4 → fx (fWl W b) r2 d 0 23 [5, 2, 1186, 1274, fI (i + 6), x5, x6] [] g' Q) : fx W (r2 + 1) d 0 755 [5, 2, 1186, 1274, fI i, x5, x6] [] g Q := by
  have sr : ∀ k : Int, 0 ≤ k → k < W.N → fR (s k.toNat) := fun k k0 k1 => (hs.2 k.toNat (by omega)).1
  refine fx_la 1 756 (v := 2) (by decide +kernel) rfl (by decide +kernel) ?_
  refine fx_la 0 757 (v := 5) (by decide +kernel) rfl (by decide +kernel) ?_
  refine fx_li 4 759 (by decide +kernel) rfl ?_
  refine fx_ci (1) 760 (by decide +kernel) ?_
  refine fx_add 761 (by decide +kernel) rfl ?_
  refine fx_scr 762 hs (by decide +kernel) rfl (by omega) (by omega) ?_
  refine fx_la 0 763 (v := 5) (by decide +kernel) rfl (by decide +kernel) ?_
  refine fx_li 4 765 (by decide +kernel) rfl ?_
  refine fx_ci (2) 766 (by decide +kernel) ?_
  refine fx_add 767 (by decide +kernel) rfl ?_
  refine fx_scr 768 hs (by decide +kernel) rfl (by omega) (by omega) ?_
  refine fx_la 3 769 (v := 1274) (by decide +kernel) rfl (by decide +kernel) ?_
  have sA := sr (i + 1) (by omega) (by omega)
  have sB := sr (i + 2) (by omega) (by omega)
  obtain ⟨e1, e2⟩ := f_qm_ok (W := W) (L := [5, 2, 1186, 1274, fI i, x5, x6]) (g := g) (S := [1274, fI (s (i + 2).toNat), fI (s (i + 1).toNat), 2]) (rest := []) (mi := 0) (pc := 769) (mj := 171) (n := 4) (op := 22) (a := 2) (av' := [fI (s (i + 1).toNat), fI (s (i + 2).toNat), 1274]) (by decide +kernel) (by decide +kernel) (fun K => rfl) (fun t => absurd t (by decide))
  refine fx_callW (a := 1) (b := b) (r1 := 1) (r2 := r2) hl (by omega) (by omega) e1 e2 (by decide +kernel) (dj := 42) hd (pc' := 772) rfl (Lj := [2, fI (s (i + 1).toNat), fI (s (i + 2).toNat), 1274, 7]) (f_xp (t2_w2 (by decide) (by decide)) (show 4 ≤ _ by decide +kernel)) ?_
  generalize eA : s (i + 1).toNat = A at *
  generalize eB : s (i + 2).toNat = B at *
  have wk : fx (fWl W 1) 1 42 171 0 [2, fI A, fI B, 1274, 7] [] g (fun k v g1 => (k = 1 ∧ ∃ zc, v = fI zc ∧ 0 ≤ zc ∧ zc ≤ 3 ∧ HM A B zc g1) ∧ gHs g1) := by
    rw [← w1]
    refine fx_hs (W := fWl W 1) (cav := [2, fI A, fI B, 1274]) hvW hI.1 (by rw [w2]; exact ⟨ax_Aq_p (by decide), ax_Aq_i _, ax_Aq_i _, ax_Aq_p (by decide), True.intro⟩) w3 (by rw [w1]; exact f_xp (t2_w2 (by decide) (by decide)) (show 4 ≤ _ by decide +kernel)) (Nat.le_refl 1) w4 ?_
    rw [w1]
    exact hw A B sA sB
  refine wk.mono (fun k v g1 h => ⟨h.1.1, ?_⟩)
  obtain ⟨⟨-, z, hz, z0, z2, hM⟩, hs1⟩ := h
  subst hz
  have hs : fScr (fWl W b) s := hs
  have hiN : i + 6 ≤ ((fWl W b).N : Int) := hiN
  refine fx_si 5 774 (by decide +kernel) (Or.inr (fI_n4 _)) rfl ?_
  dsimp only [List.set]
  refine fx_la 2 775 (v := 1186) (by decide +kernel) rfl (by decide +kernel) ?_
  refine fx_la 0 776 (v := 5) (by decide +kernel) rfl (by decide +kernel) ?_
  refine fx_li 4 778 (by decide +kernel) rfl ?_
  refine fx_ci (1) 779 (by decide +kernel) ?_
  refine fx_add 780 (by decide +kernel) rfl ?_
  refine fx_scr 781 hs (by decide +kernel) rfl (by omega) (by omega) ?_
  refine fx_la 0 782 (v := 5) (by decide +kernel) rfl (by decide +kernel) ?_
  refine fx_li 4 784 (by decide +kernel) rfl ?_
  refine fx_ci (2) 785 (by decide +kernel) ?_
  refine fx_add 786 (by decide +kernel) rfl ?_
  refine fx_scr 787 hs (by decide +kernel) rfl (by omega) (by omega) ?_
  refine fx_c3 333 21 790 42 [] (by decide +kernel) (by decide) (by decide) (fI_n4 _) (fI_n4 _) rfl (by first | decide | omega) ?_
  rw [eA]
  rw [eB]
  have mk : fx (fWl (fWl W b) 0) r2 42 333 0 [1186, fI A, fI B] [] g1 (fun k w g2 => PMa g1 z k w g2 ∧ gHs g2) := by
    rw [← m1]
    refine fx_hs (W := fWl (fWl W b) 0) (cav := [1186, fI A, fI B]) hvM hs1 (by rw [m2]; exact ⟨ax_Aq_p (by decide), ax_Aq_i _, ax_Aq_i _, True.intro⟩) m3 (by rw [m1]; exact f_xp (t2_m2 (by decide)) (show 3 ≤ _ by decide +kernel)) hr m4 ?_
    rw [m1]
    exact hm A B sA sB z g1 hM
  refine mk.mono (fun k w g2 h => ?_)
  obtain ⟨⟨hk2, zw, hzw, zwR, hLI, hth, hou, hoo⟩, hs2⟩ := h
  subst hk2
  subst hzw
  refine fK1 ?_
  refine fx_si 6 792 (by decide +kernel) (Or.inr (fI_n4 _)) rfl ?_
  dsimp only [List.set]
  refine fx_go 1962 (by decide +kernel) ?_
  refine fx_inc 4 1965 6 (by decide +kernel) rfl (Or.inr (f_n4p (v := 1274) rfl (by decide))) rfl ?_
  dsimp only [List.set]
  exact fx_go 23 (by decide +kernel) (kq g2 _ _ ⟨hs2, hLI⟩ (fI_n4 _) (fI_n4 _))
theorem la_14 {cW cM : ax_C} {b r2 d : Nat} {s : Nat → Int} {i : Int} {x5 x6 : Nat} (hs : fScr W s) (hvW : ax_Valid W.N W.sy cW) (w1 : cW.1 = 171) (w2 : cW.2.2.1 = [(0, 2, 0), (1, 0, 4294967295), (1, 0, 4294967295), (0, 1274, 0)]) (w3 : cW.2.2.2.1 = []) (w4 : cW.2.1 ≤ 42)
    (hvM : ax_Valid W.N W.sy cM) (m1 : cM.1 = 333) (m2 : cM.2.2.1 = [(0, 1186, 0), (1, 0, 4294967295), (1, 0, 4294967295)]) (m3 : cM.2.2.2.1 = []) (m4 : cM.2.1 ≤ 42) (hd : 43 ≤ d) (hl : 1 + b ≤ W.lim) (hr : 1 ≤ r2) (hi0 : 0 ≤ i) (hi1 : i ≤ 3072) (hiN : i + 6 ≤ W.N) (hI : LInv2 g)
    (kq : ∀ g' x5 x6, LInv2 g' → x5 % 8 ≠ 4 → x6 % 8 ≠ 4 → fx (fWl W b) r2 d 0 23 [5, 2, 1186, 1274, fI (i + 6), x5, x6] [] g' Q) : fx W (r2 + 1) d 0 755 [5, 2, 1186, 1274, fI i, x5, x6] [] g Q := by
  refine fx_LB2 hI.1 (fun hB => ?_)
  refine fx_rg (fun hg => ?_)
  have hrT : ∀ c : Nat, f_al c 8 = true → ∀ p : Nat, p < 8 → fR (g c p) := fun c hc p hp => hgA hg 8 hc hp
  exact la_14_g hs hvW w1 w2 w3 w4 hvM m1 m2 m3 m4 hd hl hr hi0 hi1 hiN hI (fun A B zc g1 => HM_vote g A B zc g1) (fun A B sA sB => fx.up (sp_w_vote (W := fWl W 1) (Nat.le_refl 1) sA sB hI.2 hB) (Nat.le_refl 1) (by decide)) (fun A B sA sB zc g1 hM => fx.up (sp_r_vote hrT sA sB hI.2 hB hM) (Nat.le_refl _) (by decide)) kq
theorem la_15_g {cW cM : ax_C} {b r2 d : Nat} {s : Nat → Int} {i : Int} {x5 x6 : Nat} (hs : fScr W s) (hvW : ax_Valid W.N W.sy cW) (w1 : cW.1 = 174) (w2 : cW.2.2.1 = [(0, 2, 0), (1, 0, 4294967295), (1, 0, 4294967295), (0, 1274, 0)]) (w3 : cW.2.2.2.1 = []) (w4 : cW.2.1 ≤ 42)
    (hvM : ax_Valid W.N W.sy cM) (m1 : cM.1 = 335) (m2 : cM.2.2.1 = [(0, 1186, 0), (1, 0, 4294967295), (1, 0, 4294967295)]) (m3 : cM.2.2.2.1 = []) (m4 : cM.2.1 ≤ 42) (hd : 43 ≤ d) (hl : 1 + b ≤ W.lim) (hr : 1 ≤ r2) (hi0 : 0 ≤ i) (hi1 : i ≤ 3072) (hiN : i + 6 ≤ W.N) (hI : LInv2 g)
    (HM : Int → Int → Int → (Nat → Nat → Int) → Prop)
    (hw : ∀ A B : Int, fR A → fR B → fx (fWl W 1) 1 42 174 0 [2, fI A, fI B, 1274, 7] [] g (fun k v g1 => k = 1 ∧ ∃ zc, v = fI zc ∧ 0 ≤ zc ∧ zc ≤ 3 ∧ HM A B zc g1))
    (hm : ∀ A B : Int, fR A → fR B → ∀ zc g1, HM A B zc g1 → fx (fWl (fWl W b) 0) r2 42 335 0 [1186, fI A, fI B] [] g1 (PMa g1 zc))
    (kq : ∀ g' x5 x6, LInv2 g' → x5 % 8 ≠ 4 → x6 % 8 ≠ 4 → fx (fWl W b) r2 d 0 23 [5, 2, 1186, 1274, fI (i + 6), x5, x6] [] g' Q) : fx W (r2 + 1) d 0 795 [5, 2, 1186, 1274, fI i, x5, x6] [] g Q := by
  have sr : ∀ k : Int, 0 ≤ k → k < W.N → fR (s k.toNat) := fun k k0 k1 => (hs.2 k.toNat (by omega)).1
  refine fx_la 1 796 (v := 2) (by decide +kernel) rfl (by decide +kernel) ?_
  refine fx_la 0 797 (v := 5) (by decide +kernel) rfl (by decide +kernel) ?_
  refine fx_li 4 799 (by decide +kernel) rfl ?_
  refine fx_ci (1) 800 (by decide +kernel) ?_
  refine fx_add 801 (by decide +kernel) rfl ?_
  refine fx_scr 802 hs (by decide +kernel) rfl (by omega) (by omega) ?_
  refine fx_la 0 803 (v := 5) (by decide +kernel) rfl (by decide +kernel) ?_
  refine fx_li 4 805 (by decide +kernel) rfl ?_
  refine fx_ci (2) 806 (by decide +kernel) ?_
  refine fx_add 807 (by decide +kernel) rfl ?_
  refine fx_scr 808 hs (by decide +kernel) rfl (by omega) (by omega) ?_
  refine fx_la 3 809 (v := 1274) (by decide +kernel) rfl (by decide +kernel) ?_
  have sA := sr (i + 1) (by omega) (by omega)
  have sB := sr (i + 2) (by omega) (by omega)
  obtain ⟨e1, e2⟩ := f_qm_ok (W := W) (L := [5, 2, 1186, 1274, fI i, x5, x6]) (g := g) (S := [1274, fI (s (i + 2).toNat), fI (s (i + 1).toNat), 2]) (rest := []) (mi := 0) (pc := 809) (mj := 174) (n := 4) (op := 22) (a := 2) (av' := [fI (s (i + 1).toNat), fI (s (i + 2).toNat), 1274]) (by decide +kernel) (by decide +kernel) (fun K => rfl) (fun t => absurd t (by decide))
  refine fx_callW (a := 1) (b := b) (r1 := 1) (r2 := r2) hl (by omega) (by omega) e1 e2 (by decide +kernel) (dj := 42) hd (pc' := 812) rfl (Lj := [2, fI (s (i + 1).toNat), fI (s (i + 2).toNat), 1274, 7]) (f_xp (t2_w2 (by decide) (by decide)) (show 4 ≤ _ by decide +kernel)) ?_
  generalize eA : s (i + 1).toNat = A at *
  generalize eB : s (i + 2).toNat = B at *
  have wk : fx (fWl W 1) 1 42 174 0 [2, fI A, fI B, 1274, 7] [] g (fun k v g1 => (k = 1 ∧ ∃ zc, v = fI zc ∧ 0 ≤ zc ∧ zc ≤ 3 ∧ HM A B zc g1) ∧ gHs g1) := by
    rw [← w1]
    refine fx_hs (W := fWl W 1) (cav := [2, fI A, fI B, 1274]) hvW hI.1 (by rw [w2]; exact ⟨ax_Aq_p (by decide), ax_Aq_i _, ax_Aq_i _, ax_Aq_p (by decide), True.intro⟩) w3 (by rw [w1]; exact f_xp (t2_w2 (by decide) (by decide)) (show 4 ≤ _ by decide +kernel)) (Nat.le_refl 1) w4 ?_
    rw [w1]
    exact hw A B sA sB
  refine wk.mono (fun k v g1 h => ⟨h.1.1, ?_⟩)
  obtain ⟨⟨-, z, hz, z0, z2, hM⟩, hs1⟩ := h
  subst hz
  have hs : fScr (fWl W b) s := hs
  have hiN : i + 6 ≤ ((fWl W b).N : Int) := hiN
  refine fx_si 5 814 (by decide +kernel) (Or.inr (fI_n4 _)) rfl ?_
  dsimp only [List.set]
  refine fx_la 2 815 (v := 1186) (by decide +kernel) rfl (by decide +kernel) ?_
  refine fx_la 0 816 (v := 5) (by decide +kernel) rfl (by decide +kernel) ?_
  refine fx_li 4 818 (by decide +kernel) rfl ?_
  refine fx_ci (1) 819 (by decide +kernel) ?_
  refine fx_add 820 (by decide +kernel) rfl ?_
  refine fx_scr 821 hs (by decide +kernel) rfl (by omega) (by omega) ?_
  refine fx_la 0 822 (v := 5) (by decide +kernel) rfl (by decide +kernel) ?_
  refine fx_li 4 824 (by decide +kernel) rfl ?_
  refine fx_ci (2) 825 (by decide +kernel) ?_
  refine fx_add 826 (by decide +kernel) rfl ?_
  refine fx_scr 827 hs (by decide +kernel) rfl (by omega) (by omega) ?_
  refine fx_c3 335 21 830 42 [] (by decide +kernel) (by decide) (by decide) (fI_n4 _) (fI_n4 _) rfl (by first | decide | omega) ?_
  rw [eA]
  rw [eB]
  have mk : fx (fWl (fWl W b) 0) r2 42 335 0 [1186, fI A, fI B] [] g1 (fun k w g2 => PMa g1 z k w g2 ∧ gHs g2) := by
    rw [← m1]
    refine fx_hs (W := fWl (fWl W b) 0) (cav := [1186, fI A, fI B]) hvM hs1 (by rw [m2]; exact ⟨ax_Aq_p (by decide), ax_Aq_i _, ax_Aq_i _, True.intro⟩) m3 (by rw [m1]; exact f_xp (t2_m2 (by decide)) (show 3 ≤ _ by decide +kernel)) hr m4 ?_
    rw [m1]
    exact hm A B sA sB z g1 hM
  refine mk.mono (fun k w g2 h => ?_)
  obtain ⟨⟨hk2, zw, hzw, zwR, hLI, hth, hou, hoo⟩, hs2⟩ := h
  subst hk2
  subst hzw
  refine fK1 ?_
  refine fx_si 6 832 (by decide +kernel) (Or.inr (fI_n4 _)) rfl ?_
  dsimp only [List.set]
  refine fx_go 1962 (by decide +kernel) ?_
  refine fx_inc 4 1965 6 (by decide +kernel) rfl (Or.inr (f_n4p (v := 1274) rfl (by decide))) rfl ?_
  dsimp only [List.set]
  exact fx_go 23 (by decide +kernel) (kq g2 _ _ ⟨hs2, hLI⟩ (fI_n4 _) (fI_n4 _))
theorem la_15 {cW cM : ax_C} {b r2 d : Nat} {s : Nat → Int} {i : Int} {x5 x6 : Nat} (hs : fScr W s) (hvW : ax_Valid W.N W.sy cW) (w1 : cW.1 = 174) (w2 : cW.2.2.1 = [(0, 2, 0), (1, 0, 4294967295), (1, 0, 4294967295), (0, 1274, 0)]) (w3 : cW.2.2.2.1 = []) (w4 : cW.2.1 ≤ 42)
    (hvM : ax_Valid W.N W.sy cM) (m1 : cM.1 = 335) (m2 : cM.2.2.1 = [(0, 1186, 0), (1, 0, 4294967295), (1, 0, 4294967295)]) (m3 : cM.2.2.2.1 = []) (m4 : cM.2.1 ≤ 42) (hd : 43 ≤ d) (hl : 1 + b ≤ W.lim) (hr : 1 ≤ r2) (hi0 : 0 ≤ i) (hi1 : i ≤ 3072) (hiN : i + 6 ≤ W.N) (hI : LInv2 g)
    (kq : ∀ g' x5 x6, LInv2 g' → x5 % 8 ≠ 4 → x6 % 8 ≠ 4 → fx (fWl W b) r2 d 0 23 [5, 2, 1186, 1274, fI (i + 6), x5, x6] [] g' Q) : fx W (r2 + 1) d 0 795 [5, 2, 1186, 1274, fI i, x5, x6] [] g Q := by
  refine fx_LB2 hI.1 (fun hB => ?_)
  refine fx_rg (fun hg => ?_)
  have hrT : ∀ c : Nat, f_al c 8 = true → ∀ p : Nat, p < 8 → fR (g c p) := fun c hc p hp => hgA hg 8 hc hp
  exact la_15_g hs hvW w1 w2 w3 w4 hvM m1 m2 m3 m4 hd hl hr hi0 hi1 hiN hI (fun A B zc g1 => HM_promise g A B zc g1) (fun A B sA sB => fx.up (sp_w_promise (W := fWl W 1) (Nat.le_refl 1) sA sB hI.2 hB) (Nat.le_refl 1) (by decide)) (fun A B sA sB zc g1 hM => fx.up (sp_r_promise hrT sA sB hI.2 hB hM) (Nat.le_refl _) (by decide)) kq
theorem la_16_g {cW cM : ax_C} {b r2 d : Nat} {s : Nat → Int} {i : Int} {x5 x6 : Nat} (hs : fScr W s) (hvW : ax_Valid W.N W.sy cW) (w1 : cW.1 = 176) (w2 : cW.2.2.1 = [(0, 2, 0), (1, 0, 4294967295), (0, 1274, 0)]) (w3 : cW.2.2.2.1 = []) (w4 : cW.2.1 ≤ 42)
    (hvM : ax_Valid W.N W.sy cM) (m1 : cM.1 = 336) (m2 : cM.2.2.1 = [(0, 1186, 0), (1, 0, 4294967295)]) (m3 : cM.2.2.2.1 = []) (m4 : cM.2.1 ≤ 42) (hd : 43 ≤ d) (hl : 1 + b ≤ W.lim) (hr : 1 ≤ r2) (hi0 : 0 ≤ i) (hi1 : i ≤ 3072) (hiN : i + 6 ≤ W.N) (hI : LInv2 g)
    (HM : Int → Int → (Nat → Nat → Int) → Prop)
    (hw : ∀ A : Int, fR A → fx (fWl W 1) 1 42 176 0 [2, fI A, 1274, 7] [] g (fun k v g1 => k = 1 ∧ ∃ zc, v = fI zc ∧ 0 ≤ zc ∧ zc ≤ 3 ∧ HM A zc g1))
    (hm : ∀ A : Int, fR A → ∀ zc g1, HM A zc g1 → fx (fWl (fWl W b) 0) r2 42 336 0 [1186, fI A] [] g1 (PMa g1 zc))
    (kq : ∀ g' x5 x6, LInv2 g' → x5 % 8 ≠ 4 → x6 % 8 ≠ 4 → fx (fWl W b) r2 d 0 23 [5, 2, 1186, 1274, fI (i + 6), x5, x6] [] g' Q) : fx W (r2 + 1) d 0 835 [5, 2, 1186, 1274, fI i, x5, x6] [] g Q := by
  have sr : ∀ k : Int, 0 ≤ k → k < W.N → fR (s k.toNat) := fun k k0 k1 => (hs.2 k.toNat (by omega)).1
  refine fx_la 1 836 (v := 2) (by decide +kernel) rfl (by decide +kernel) ?_
  refine fx_la 0 837 (v := 5) (by decide +kernel) rfl (by decide +kernel) ?_
  refine fx_li 4 839 (by decide +kernel) rfl ?_
  refine fx_ci (1) 840 (by decide +kernel) ?_
  refine fx_add 841 (by decide +kernel) rfl ?_
  refine fx_scr 842 hs (by decide +kernel) rfl (by omega) (by omega) ?_
  refine fx_la 3 843 (v := 1274) (by decide +kernel) rfl (by decide +kernel) ?_
  have sA := sr (i + 1) (by omega) (by omega)
  obtain ⟨e1, e2⟩ := f_qm_ok (W := W) (L := [5, 2, 1186, 1274, fI i, x5, x6]) (g := g) (S := [1274, fI (s (i + 1).toNat), 2]) (rest := []) (mi := 0) (pc := 843) (mj := 176) (n := 3) (op := 22) (a := 2) (av' := [fI (s (i + 1).toNat), 1274]) (by decide +kernel) (by decide +kernel) (fun K => rfl) (fun t => absurd t (by decide))
  refine fx_callW (a := 1) (b := b) (r1 := 1) (r2 := r2) hl (by omega) (by omega) e1 e2 (by decide +kernel) (dj := 42) hd (pc' := 846) rfl (Lj := [2, fI (s (i + 1).toNat), 1274, 7]) (f_xp (t2_w1 (by decide) (by decide)) (show 3 ≤ _ by decide +kernel)) ?_
  generalize eA : s (i + 1).toNat = A at *
  have wk : fx (fWl W 1) 1 42 176 0 [2, fI A, 1274, 7] [] g (fun k v g1 => (k = 1 ∧ ∃ zc, v = fI zc ∧ 0 ≤ zc ∧ zc ≤ 3 ∧ HM A zc g1) ∧ gHs g1) := by
    rw [← w1]
    refine fx_hs (W := fWl W 1) (cav := [2, fI A, 1274]) hvW hI.1 (by rw [w2]; exact ⟨ax_Aq_p (by decide), ax_Aq_i _, ax_Aq_p (by decide), True.intro⟩) w3 (by rw [w1]; exact f_xp (t2_w1 (by decide) (by decide)) (show 3 ≤ _ by decide +kernel)) (Nat.le_refl 1) w4 ?_
    rw [w1]
    exact hw A sA
  refine wk.mono (fun k v g1 h => ⟨h.1.1, ?_⟩)
  obtain ⟨⟨-, z, hz, z0, z2, hM⟩, hs1⟩ := h
  subst hz
  have hs : fScr (fWl W b) s := hs
  have hiN : i + 6 ≤ ((fWl W b).N : Int) := hiN
  refine fx_si 5 848 (by decide +kernel) (Or.inr (fI_n4 _)) rfl ?_
  dsimp only [List.set]
  refine fx_la 2 849 (v := 1186) (by decide +kernel) rfl (by decide +kernel) ?_
  refine fx_la 0 850 (v := 5) (by decide +kernel) rfl (by decide +kernel) ?_
  refine fx_li 4 852 (by decide +kernel) rfl ?_
  refine fx_ci (1) 853 (by decide +kernel) ?_
  refine fx_add 854 (by decide +kernel) rfl ?_
  refine fx_scr 855 hs (by decide +kernel) rfl (by omega) (by omega) ?_
  refine fx_c2 336 21 858 42 [] (by decide +kernel) (by decide) (by decide) (fI_n4 _) rfl (by first | decide | omega) ?_
  rw [eA]
  have mk : fx (fWl (fWl W b) 0) r2 42 336 0 [1186, fI A] [] g1 (fun k w g2 => PMa g1 z k w g2 ∧ gHs g2) := by
    rw [← m1]
    refine fx_hs (W := fWl (fWl W b) 0) (cav := [1186, fI A]) hvM hs1 (by rw [m2]; exact ⟨ax_Aq_p (by decide), ax_Aq_i _, True.intro⟩) m3 (by rw [m1]; exact f_xp (t2_m1 (by decide)) (show 2 ≤ _ by decide +kernel)) hr m4 ?_
    rw [m1]
    exact hm A sA z g1 hM
  refine mk.mono (fun k w g2 h => ?_)
  obtain ⟨⟨hk2, zw, hzw, zwR, hLI, hth, hou, hoo⟩, hs2⟩ := h
  subst hk2
  subst hzw
  refine fK1 ?_
  refine fx_si 6 860 (by decide +kernel) (Or.inr (fI_n4 _)) rfl ?_
  dsimp only [List.set]
  refine fx_go 1962 (by decide +kernel) ?_
  refine fx_inc 4 1965 6 (by decide +kernel) rfl (Or.inr (f_n4p (v := 1274) rfl (by decide))) rfl ?_
  dsimp only [List.set]
  exact fx_go 23 (by decide +kernel) (kq g2 _ _ ⟨hs2, hLI⟩ (fI_n4 _) (fI_n4 _))
theorem la_16 {cW cM : ax_C} {b r2 d : Nat} {s : Nat → Int} {i : Int} {x5 x6 : Nat} (hs : fScr W s) (hvW : ax_Valid W.N W.sy cW) (w1 : cW.1 = 176) (w2 : cW.2.2.1 = [(0, 2, 0), (1, 0, 4294967295), (0, 1274, 0)]) (w3 : cW.2.2.2.1 = []) (w4 : cW.2.1 ≤ 42)
    (hvM : ax_Valid W.N W.sy cM) (m1 : cM.1 = 336) (m2 : cM.2.2.1 = [(0, 1186, 0), (1, 0, 4294967295)]) (m3 : cM.2.2.2.1 = []) (m4 : cM.2.1 ≤ 42) (hd : 43 ≤ d) (hl : 1 + b ≤ W.lim) (hr : 1 ≤ r2) (hi0 : 0 ≤ i) (hi1 : i ≤ 3072) (hiN : i + 6 ≤ W.N) (hI : LInv2 g)
    (kq : ∀ g' x5 x6, LInv2 g' → x5 % 8 ≠ 4 → x6 % 8 ≠ 4 → fx (fWl W b) r2 d 0 23 [5, 2, 1186, 1274, fI (i + 6), x5, x6] [] g' Q) : fx W (r2 + 1) d 0 835 [5, 2, 1186, 1274, fI i, x5, x6] [] g Q := by
  refine fx_LB2 hI.1 (fun hB => ?_)
  exact la_16_g hs hvW w1 w2 w3 w4 hvM m1 m2 m3 m4 hd hl hr hi0 hi1 hiN hI (fun A zc g1 => HM_nights g A zc g1) (fun A sA => fx.up (sp_w_nights (W := fWl W 1) (Nat.le_refl 1) sA hI.2 hB) (Nat.le_refl 1) (by decide)) (fun A sA zc g1 hM => fx.up (sp_r_nights sA hI.2 hB hM) (Nat.le_refl _) (by decide)) kq
theorem la_56 {cW cM : ax_C} {r2 d : Nat} {s : Nat → Int} {i : Int} {x5 x6 : Nat} (hs : fScr W s) (hvW : ax_Valid W.N W.sy cW) (w1 : cW.1 = 61) (w2 : cW.2.2.1 = [(0, 2, 0), (1, 0, 4294967295)]) (w3 : cW.2.2.2.1 = []) (w4 : cW.2.1 ≤ 42)
    (hvM : ax_Valid W.N W.sy cM) (m1 : cM.1 = 406) (m2 : cM.2.2.1 = [(0, 1186, 0), (1, 0, 4294967295)]) (m3 : cM.2.2.2.1 = []) (m4 : cM.2.1 ≤ 42) (hd : 43 ≤ d) (hr : 1 ≤ r2) (hi0 : 0 ≤ i) (hi1 : i ≤ 3072) (hiN : i + 6 ≤ W.N) (hI : LInv2 g) (h5 : x5 % 8 ≠ 4) (h6 : x6 % 8 ≠ 4)
    (kq : ∀ g' x5 x6, LInv2 g' → x5 % 8 ≠ 4 → x6 % 8 ≠ 4 → fx W r2 d 0 23 [5, 2, 1186, 1274, fI (i + 6), x5, x6] [] g' Q) : fx W r2 d 0 1875 [5, 2, 1186, 1274, fI i, x5, x6] [] g Q := by
  refine fx_LB2 hI.1 (fun hB => ?_)
  have sr : ∀ k : Int, 0 ≤ k → k < W.N → fR (s k.toNat) := fun k k0 k1 => (hs.2 k.toNat (by omega)).1
  refine fx_la 1 1876 (v := 2) (by decide +kernel) rfl (by decide +kernel) ?_
  refine fx_la 0 1877 (v := 5) (by decide +kernel) rfl (by decide +kernel) ?_
  refine fx_li 4 1879 (by decide +kernel) rfl ?_
  refine fx_ci (1) 1880 (by decide +kernel) ?_
  refine fx_add 1881 (by decide +kernel) rfl ?_
  refine fx_scr 1882 hs (by decide +kernel) rfl (by omega) (by omega) ?_
  refine fx_c2 61 21 1885 42 [7] (by decide +kernel) (by decide) (by decide) (fI_n4 _) rfl (by first | decide | omega) ?_
  have wk : fx (fWl W 0) r2 42 61 0 [2, fI (s (i + 1).toNat), 7] [] g (fun k v g1 => (k = 1 ∧ ∃ zv, v = fI zv ∧ fR zv ∧ HM_seed g (s (i + 1).toNat) zv g1) ∧ gHs g1) := by
    rw [← w1]
    refine fx_hs (W := fWl W 0) (cav := [2, fI (s (i + 1).toNat)]) hvW hI.1 (by rw [w2]; exact ⟨ax_Aq_p (by decide), ax_Aq_i _, True.intro⟩) w3 (by rw [w1]; exact f_xp (t2_m1 (by decide)) (show 2 ≤ _ by decide +kernel)) hr w4 ?_
    rw [w1]
    exact fx.up (sp_w_seed (sr (i + 1) (by omega) (by omega))) (Nat.le_refl _) (by decide)
  refine wk.mono (fun k v g1 h => ?_)
  obtain ⟨⟨hk1, zv, hz, hzR, hM⟩, hs1⟩ := h
  subst hk1
  subst hz
  refine fK1 ?_
  refine fx_pop 1886 (by decide +kernel) rfl (fI_n4 _) ?_
  refine fx_la 2 1887 (v := 1186) (by decide +kernel) rfl (by decide +kernel) ?_
  refine fx_la 0 1888 (v := 5) (by decide +kernel) rfl (by decide +kernel) ?_
  refine fx_li 4 1890 (by decide +kernel) rfl ?_
  refine fx_ci (1) 1891 (by decide +kernel) ?_
  refine fx_add 1892 (by decide +kernel) rfl ?_
  refine fx_scr 1893 hs (by decide +kernel) rfl (by omega) (by omega) ?_
  refine fx_c2 406 21 1896 42 [7] (by decide +kernel) (by decide) (by decide) (fI_n4 _) rfl (by first | decide | omega) ?_
  have mk : fx (fWl W 0) r2 42 406 0 [1186, fI (s (i + 1).toNat), 7] [] g1 (fun k v g2 => (k = 1 ∧ v = fI zv ∧ fR zv ∧ LI g2) ∧ gHs g2) := by
    rw [← m1]
    refine fx_hs (W := fWl W 0) (cav := [1186, fI (s (i + 1).toNat)]) hvM hs1 (by rw [m2]; exact ⟨ax_Aq_p (by decide), ax_Aq_i _, True.intro⟩) m3 (by rw [m1]; exact f_xp (t2_m1 (by decide)) (show 2 ≤ _ by decide +kernel)) hr m4 ?_
    rw [m1]
    exact fx.up (sp_r_seed (sr (i + 1) (by omega) (by omega)) hI.2 hB hzR hM) (Nat.le_refl _) (by decide)
  refine mk.mono (fun k v g2 h => ?_)
  obtain ⟨⟨hk3, hz2, -, hLI⟩, hs2⟩ := h
  subst hk3
  subst hz2
  refine fK1 ?_
  refine fx_pop 1897 (by decide +kernel) rfl (fI_n4 _) ?_
  refine fx_go 1962 (by decide +kernel) ?_
  refine fx_inc 4 1965 6 (by decide +kernel) rfl (Or.inr (f_n4p (v := 1274) rfl (by decide))) rfl ?_
  dsimp only [List.set]
  exact fx_go 23 (by decide +kernel) (kq g2 x5 x6 ⟨hs2, hLI⟩ h5 h6)
theorem la_57 {cW cM : ax_C} {r2 d : Nat} {s : Nat → Int} {i : Int} {x5 x6 : Nat} (hs : fScr W s) (hvW : ax_Valid W.N W.sy cW) (w1 : cW.1 = 62) (w2 : cW.2.2.1 = [(0, 2, 0)]) (w3 : cW.2.2.2.1 = []) (w4 : cW.2.1 ≤ 42)
    (hvM : ax_Valid W.N W.sy cM) (m1 : cM.1 = 407) (m2 : cM.2.2.1 = [(0, 1186, 0)]) (m3 : cM.2.2.2.1 = []) (m4 : cM.2.1 ≤ 42) (hd : 43 ≤ d) (hr : 1 ≤ r2) (hi0 : 0 ≤ i) (hi1 : i ≤ 3072) (hiN : i + 6 ≤ W.N) (hI : LInv2 g) (h5 : x5 % 8 ≠ 4) (h6 : x6 % 8 ≠ 4)
    (kq : ∀ g' x5 x6, LInv2 g' → x5 % 8 ≠ 4 → x6 % 8 ≠ 4 → fx W r2 d 0 23 [5, 2, 1186, 1274, fI (i + 6), x5, x6] [] g' Q) : fx W r2 d 0 1900 [5, 2, 1186, 1274, fI i, x5, x6] [] g Q := by
  refine fx_LB2 hI.1 (fun hB => ?_)
  have sr : ∀ k : Int, 0 ≤ k → k < W.N → fR (s k.toNat) := fun k k0 k1 => (hs.2 k.toNat (by omega)).1
  refine fx_la 1 1901 (v := 2) (by decide +kernel) rfl (by decide +kernel) ?_
  refine fx_c1 62 21 1904 42 [] (by decide +kernel) (by decide) rfl (by first | decide | omega) ?_
  have wk : fx (fWl W 0) r2 42 62 0 [2] [] g (fun k v g1 => (k = 1 ∧ ∃ zv, v = fI zv ∧ fR zv ∧ HM_undo g zv g1) ∧ gHs g1) := by
    rw [← w1]
    refine fx_hs (W := fWl W 0) (cav := [2]) hvW hI.1 (by rw [w2]; exact ⟨ax_Aq_p (by decide), True.intro⟩) w3 (by rw [w1]; exact f_xp (t2_m0 (by decide)) (show 1 ≤ _ by decide +kernel)) hr w4 ?_
    rw [w1]
    exact fx.up (sp_w_undo hB) (Nat.le_refl _) (by decide)
  refine wk.mono (fun k v g1 h => ?_)
  obtain ⟨⟨hk1, zv, hz, hzR, hM⟩, hs1⟩ := h
  subst hk1
  subst hz
  refine fK1 ?_
  refine fx_pop 1905 (by decide +kernel) rfl (fI_n4 _) ?_
  refine fx_la 2 1906 (v := 1186) (by decide +kernel) rfl (by decide +kernel) ?_
  refine fx_c1 407 21 1909 42 [7] (by decide +kernel) (by decide) rfl (by first | decide | omega) ?_
  have mk : fx (fWl W 0) r2 42 407 0 [1186, 7] [] g1 (fun k v g2 => (k = 1 ∧ v = fI zv ∧ fR zv ∧ LI g2) ∧ gHs g2) := by
    rw [← m1]
    refine fx_hs (W := fWl W 0) (cav := [1186]) hvM hs1 (by rw [m2]; exact ⟨ax_Aq_p (by decide), True.intro⟩) m3 (by rw [m1]; exact f_xp (t2_m0 (by decide)) (show 1 ≤ _ by decide +kernel)) hr m4 ?_
    rw [m1]
    exact fx.up (sp_r_undo hI.2 hB hM) (Nat.le_refl _) (by decide)
  refine mk.mono (fun k v g2 h => ?_)
  obtain ⟨⟨hk3, hz2, -, hLI⟩, hs2⟩ := h
  subst hk3
  subst hz2
  refine fK1 ?_
  refine fx_pop 1910 (by decide +kernel) rfl (fI_n4 _) ?_
  refine fx_go 1962 (by decide +kernel) ?_
  refine fx_inc 4 1965 6 (by decide +kernel) rfl (Or.inr (f_n4p (v := 1274) rfl (by decide))) rfl ?_
  dsimp only [List.set]
  exact fx_go 23 (by decide +kernel) (kq g2 x5 x6 ⟨hs2, hLI⟩ h5 h6)
theorem la_58 {cW cM : ax_C} {r2 d : Nat} {s : Nat → Int} {i : Int} {x5 x6 : Nat} (hs : fScr W s) (hvW : ax_Valid W.N W.sy cW) (w1 : cW.1 = 64) (w2 : cW.2.2.1 = [(0, 2, 0)]) (w3 : cW.2.2.2.1 = []) (w4 : cW.2.1 ≤ 42)
    (hvM : ax_Valid W.N W.sy cM) (m1 : cM.1 = 408) (m2 : cM.2.2.1 = [(0, 1186, 0)]) (m3 : cM.2.2.2.1 = []) (m4 : cM.2.1 ≤ 42) (hd : 43 ≤ d) (hr : 1 ≤ r2) (hi0 : 0 ≤ i) (hi1 : i ≤ 3072) (hiN : i + 6 ≤ W.N) (hI : LInv2 g) (h5 : x5 % 8 ≠ 4) (h6 : x6 % 8 ≠ 4)
    (kq : ∀ g' x5 x6, LInv2 g' → x5 % 8 ≠ 4 → x6 % 8 ≠ 4 → fx W r2 d 0 23 [5, 2, 1186, 1274, fI (i + 6), x5, x6] [] g' Q) : fx W r2 d 0 1913 [5, 2, 1186, 1274, fI i, x5, x6] [] g Q := by
  refine fx_LB2 hI.1 (fun hB => ?_)
  have sr : ∀ k : Int, 0 ≤ k → k < W.N → fR (s k.toNat) := fun k k0 k1 => (hs.2 k.toNat (by omega)).1
  refine fx_la 1 1914 (v := 2) (by decide +kernel) rfl (by decide +kernel) ?_
  refine fx_c1 64 21 1917 42 [] (by decide +kernel) (by decide) rfl (by first | decide | omega) ?_
  have wk : fx (fWl W 0) r2 42 64 0 [2] [] g (fun k v g1 => (k = 0 ∧ v = 0 ∧ g1 = cImg g) ∧ gHs g1) := by
    rw [← w1]
    refine fx_hs (W := fWl W 0) (cav := [2]) hvW hI.1 (by rw [w2]; exact ⟨ax_Aq_p (by decide), True.intro⟩) w3 (by rw [w1]; exact f_xp (t2_m0 (by decide)) (show 1 ≤ _ by decide +kernel)) hr w4 ?_
    rw [w1]
    exact fx.up (sp_w_image) (Nat.le_refl _) (by decide)
  refine wk.mono (fun k v g1 h => ?_)
  obtain ⟨⟨hk1, hv0, hM⟩, hs1⟩ := h
  subst hk1
  refine fK0 ?_
  refine fx_la 2 1918 (v := 1186) (by decide +kernel) rfl (by decide +kernel) ?_
  refine fx_c1 408 21 1921 42 [7] (by decide +kernel) (by decide) rfl (by first | decide | omega) ?_
  have mk : fx (fWl W 0) r2 42 408 0 [1186, 7] [] g1 (fun k v g2 => (k = 0 ∧ v = 0 ∧ LI g2) ∧ gHs g2) := by
    rw [← m1]
    refine fx_hs (W := fWl W 0) (cav := [1186]) hvM hs1 (by rw [m2]; exact ⟨ax_Aq_p (by decide), True.intro⟩) m3 (by rw [m1]; exact f_xp (t2_m0 (by decide)) (show 1 ≤ _ by decide +kernel)) hr m4 ?_
    rw [m1]
    exact fx.up (sp_r_image hI.2 hB hM) (Nat.le_refl _) (by decide)
  refine mk.mono (fun k v g2 h => ?_)
  obtain ⟨⟨hk3, hv2, hLI⟩, hs2⟩ := h
  subst hk3
  refine fK0 ?_
  refine fx_go 1962 (by decide +kernel) ?_
  refine fx_inc 4 1965 6 (by decide +kernel) rfl (Or.inr (f_n4p (v := 1274) rfl (by decide))) rfl ?_
  dsimp only [List.set]
  exact fx_go 23 (by decide +kernel) (kq g2 x5 x6 ⟨hs2, hLI⟩ h5 h6)
theorem la_59 {cW cM : ax_C} {r2 d : Nat} {s : Nat → Int} {i : Int} {x5 x6 : Nat} (hs : fScr W s) (hvW : ax_Valid W.N W.sy cW) (w1 : cW.1 = 67) (w2 : cW.2.2.1 = [(0, 2, 0)]) (w3 : cW.2.2.2.1 = []) (w4 : cW.2.1 ≤ 42)
    (hvM : ax_Valid W.N W.sy cM) (m1 : cM.1 = 409) (m2 : cM.2.2.1 = [(0, 1186, 0)]) (m3 : cM.2.2.2.1 = []) (m4 : cM.2.1 ≤ 42) (hd : 43 ≤ d) (hr : 1 ≤ r2) (hi0 : 0 ≤ i) (hi1 : i ≤ 3072) (hiN : i + 6 ≤ W.N) (hI : LInv2 g) (h5 : x5 % 8 ≠ 4) (h6 : x6 % 8 ≠ 4)
    (kq : ∀ g' x5 x6, LInv2 g' → x5 % 8 ≠ 4 → x6 % 8 ≠ 4 → fx W r2 d 0 23 [5, 2, 1186, 1274, fI (i + 6), x5, x6] [] g' Q) : fx W r2 d 0 1924 [5, 2, 1186, 1274, fI i, x5, x6] [] g Q := by
  refine fx_LB2 hI.1 (fun hB => ?_)
  have sr : ∀ k : Int, 0 ≤ k → k < W.N → fR (s k.toNat) := fun k k0 k1 => (hs.2 k.toNat (by omega)).1
  refine fx_la 1 1925 (v := 2) (by decide +kernel) rfl (by decide +kernel) ?_
  refine fx_c1 67 21 1928 42 [] (by decide +kernel) (by decide) rfl (by first | decide | omega) ?_
  have wk : fx (fWl W 0) r2 42 67 0 [2] [] g (fun k v g1 => (k = 1 ∧ ∃ zv, v = fI zv ∧ fR zv ∧ HM_back g zv g1) ∧ gHs g1) := by
    rw [← w1]
    refine fx_hs (W := fWl W 0) (cav := [2]) hvW hI.1 (by rw [w2]; exact ⟨ax_Aq_p (by decide), True.intro⟩) w3 (by rw [w1]; exact f_xp (t2_m0 (by decide)) (show 1 ≤ _ by decide +kernel)) hr w4 ?_
    rw [w1]
    exact fx.up (sp_w_back hB) (Nat.le_refl _) (by decide)
  refine wk.mono (fun k v g1 h => ?_)
  obtain ⟨⟨hk1, zv, hz, hzR, hM⟩, hs1⟩ := h
  subst hk1
  subst hz
  refine fK1 ?_
  refine fx_pop 1929 (by decide +kernel) rfl (fI_n4 _) ?_
  refine fx_la 2 1930 (v := 1186) (by decide +kernel) rfl (by decide +kernel) ?_
  refine fx_c1 409 21 1933 42 [7] (by decide +kernel) (by decide) rfl (by first | decide | omega) ?_
  have mk : fx (fWl W 0) r2 42 409 0 [1186, 7] [] g1 (fun k v g2 => (k = 1 ∧ v = fI zv ∧ fR zv ∧ LI g2) ∧ gHs g2) := by
    rw [← m1]
    refine fx_hs (W := fWl W 0) (cav := [1186]) hvM hs1 (by rw [m2]; exact ⟨ax_Aq_p (by decide), True.intro⟩) m3 (by rw [m1]; exact f_xp (t2_m0 (by decide)) (show 1 ≤ _ by decide +kernel)) hr m4 ?_
    rw [m1]
    exact fx.up (sp_r_back hI.2 hB hM) (Nat.le_refl _) (by decide)
  refine mk.mono (fun k v g2 h => ?_)
  obtain ⟨⟨hk3, hz2, -, hLI⟩, hs2⟩ := h
  subst hk3
  subst hz2
  refine fK1 ?_
  refine fx_pop 1934 (by decide +kernel) rfl (fI_n4 _) ?_
  refine fx_go 1962 (by decide +kernel) ?_
  refine fx_inc 4 1965 6 (by decide +kernel) rfl (Or.inr (f_n4p (v := 1274) rfl (by decide))) rfl ?_
  dsimp only [List.set]
  exact fx_go 23 (by decide +kernel) (kq g2 x5 x6 ⟨hs2, hLI⟩ h5 h6)
theorem la_60 {cW cM : ax_C} {r2 d : Nat} {s : Nat → Int} {i : Int} {x5 x6 : Nat} (hs : fScr W s) (hvW : ax_Valid W.N W.sy cW) (w1 : cW.1 = 68) (w2 : cW.2.2.1 = [(0, 2, 0), (1, 0, 4294967295)]) (w3 : cW.2.2.2.1 = []) (w4 : cW.2.1 ≤ 42)
    (hvM : ax_Valid W.N W.sy cM) (m1 : cM.1 = 410) (m2 : cM.2.2.1 = [(0, 1186, 0), (1, 0, 4294967295)]) (m3 : cM.2.2.2.1 = []) (m4 : cM.2.1 ≤ 42) (hd : 43 ≤ d) (hr : 1 ≤ r2) (hi0 : 0 ≤ i) (hi1 : i ≤ 3072) (hiN : i + 6 ≤ W.N) (hI : LInv2 g) (h5 : x5 % 8 ≠ 4) (h6 : x6 % 8 ≠ 4)
    (kq : ∀ g' x5 x6, LInv2 g' → x5 % 8 ≠ 4 → x6 % 8 ≠ 4 → fx W r2 d 0 23 [5, 2, 1186, 1274, fI (i + 6), x5, x6] [] g' Q) : fx W r2 d 0 1937 [5, 2, 1186, 1274, fI i, x5, x6] [] g Q := by
  refine fx_LB2 hI.1 (fun hB => ?_)
  have sr : ∀ k : Int, 0 ≤ k → k < W.N → fR (s k.toNat) := fun k k0 k1 => (hs.2 k.toNat (by omega)).1
  refine fx_la 1 1938 (v := 2) (by decide +kernel) rfl (by decide +kernel) ?_
  refine fx_la 0 1939 (v := 5) (by decide +kernel) rfl (by decide +kernel) ?_
  refine fx_li 4 1941 (by decide +kernel) rfl ?_
  refine fx_ci (1) 1942 (by decide +kernel) ?_
  refine fx_add 1943 (by decide +kernel) rfl ?_
  refine fx_scr 1944 hs (by decide +kernel) rfl (by omega) (by omega) ?_
  refine fx_c2 68 21 1947 42 [] (by decide +kernel) (by decide) (by decide) (fI_n4 _) rfl (by first | decide | omega) ?_
  have wk : fx (fWl W 0) r2 42 68 0 [2, fI (s (i + 1).toNat)] [] g (fun k v g1 => (k = 1 ∧ ∃ zv, v = fI zv ∧ fR zv ∧ HM_count g (s (i + 1).toNat) zv g1) ∧ gHs g1) := by
    rw [← w1]
    refine fx_hs (W := fWl W 0) (cav := [2, fI (s (i + 1).toNat)]) hvW hI.1 (by rw [w2]; exact ⟨ax_Aq_p (by decide), ax_Aq_i _, True.intro⟩) w3 (by rw [w1]; exact f_xp (t2_m1 (by decide)) (show 2 ≤ _ by decide +kernel)) hr w4 ?_
    rw [w1]
    exact fx.up (sp_w_count (sr (i + 1) (by omega) (by omega)) hI.1 hI.2 hB) (Nat.le_refl _) (by decide)
  refine wk.mono (fun k v g1 h => ?_)
  obtain ⟨⟨hk1, zv, hz, hzR, hM⟩, hs1⟩ := h
  subst hk1
  subst hz
  refine fK1 ?_
  have hzR2 := hzR
  unfold fR at hzR2
  refine fx_la 2 1948 (v := 1186) (by decide +kernel) rfl (by decide +kernel) ?_
  refine fx_la 0 1949 (v := 5) (by decide +kernel) rfl (by decide +kernel) ?_
  refine fx_li 4 1951 (by decide +kernel) rfl ?_
  refine fx_ci (1) 1952 (by decide +kernel) ?_
  refine fx_add 1953 (by decide +kernel) rfl ?_
  refine fx_scr 1954 hs (by decide +kernel) rfl (by omega) (by omega) ?_
  refine fx_c2 410 21 1957 42 [] (by decide +kernel) (by decide) (by decide) (fI_n4 _) rfl (by first | decide | omega) ?_
  have mk : fx (fWl W 0) r2 42 410 0 [1186, fI (s (i + 1).toNat)] [] g1 (fun k v g2 => (k = 1 ∧ v = fI zv ∧ fR zv ∧ LI g2) ∧ gHs g2) := by
    rw [← m1]
    refine fx_hs (W := fWl W 0) (cav := [1186, fI (s (i + 1).toNat)]) hvM hs1 (by rw [m2]; exact ⟨ax_Aq_p (by decide), ax_Aq_i _, True.intro⟩) m3 (by rw [m1]; exact f_xp (t2_m1 (by decide)) (show 2 ≤ _ by decide +kernel)) hr m4 ?_
    rw [m1]
    exact fx.up (sp_r_count (sr (i + 1) (by omega) (by omega)) hI.2 hB hM) (Nat.le_refl _) (by decide)
  refine mk.mono (fun k v g2 h => ?_)
  obtain ⟨⟨hk3, hz2, -, hLI⟩, hs2⟩ := h
  subst hk3
  subst hz2
  refine fK1 ?_
  refine fx_ieq 1962 1960 (by decide +kernel) (by unfold fR; omega) (by unfold fR; omega) (fun h1957 => ?_) (fun h1957 => ?_)
  · refine fx_inc 4 1965 6 (by decide +kernel) rfl (Or.inr (f_n4p (v := 1274) rfl (by decide))) rfl ?_
    dsimp only [List.set]
    exact fx_go 23 (by decide +kernel) (kq g2 x5 x6 ⟨hs2, hLI⟩ h5 h6)
  · exact absurd rfl h1957
end T2LAW
