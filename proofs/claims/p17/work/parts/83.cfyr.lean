/-! fx: the law's case of feed, walked -/
theorem ax_Aq_i (z : Int) : ax_Aq (1, 0, 4294967295) (fI z) := Or.inr (Or.inr ⟨by show (1 : Nat) ≠ 0; decide, by show (1 : Nat) ≠ 2; decide, Int32.ofInt z, fI_eq z, Nat.zero_le _, by have := sx_b_lt (Int32.ofInt z); show sx_b (Int32.ofInt z) ≤ 4294967295; omega⟩)
theorem ax_As_6 {p : Nat} {a b c d e : Int} (hp : 2 ≤ p % 8 ∧ p % 8 ≤ 6 ∧ p < 1280 ∧ (p % 8 = 2 → p / 8 < 160)) : ax_As [(0, p, 0), (1, 0, 4294967295), (1, 0, 4294967295), (1, 0, 4294967295), (1, 0, 4294967295), (1, 0, 4294967295)] [p, fI a, fI b, fI c, fI d, fI e] :=
  ⟨Or.inl ⟨rfl, [], ax_V.ref ⟨hp.1, hp.2.1, (by show p < _; omega), hp.2.2.2⟩⟩, ax_Aq_i a, ax_Aq_i b, ax_Aq_i c, ax_Aq_i d, ax_Aq_i e, True.intro⟩
theorem f_n4_6 {p : Nat} {a b c d e : Int} (hp : p % 8 ≠ 4) : ∀ v ∈ [p, fI a, fI b, fI c, fI d, fI e], v % 8 ≠ 4 := fun v hv => by
  simp only [List.mem_cons, List.not_mem_nil, or_false] at hv
  rcases hv with rfl | rfl | rfl | rfl | rfl | rfl
  · exact hp
  all_goals exact fI_n4 _
section FYR
variable {W : ax_W} {g : Nat → Nat → Int} {Q : Nat → Nat → (Nat → Nat → Int) → Prop}
theorem law_0 {cW cM : ax_C} {r2 d : Nat} {s : Nat → Int} {i : Int} {x5 x6 : Nat} (hs : fScr W s) (hvW : ax_Valid W.N W.sy cW) (w1 : cW.1 = 14) (w2 : cW.2.2.1 = [(0, 2, 0), (1, 0, 4294967295), (1, 0, 4294967295), (1, 0, 4294967295), (1, 0, 4294967295), (1, 0, 4294967295)]) (w3 : cW.2.2.2.1 = []) (w4 : cW.2.1 ≤ 20)
    (hvM : ax_Valid W.N W.sy cM) (m1 : cM.1 = 264) (m2 : cM.2.2.1 = [(0, 1186, 0), (1, 0, 4294967295), (1, 0, 4294967295), (1, 0, 4294967295), (1, 0, 4294967295), (1, 0, 4294967295)]) (m3 : cM.2.2.2.1 = []) (m4 : cM.2.1 ≤ 20) (hd : 21 ≤ d) (hr : 1 ≤ r2) (hi0 : 0 ≤ i) (hi1 : i ≤ 3072) (hiN : i + 6 ≤ W.N) (hI : LInv g) (h5 : x5 % 8 ≠ 4) (h6 : x6 % 8 ≠ 4)
    (kq : ∀ g' x5 x6, LInv g' → x5 % 8 ≠ 4 → x6 % 8 ≠ 4 → fx W r2 d 0 23 [5, 2, 1186, 1274, fI (i + 6), x5, x6] [] g' Q) : fx W r2 d 0 300 [5, 2, 1186, 1274, fI i, x5, x6] [] g Q := by
  refine fx_LB hI.1 (fun hb => ?_)
  obtain ⟨L, hL⟩ : ∃ L : Nat, g 1 1 = (L : Int) := ⟨(g 1 1).toNat, by have := hb.1; omega⟩
  have hL4 : L ≤ 400 := by have := hb.1; omega
  have sr : ∀ k : Int, 0 ≤ k → k < W.N → fR (s k.toNat) := fun k k0 k1 => (hs.2 k.toNat (by omega)).1
  refine fx_la 1 301 (v := 2) (by decide +kernel) rfl (by decide +kernel) ?_
  refine fx_la 0 302 (v := 5) (by decide +kernel) rfl (by decide +kernel) ?_
  refine fx_li 4 304 (by decide +kernel) rfl ?_
  refine fx_ci (1) 305 (by decide +kernel) ?_
  refine fx_add 306 (by decide +kernel) rfl ?_
  refine fx_scr 307 hs (by decide +kernel) rfl (by omega) (by omega) ?_
  refine fx_la 0 308 (v := 5) (by decide +kernel) rfl (by decide +kernel) ?_
  refine fx_li 4 310 (by decide +kernel) rfl ?_
  refine fx_ci (2) 311 (by decide +kernel) ?_
  refine fx_add 312 (by decide +kernel) rfl ?_
  refine fx_scr 313 hs (by decide +kernel) rfl (by omega) (by omega) ?_
  refine fx_la 0 314 (v := 5) (by decide +kernel) rfl (by decide +kernel) ?_
  refine fx_li 4 316 (by decide +kernel) rfl ?_
  refine fx_ci (3) 317 (by decide +kernel) ?_
  refine fx_add 318 (by decide +kernel) rfl ?_
  refine fx_scr 319 hs (by decide +kernel) rfl (by omega) (by omega) ?_
  refine fx_la 0 320 (v := 5) (by decide +kernel) rfl (by decide +kernel) ?_
  refine fx_li 4 322 (by decide +kernel) rfl ?_
  refine fx_ci (4) 323 (by decide +kernel) ?_
  refine fx_add 324 (by decide +kernel) rfl ?_
  refine fx_scr 325 hs (by decide +kernel) rfl (by omega) (by omega) ?_
  refine fx_la 0 326 (v := 5) (by decide +kernel) rfl (by decide +kernel) ?_
  refine fx_li 4 328 (by decide +kernel) rfl ?_
  refine fx_ci (5) 329 (by decide +kernel) ?_
  refine fx_add 330 (by decide +kernel) rfl ?_
  refine fx_scr 331 hs (by decide +kernel) rfl (by omega) (by omega) ?_
  refine fx_c6 14 21 334 20 [] (by decide +kernel) (by decide) (by decide) (fI_n4 _) (fI_n4 _) (fI_n4 _) (fI_n4 _) (fI_n4 _) rfl (by first | decide | omega) ?_
  have wk : fx (fWl W 0) r2 20 14 0 [2, fI (s (i + 1).toNat), fI (s (i + 2).toNat), fI (s (i + 3).toNat), fI (s (i + 4).toNat), fI (s (i + 5).toNat)] [] g (fun k v g1 => (k = 1 ∧ v % 8 ≠ 4 ∧ PE L (fbs (s (i + 1).toNat) (s (i + 2).toNat) (s (i + 3).toNat) (s (i + 4).toNat) (s (i + 5).toNat)) g g1) ∧ gHs g1) := by
    rw [← w1]
    refine fx_hs (W := fWl W 0) (cav := [2, fI (s (i + 1).toNat), fI (s (i + 2).toNat), fI (s (i + 3).toNat), fI (s (i + 4).toNat), fI (s (i + 5).toNat)]) hvW hI.1 (by rw [w2]; exact ax_As_6 (by decide)) w3 (by rw [w1]; exact f_xp (f_n4_6 (by decide)) (show 6 ≤ _ by decide +kernel)) hr w4 ?_
    rw [w1]
    exact fx.up (sp_cfeed (sr _ (by omega) (by omega)) (sr _ (by omega) (by omega)) (sr _ (by omega) (by omega)) (sr _ (by omega) (by omega)) (sr _ (by omega) (by omega)) hL hL4 (fun t v n4 => ⟨rfl, n4, Or.inl ⟨t, rfl⟩⟩) (fun t v n4 => ⟨rfl, n4, Or.inr ⟨t, rfl⟩⟩)) (Nat.le_refl _) (by decide)
  refine wk.mono (fun k v g1 h => ?_)
  obtain ⟨⟨hk1, hv, hc⟩, hs1⟩ := h
  subst hk1
  refine fK1 ?_
  refine fx_pop 335 (by decide +kernel) rfl hv ?_
  have hl2 : g1 148 8 = (L : Int) := by
    rw [← hL, hI.2.2.1]
    rcases hc with ⟨-, e⟩ | ⟨-, e⟩
    · rw [e]
    · rw [e, ffd_ne (by decide) (by decide)]
  refine fx_la 2 336 (v := 1186) (by decide +kernel) rfl (by decide +kernel) ?_
  refine fx_la 0 337 (v := 5) (by decide +kernel) rfl (by decide +kernel) ?_
  refine fx_li 4 339 (by decide +kernel) rfl ?_
  refine fx_ci (1) 340 (by decide +kernel) ?_
  refine fx_add 341 (by decide +kernel) rfl ?_
  refine fx_scr 342 hs (by decide +kernel) rfl (by omega) (by omega) ?_
  refine fx_la 0 343 (v := 5) (by decide +kernel) rfl (by decide +kernel) ?_
  refine fx_li 4 345 (by decide +kernel) rfl ?_
  refine fx_ci (2) 346 (by decide +kernel) ?_
  refine fx_add 347 (by decide +kernel) rfl ?_
  refine fx_scr 348 hs (by decide +kernel) rfl (by omega) (by omega) ?_
  refine fx_la 0 349 (v := 5) (by decide +kernel) rfl (by decide +kernel) ?_
  refine fx_li 4 351 (by decide +kernel) rfl ?_
  refine fx_ci (3) 352 (by decide +kernel) ?_
  refine fx_add 353 (by decide +kernel) rfl ?_
  refine fx_scr 354 hs (by decide +kernel) rfl (by omega) (by omega) ?_
  refine fx_la 0 355 (v := 5) (by decide +kernel) rfl (by decide +kernel) ?_
  refine fx_li 4 357 (by decide +kernel) rfl ?_
  refine fx_ci (4) 358 (by decide +kernel) ?_
  refine fx_add 359 (by decide +kernel) rfl ?_
  refine fx_scr 360 hs (by decide +kernel) rfl (by omega) (by omega) ?_
  refine fx_la 0 361 (v := 5) (by decide +kernel) rfl (by decide +kernel) ?_
  refine fx_li 4 363 (by decide +kernel) rfl ?_
  refine fx_ci (5) 364 (by decide +kernel) ?_
  refine fx_add 365 (by decide +kernel) rfl ?_
  refine fx_scr 366 hs (by decide +kernel) rfl (by omega) (by omega) ?_
  refine fx_c6 264 21 369 20 [7, 7] (by decide +kernel) (by decide) (by decide) (fI_n4 _) (fI_n4 _) (fI_n4 _) (fI_n4 _) (fI_n4 _) rfl (by first | decide | omega) ?_
  have mk : fx (fWl W 0) r2 20 264 0 [1186, fI (s (i + 1).toNat), fI (s (i + 2).toNat), fI (s (i + 3).toNat), fI (s (i + 4).toNat), fI (s (i + 5).toNat), 7, 7] [] g1 (fun k v g2 => (k = 1 ∧ v % 8 ≠ 4 ∧ PF L (fbs (s (i + 1).toNat) (s (i + 2).toNat) (s (i + 3).toNat) (s (i + 4).toNat) (s (i + 5).toNat)) g1 g2) ∧ gHs g2) := by
    rw [← m1]
    refine fx_hs (W := fWl W 0) (cav := [1186, fI (s (i + 1).toNat), fI (s (i + 2).toNat), fI (s (i + 3).toNat), fI (s (i + 4).toNat), fI (s (i + 5).toNat)]) hvM hs1 (by rw [m2]; exact ax_As_6 (by decide)) m3 (by rw [m1]; exact f_xp (f_n4_6 (by decide)) (show 6 ≤ _ by decide +kernel)) hr m4 ?_
    rw [m1]
    exact fx.up (sp_mfeed (sr _ (by omega) (by omega)) (sr _ (by omega) (by omega)) (sr _ (by omega) (by omega)) (sr _ (by omega) (by omega)) (sr _ (by omega) (by omega)) hl2 hL4 (fun t v n4 => ⟨rfl, n4, Or.inl ⟨t, rfl⟩⟩) (fun t v n4 => ⟨rfl, n4, Or.inr ⟨t, rfl⟩⟩)) (Nat.le_refl _) (by decide)
  refine mk.mono (fun k v g2 h => ?_)
  obtain ⟨⟨hk3, hv2, hc2⟩, hs2⟩ := h
  subst hk3
  refine fK1 ?_
  refine fx_pop 370 (by decide +kernel) rfl hv2 ?_
  obtain ⟨r1, r2', r3⟩ := feed_both hI hL hc hc2
  refine fx_go 1990 (by decide +kernel) ?_
  refine fx_inc 4 1993 6 (by decide +kernel) rfl (Or.inr (f_n4p (v := 1274) rfl (by decide))) rfl ?_
  dsimp only [List.set]
  exact fx_go 23 (by decide +kernel) (kq g2 x5 x6 ⟨hs2, r1, r2', r3⟩ h5 h6)
end FYR
