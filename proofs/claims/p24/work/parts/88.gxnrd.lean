/-! gx: all rounds of this law -/
def ax_cases : List (Nat × Nat) := [(373, 2), (414, 33), (430, 1), (443, 35), (483, 3), (523, 35), (575, 3), (615, 4), (643, 4), (671, 37), (699, 35), (727, 4), (755, 4), (795, 4), (835, 38), (863, 5), (903, 5), (943, 7), (987, 7), (1003, 7), (1032, 5), (1060, 35), (1088, 5), (1113, 5), (1126, 7), (1154, 6), (1182, 5), (1195, 7), (1208, 7), (1221, 5), (1246, 8), (1274, 8), (1287, 6), (1315, 5), (1331, 3), (1359, 3), (1372, 2), (1385, 5), (1413, 5), (1426, 5), (1439, 4), (1452, 5), (1465, 6), (1517, 36), (1545, 5), (1558, 38), (1586, 2), (1599, 35), (1627, 38), (1667, 38), (1723, 38), (1779, 4), (1835, 3), (1875, 1), (1900, 2), (1937, 4), (1962, 0)]
set_option maxRecDepth 1000000 in
theorem lw_tgs0 : (List.range 64).all (fun n => Nat.beq (lw_tg n) 300 || (Nat.beq (lw_tg n) 398 || (Nat.beq (lw_tg n) 1913 || (Nat.beq (lw_tg n) 1924 || (Nat.beq (lw_tg n) 1019 || (ax_cases.any (fun q => Nat.beq q.1 (lw_tg n) && Nat.ble q.2 40))))))) = true := by decide +kernel
theorem lw_tgs {n : Nat} (hn : n < 64) : lw_tg n = 300 ∨ lw_tg n = 398 ∨ lw_tg n = 1913 ∨ lw_tg n = 1924 ∨ lw_tg n = 1019 ∨ ∃ q ∈ ax_cases, q.1 = lw_tg n ∧ q.2 ≤ 40 := by
  have h := List.all_eq_true.mp lw_tgs0 n (List.mem_range.mpr hn)
  simp only [Bool.or_eq_true] at h
  rcases h with h | h | h | h | h | h
  · exact Or.inl (sx_beq h)
  · exact Or.inr (Or.inl (sx_beq h))
  · exact Or.inr (Or.inr (Or.inl (sx_beq h)))
  · exact Or.inr (Or.inr (Or.inr (Or.inl (sx_beq h))))
  · exact Or.inr (Or.inr (Or.inr (Or.inr (Or.inl (sx_beq h)))))
  · obtain ⟨q, hq, h⟩ := List.any_eq_true.mp h
    obtain ⟨h1, h2⟩ := f_and h
    exact Or.inr (Or.inr (Or.inr (Or.inr (Or.inr (⟨q, hq, sx_beq h1, sx_ble h2⟩)))))
def gx_Cw (N : Nat) (sy : sx_Y) : Prop := KW N sy 14 [(0, 2, 0), (1, 0, 4294967295), (1, 0, 4294967295), (1, 0, 4294967295), (1, 0, 4294967295), (1, 0, 4294967295)] ∧ KW N sy 263 [(0, 1186, 0), (1, 0, 4294967295), (1, 0, 4294967295), (1, 0, 4294967295), (1, 0, 4294967295), (1, 0, 4294967295)] ∧ KW N sy 69 [(0, 2, 0), (0, 1274, 0)] ∧ KW N sy 266 [(0, 1186, 0)] ∧ KW N sy 64 [(0, 2, 0)] ∧ KW N sy 408 [(0, 1186, 0)] ∧ KW N sy 67 [(0, 2, 0)] ∧ KW N sy 409 [(0, 1186, 0)] ∧ KW N sy 18 [(0, 2, 0)] ∧ KW N sy 347 [(0, 1186, 0)]
theorem gx_rounds {W : ax_W} {s : Nat → Int} (hs : fScr W s) (hN : W.N ≤ 3072) (hC : ax_Csl W.N W.sy ax_cases) (hW : gx_Cw W.N W.sy) : ∀ (k i : Nat) (g : Nat → Nat → Int) (x5 x6 : Nat), W.N < i + (6 * k + 6) → i ≤ W.N → LInv g → x5 % 8 ≠ 4 → x6 % 8 ≠ 4 → fx (fWl W (2 * k)) (2 * k + 2) 40 0 23 [5, 2, 1186, 1274, fI (i : Int), x5, x6] [] g (fun k v _ => k = 1 ∧ v = fI 1)
  | k, i, g, x5, x6, hk, hi, hI, h5, h6 => by
    refine law_head (W := fWl W (2 * k)) hs hN hi (fun _ => ⟨rfl, rfl⟩) (fun hi6 n hn => ?_)
    have hi6 : i + 6 ≤ W.N := hi6
    match k, hk with
    | 0, hk => omega
    | k + 1, hk =>
      have kq : ∀ g' x5 x6, LInv g' → x5 % 8 ≠ 4 → x6 % 8 ≠ 4 → fx (fWl W (2 * k)) (2 * k + 2) 40 0 23 [5, 2, 1186, 1274, fI ((i : Int) + 6), x5, x6] [] g' (fun k v _ => k = 1 ∧ v = fI 1) := fun g' y5 y6 hI' m5 m6 => gx_rounds hs hN hC hW k (i + 6) g' y5 y6 (by omega) hi6 hI' m5 m6
      have kl : ∀ g' x5 x6, LInv g' → x5 % 8 ≠ 4 → x6 % 8 ≠ 4 → fx (fWl W (2 * (k + 1))) (2 * (k + 1) + 2) 40 0 23 [5, 2, 1186, 1274, fI ((i : Int) + 6), x5, x6] [] g' (fun k v _ => k = 1 ∧ v = fI 1) := fun g' y5 y6 hI' m5 m6 => fx.up (fx.lim (kq g' y5 y6 hI' m5 m6) (by omega)) (by omega) (Nat.le_refl _)
      obtain ⟨⟨c0, v0, a0, b0, e0, d0⟩, ⟨c1, v1, a1, b1, e1, d1⟩, ⟨c2, v2, a2, b2, e2, d2⟩, ⟨c3, v3, a3, b3, e3, d3⟩, ⟨c4, v4, a4, b4, e4, d4⟩, ⟨c5, v5, a5, b5, e5, d5⟩, ⟨c6, v6, a6, b6, e6, d6⟩, ⟨c7, v7, a7, b7, e7, d7⟩, ⟨c8, v8, a8, b8, e8, d8⟩, ⟨c9, v9, a9, b9, e9, d9⟩⟩ := hW
      rcases lw_tgs hn with e | e | e | e | e | ⟨q, hq, e, hd⟩
      · rw [e]
        exact law_0 (W := fWl W (2 * (k + 1))) (s := s) hs v0 a0 b0 e0 d0 v1 a1 b1 e1 d1 (by decide) (by omega) (by omega) (by omega) (by show (i : Int) + 6 ≤ (W.N : Int); omega) hI h5 h6 kl
      · rw [e]
        exact fx.up (law_2 (W := fWl W (2 * (k + 1))) (b := 2 * k) (r2 := 2 * k + 2) v2 a2 b2 e2 d2 v3 a3 b3 e3 d3 (by decide) (by show 1 + 2 * k ≤ 2 * (k + 1); omega) (by omega) (by omega) (by omega) hI kq) (by omega) (Nat.le_refl _)
      · rw [e]
        exact law_58 (W := fWl W (2 * (k + 1))) v4 a4 b4 e4 d4 v5 a5 b5 e5 d5 (by decide) (by omega) (by omega) (by omega) hI h5 h6 kl
      · rw [e]
        exact law_59 (W := fWl W (2 * (k + 1))) v6 a6 b6 e6 d6 v7 a7 b7 e7 d7 (by decide) (by omega) (by omega) (by omega) hI h5 h6 kl
      · rw [e]
        exact fx.up (law_22 (W := fWl W (2 * (k + 1))) (b := 2 * k) (r2 := 2 * k + 2) (s := s) hs v8 a8 b8 e8 d8 v9 a9 b9 e9 d9 (by decide) (by show 1 + 2 * k ≤ 2 * (k + 1); omega) (by omega) (by omega) (by omega) (by show (i : Int) + 6 ≤ (W.N : Int); omega) hI h5 h6 kq) (by omega) (Nat.le_refl _)
      · rw [← e]
        exact fx_case (W := fWl W (2 * (k + 1))) (l := 2 * k) (r2 := 2 * k + 2) (s := s) (hC.all q hq) hd hs hN hi6 hI h5 h6 (by show 2 + 2 * k ≤ 2 * (k + 1); omega) (by omega) kq
-- KW AbsentRings.feed x i i i i i
-- KW AbsentRingsModel.feed m i i i i i
-- KW AbsentRingsLaw.house x out
-- KW AbsentRingsModel.house m
-- KW AbsentRings.image x
-- KW AbsentRingsModel.image m
-- KW AbsentRings.back x
-- KW AbsentRingsModel.back m
-- KW AbsentRings.apart x
-- KW AbsentRingsModel.apart m
