/-! gx: all rounds of this law -/
def KX (N : Nat) (sy : sx_Y) (mi : Nat) (args : List (Nat × Nat × Nat)) : Prop := ∃ c : ax_C, ax_Valid N sy c ∧ c.1 = mi ∧ c.2.2.1 = args ∧ c.2.2.2.1 = [] ∧ c.2.1 ≤ 36
def ax_cases : List (Nat × Nat) := [(373, 2), (458, 1), (471, 35), (511, 3), (551, 35), (603, 3), (643, 4), (671, 4), (699, 37), (727, 35), (755, 4), (783, 4), (823, 4), (863, 38), (891, 5), (931, 5), (971, 7), (1015, 7), (1031, 7), (1047, 5), (1060, 5), (1088, 35), (1116, 5), (1141, 5), (1154, 7), (1182, 6), (1210, 5), (1223, 7), (1236, 7), (1249, 5), (1274, 8), (1302, 8), (1315, 6), (1343, 5), (1359, 3), (1387, 3), (1400, 2), (1413, 5), (1441, 5), (1454, 5), (1467, 4), (1480, 5), (1493, 6), (1545, 36), (1573, 5), (1586, 38), (1614, 2), (1627, 35), (1655, 38), (1695, 38), (1751, 38), (1807, 4), (1863, 3), (1903, 1), (1928, 2), (1965, 4), (1990, 0)]
set_option maxRecDepth 1000000 in
theorem lw_tgs0 : (List.range 64).all (fun n => Nat.beq (lw_tg n) 300 || (Nat.beq (lw_tg n) 398 || (Nat.beq (lw_tg n) 1941 || (Nat.beq (lw_tg n) 1952 || (Nat.beq (lw_tg n) 414 || (ax_cases.any (fun q => Nat.beq q.1 (lw_tg n) && Nat.ble q.2 40))))))) = true := by decide +kernel
theorem lw_tgs {n : Nat} (hn : n < 64) : lw_tg n = 300 ∨ lw_tg n = 398 ∨ lw_tg n = 1941 ∨ lw_tg n = 1952 ∨ lw_tg n = 414 ∨ ∃ q ∈ ax_cases, q.1 = lw_tg n ∧ q.2 ≤ 40 := by
  have h := List.all_eq_true.mp lw_tgs0 n (List.mem_range.mpr hn)
  simp only [Bool.or_eq_true] at h
  rcases h with h | h | h | h | h | h
  · exact Or.inl (sx_beq h)
  · exact Or.inr (Or.inl (sx_beq h))
  · exact Or.inr (Or.inr (Or.inl (sx_beq h)))
  · exact Or.inr (Or.inr (Or.inr (Or.inl (sx_beq h))))
  · exact Or.inr (Or.inr (Or.inr (Or.inr (Or.inl (sx_beq h)))))
  · obtain ⟨q, hq, h⟩ := List.any_eq_true.mp h
    obtain ⟨h1, h2⟩ := f_and h
    exact Or.inr (Or.inr (Or.inr (Or.inr (Or.inr (⟨q, hq, sx_beq h1, sx_ble h2⟩)))))
def gx_Cw (N : Nat) (sy : sx_Y) : Prop := KW N sy 14 [(0, 2, 0), (1, 0, 4294967295), (1, 0, 4294967295), (1, 0, 4294967295), (1, 0, 4294967295), (1, 0, 4294967295)] ∧ KW N sy 264 [(0, 1186, 0), (1, 0, 4294967295), (1, 0, 4294967295), (1, 0, 4294967295), (1, 0, 4294967295), (1, 0, 4294967295)] ∧ KW N sy 69 [(0, 2, 0), (0, 1274, 0)] ∧ KW N sy 267 [(0, 1186, 0)] ∧ KW N sy 64 [(0, 2, 0)] ∧ KW N sy 409 [(0, 1186, 0)] ∧ KW N sy 67 [(0, 2, 0)] ∧ KW N sy 410 [(0, 1186, 0)] ∧ KX N sy 117 [(0, 2, 0), (0, 1274, 0)] ∧ KX N sy 295 [(0, 1186, 0)]
theorem gx_rounds {W : ax_W} {s : Nat → Int} (hs : fScr W s) (hN : W.N ≤ 3072) (hC : ax_Csl W.N W.sy ax_cases) (hW : gx_Cw W.N W.sy) : ∀ (k i : Nat) (g : Nat → Nat → Int) (x5 x6 : Nat), W.N < i + (6 * k + 6) → i ≤ W.N → LInv g → x5 % 8 ≠ 4 → x6 % 8 ≠ 4 → fx (fWl W (2 * k)) (2 * k + 2) 40 0 23 [5, 2, 1186, 1274, fI (i : Int), x5, x6] [] g (fun k v _ => k = 1 ∧ v = fI 1)
  | k, i, g, x5, x6, hk, hi, hI, h5, h6 => by
    refine law_head (W := fWl W (2 * k)) hs hN hi (fun _ => ⟨rfl, rfl⟩) (fun hi6 n hn => ?_)
    have hi6 : i + 6 ≤ W.N := hi6
    match k, hk with
    | 0, hk => omega
    | k + 1, hk =>
      have kq : ∀ g' x5 x6, LInv g' → x5 % 8 ≠ 4 → x6 % 8 ≠ 4 → fx (fWl W (2 * k)) (2 * k + 2) 40 0 23 [5, 2, 1186, 1274, fI ((i : Int) + 6), x5, x6] [] g' (fun k v _ => k = 1 ∧ v = fI 1) := fun g' y5 y6 hI' m5 m6 => gx_rounds hs hN hC hW k (i + 6) g' y5 y6 (by omega) hi6 hI' m5 m6
      have kl : ∀ g' x5 x6, LInv g' → x5 % 8 ≠ 4 → x6 % 8 ≠ 4 → fx (fWl W (2 * (k + 1))) (2 * (k + 1) + 2) 40 0 23 [5, 2, 1186, 1274, fI ((i : Int) + 6), x5, x6] [] g' (fun k v _ => k = 1 ∧ v = fI 1) := fun g' y5 y6 hI' m5 m6 => fx.up (fx.lim (kq g' y5 y6 hI' m5 m6) (by omega)) (by omega) (Nat.le_refl _)
      obtain ⟨⟨c0, v0, a0, b0, e0, d0⟩, ⟨c1, v1, a1, b1, e1, d1⟩, ⟨c2, v2, a2, b2, e2, d2⟩, ⟨c3, v3, a3, b3, e3, d3⟩, ⟨c4, v4, a4, b4, e4, d4⟩, ⟨c5, v5, a5, b5, e5, d5⟩, ⟨c6, v6, a6, b6, e6, d6⟩, ⟨c7, v7, a7, b7, e7, d7⟩, ⟨c8, v8, a8, b8, e8, d8⟩, ⟨c9, v9, a9, b9, e9, d9⟩⟩ := hW
      rcases lw_tgs hn with e | e | e | e | e | ⟨q, hq, e, hd⟩
      · rw [e]
        exact law_0 (W := fWl W (2 * (k + 1))) (s := s) hs v0 a0 b0 e0 d0 v1 a1 b1 e1 d1 (by decide) (by omega) (by omega) (by omega) (by show (i : Int) + 6 ≤ (W.N : Int); omega) hI h5 h6 kl
      · rw [e]
        exact fx.up (law_2 (W := fWl W (2 * (k + 1))) (b := 2 * k) (r2 := 2 * k + 2) v2 a2 b2 e2 d2 v3 a3 b3 e3 d3 (by decide) (by show 1 + 2 * k ≤ 2 * (k + 1); omega) (by omega) (by omega) (by omega) hI kq) (by omega) (Nat.le_refl _)
      · rw [e]
        exact law_58 (W := fWl W (2 * (k + 1))) v4 a4 b4 e4 d4 v5 a5 b5 e5 d5 (by decide) (by omega) (by omega) (by omega) hI h5 h6 kl
      · rw [e]
        exact law_59 (W := fWl W (2 * (k + 1))) v6 a6 b6 e6 d6 v7 a7 b7 e7 d7 (by decide) (by omega) (by omega) (by omega) hI h5 h6 kl
      · rw [e]
        exact fx.up (law_3 (W := fWl W (2 * (k + 1))) (b := 2 * k) (r2 := 2 * k + 2) (s := s) hs v8 a8 b8 e8 d8 v9 a9 b9 e9 d9 (by decide) (by show 1 + 2 * k ≤ 2 * (k + 1); omega) (by omega) (by omega) (by omega) (by show (i : Int) + 6 ≤ (W.N : Int); omega) hI kq) (by omega) (Nat.le_refl _)
      · rw [← e]
        exact fx_case (W := fWl W (2 * (k + 1))) (l := 2 * k) (r2 := 2 * k + 2) (s := s) (hC.all q hq) hd hs hN hi6 hI h5 h6 (by show 2 + 2 * k ≤ 2 * (k + 1); omega) (by omega) kq
-- KW AbsentRings.feed x i i i i i
-- KW AbsentRingsModel.feed m i i i i i
-- KW AbsentRingsLaw.house x out
-- KW AbsentRingsModel.house m
-- KW AbsentRings.image x
-- KW AbsentRingsModel.image m
-- KW AbsentRings.back x
-- KW AbsentRingsModel.back m
-- KW AbsentRingsLaw.law(L x out
-- KW AbsentRingsModel.law m
