/-! gx: all rounds of this law, of the whole state -/
def ax_cases : List (Nat × Nat) := [(373, 2), (430, 1), (443, 35), (483, 3), (523, 35), (575, 3), (863, 5), (903, 5), (943, 7), (987, 7), (1003, 7), (1019, 5), (1032, 5), (1060, 35), (1088, 5), (1113, 5), (1126, 7), (1154, 6), (1182, 5), (1195, 7), (1208, 7), (1221, 5), (1246, 8), (1274, 8), (1287, 6), (1315, 5), (1331, 3), (1359, 3), (1372, 2), (1385, 5), (1413, 5), (1426, 5), (1439, 4), (1452, 5), (1465, 6), (1517, 36), (1545, 5), (1558, 38), (1586, 2), (1599, 35), (1627, 38), (1667, 38), (1723, 38), (1779, 4), (1835, 3), (1962, 0)]
set_option maxRecDepth 1000000 in
theorem lw_tgs0 : (List.range 64).all (fun n => Nat.beq (lw_tg n) 300 || (Nat.beq (lw_tg n) 398 || (Nat.beq (lw_tg n) 414 || (Nat.beq (lw_tg n) 615 || (Nat.beq (lw_tg n) 643 || (Nat.beq (lw_tg n) 671 || (Nat.beq (lw_tg n) 699 || (Nat.beq (lw_tg n) 727 || (Nat.beq (lw_tg n) 755 || (Nat.beq (lw_tg n) 795 || (Nat.beq (lw_tg n) 835 || (Nat.beq (lw_tg n) 1875 || (Nat.beq (lw_tg n) 1900 || (Nat.beq (lw_tg n) 1913 || (Nat.beq (lw_tg n) 1924 || (Nat.beq (lw_tg n) 1937 || (ax_cases.any (fun q => Nat.beq q.1 (lw_tg n) && Nat.ble q.2 44)))))))))))))))))) = true := by decide +kernel
theorem lw_tgs {n : Nat} (hn : n < 64) : lw_tg n = 300 ∨ lw_tg n = 398 ∨ lw_tg n = 414 ∨ lw_tg n = 615 ∨ lw_tg n = 643 ∨ lw_tg n = 671 ∨ lw_tg n = 699 ∨ lw_tg n = 727 ∨ lw_tg n = 755 ∨ lw_tg n = 795 ∨ lw_tg n = 835 ∨ lw_tg n = 1875 ∨ lw_tg n = 1900 ∨ lw_tg n = 1913 ∨ lw_tg n = 1924 ∨ lw_tg n = 1937 ∨ ∃ q ∈ ax_cases, q.1 = lw_tg n ∧ q.2 ≤ 44 := by
  have h := List.all_eq_true.mp lw_tgs0 n (List.mem_range.mpr hn)
  simp only [Bool.or_eq_true] at h
  rcases h with h | h | h | h | h | h | h | h | h | h | h | h | h | h | h | h | h
  · exact Or.inl (sx_beq h)
  · exact Or.inr (Or.inl (sx_beq h))
  · exact Or.inr (Or.inr (Or.inl (sx_beq h)))
  · exact Or.inr (Or.inr (Or.inr (Or.inl (sx_beq h))))
  · exact Or.inr (Or.inr (Or.inr (Or.inr (Or.inl (sx_beq h)))))
  · exact Or.inr (Or.inr (Or.inr (Or.inr (Or.inr (Or.inl (sx_beq h))))))
  · exact Or.inr (Or.inr (Or.inr (Or.inr (Or.inr (Or.inr (Or.inl (sx_beq h)))))))
  · exact Or.inr (Or.inr (Or.inr (Or.inr (Or.inr (Or.inr (Or.inr (Or.inl (sx_beq h))))))))
  · exact Or.inr (Or.inr (Or.inr (Or.inr (Or.inr (Or.inr (Or.inr (Or.inr (Or.inl (sx_beq h)))))))))
  · exact Or.inr (Or.inr (Or.inr (Or.inr (Or.inr (Or.inr (Or.inr (Or.inr (Or.inr (Or.inl (sx_beq h))))))))))
  · exact Or.inr (Or.inr (Or.inr (Or.inr (Or.inr (Or.inr (Or.inr (Or.inr (Or.inr (Or.inr (Or.inl (sx_beq h)))))))))))
  · exact Or.inr (Or.inr (Or.inr (Or.inr (Or.inr (Or.inr (Or.inr (Or.inr (Or.inr (Or.inr (Or.inr (Or.inl (sx_beq h))))))))))))
  · exact Or.inr (Or.inr (Or.inr (Or.inr (Or.inr (Or.inr (Or.inr (Or.inr (Or.inr (Or.inr (Or.inr (Or.inr (Or.inl (sx_beq h)))))))))))))
  · exact Or.inr (Or.inr (Or.inr (Or.inr (Or.inr (Or.inr (Or.inr (Or.inr (Or.inr (Or.inr (Or.inr (Or.inr (Or.inr (Or.inl (sx_beq h))))))))))))))
  · exact Or.inr (Or.inr (Or.inr (Or.inr (Or.inr (Or.inr (Or.inr (Or.inr (Or.inr (Or.inr (Or.inr (Or.inr (Or.inr (Or.inr (Or.inl (sx_beq h)))))))))))))))
  · exact Or.inr (Or.inr (Or.inr (Or.inr (Or.inr (Or.inr (Or.inr (Or.inr (Or.inr (Or.inr (Or.inr (Or.inr (Or.inr (Or.inr (Or.inr (Or.inl (sx_beq h))))))))))))))))
  · obtain ⟨q, hq, h⟩ := List.any_eq_true.mp h
    obtain ⟨h1, h2⟩ := f_and h
    exact Or.inr (Or.inr (Or.inr (Or.inr (Or.inr (Or.inr (Or.inr (Or.inr (Or.inr (Or.inr (Or.inr (Or.inr (Or.inr (Or.inr (Or.inr (Or.inr (⟨q, hq, sx_beq h1, sx_ble h2⟩))))))))))))))))
def gx_Cw (N : Nat) (sy : sx_Y) : Prop := KW N sy 14 [(0, 2, 0), (1, 0, 4294967295), (1, 0, 4294967295), (1, 0, 4294967295), (1, 0, 4294967295), (1, 0, 4294967295)] ∧ KW N sy 263 [(0, 1186, 0), (1, 0, 4294967295), (1, 0, 4294967295), (1, 0, 4294967295), (1, 0, 4294967295), (1, 0, 4294967295)] ∧ KW N sy 69 [(0, 2, 0), (0, 1274, 0)] ∧ KW N sy 266 [(0, 1186, 0)] ∧ KW N sy 117 [(0, 2, 0), (0, 1274, 0)] ∧ KW N sy 294 [(0, 1186, 0)] ∧ KW N sy 149 [(0, 2, 0), (1, 0, 4294967295), (0, 1274, 0)] ∧ KW N sy 318 [(0, 1186, 0), (1, 0, 4294967295)] ∧ KW N sy 154 [(0, 2, 0), (1, 0, 4294967295), (0, 1274, 0)] ∧ KW N sy 323 [(0, 1186, 0), (1, 0, 4294967295)] ∧ KW N sy 159 [(0, 2, 0), (1, 0, 4294967295), (0, 1274, 0)] ∧ KW N sy 324 [(0, 1186, 0), (1, 0, 4294967295)] ∧ KW N sy 167 [(0, 2, 0), (1, 0, 4294967295), (0, 1274, 0)] ∧ KW N sy 331 [(0, 1186, 0), (1, 0, 4294967295)] ∧ KW N sy 169 [(0, 2, 0), (1, 0, 4294967295), (0, 1274, 0)] ∧ KW N sy 332 [(0, 1186, 0), (1, 0, 4294967295)] ∧ KW N sy 171 [(0, 2, 0), (1, 0, 4294967295), (1, 0, 4294967295), (0, 1274, 0)] ∧ KW N sy 333 [(0, 1186, 0), (1, 0, 4294967295), (1, 0, 4294967295)] ∧ KW N sy 174 [(0, 2, 0), (1, 0, 4294967295), (1, 0, 4294967295), (0, 1274, 0)] ∧ KW N sy 335 [(0, 1186, 0), (1, 0, 4294967295), (1, 0, 4294967295)] ∧ KW N sy 176 [(0, 2, 0), (1, 0, 4294967295), (0, 1274, 0)] ∧ KW N sy 336 [(0, 1186, 0), (1, 0, 4294967295)] ∧ KW N sy 61 [(0, 2, 0), (1, 0, 4294967295)] ∧ KW N sy 406 [(0, 1186, 0), (1, 0, 4294967295)] ∧ KW N sy 62 [(0, 2, 0)] ∧ KW N sy 407 [(0, 1186, 0)] ∧ KW N sy 64 [(0, 2, 0)] ∧ KW N sy 408 [(0, 1186, 0)] ∧ KW N sy 67 [(0, 2, 0)] ∧ KW N sy 409 [(0, 1186, 0)] ∧ KW N sy 68 [(0, 2, 0), (1, 0, 4294967295)] ∧ KW N sy 410 [(0, 1186, 0), (1, 0, 4294967295)]
set_option maxRecDepth 1000000 in
theorem gx_rounds {W : ax_W} {s : Nat → Int} (hs : fScr W s) (hN : W.N ≤ 3072) (hC : ax_Csl W.N W.sy ax_cases) (hW : gx_Cw W.N W.sy) : ∀ (k i : Nat) (g : Nat → Nat → Int) (x5 x6 : Nat), W.N < i + (6 * k + 6) → i ≤ W.N → LInv2 g → x5 % 8 ≠ 4 → x6 % 8 ≠ 4 → fx (fWl W (2 * k)) (2 * k + 2) 44 0 23 [5, 2, 1186, 1274, fI (i : Int), x5, x6] [] g (fun k v _ => k = 1 ∧ v = fI 1)
  | k, i, g, x5, x6, hk, hi, hI, h5, h6 => by
    refine law_head (W := fWl W (2 * k)) hs hN hi (fun _ => ⟨rfl, rfl⟩) (fun hi6 n hn => ?_)
    have hi6 : i + 6 ≤ W.N := hi6
    match k, hk with
    | 0, hk => omega
    | k + 1, hk =>
      have kq : ∀ g' x5 x6, LInv2 g' → x5 % 8 ≠ 4 → x6 % 8 ≠ 4 → fx (fWl W (2 * k)) (2 * k + 2) 44 0 23 [5, 2, 1186, 1274, fI ((i : Int) + 6), x5, x6] [] g' (fun k v _ => k = 1 ∧ v = fI 1) := fun g' y5 y6 hI' m5 m6 => gx_rounds hs hN hC hW k (i + 6) g' y5 y6 (by omega) hi6 hI' m5 m6
      have kl : ∀ g' x5 x6, LInv2 g' → x5 % 8 ≠ 4 → x6 % 8 ≠ 4 → fx (fWl W (2 * (k + 1))) (2 * (k + 1) + 2) 44 0 23 [5, 2, 1186, 1274, fI ((i : Int) + 6), x5, x6] [] g' (fun k v _ => k = 1 ∧ v = fI 1) := fun g' y5 y6 hI' m5 m6 => fx.up (fx.lim (kq g' y5 y6 hI' m5 m6) (by omega)) (by omega) (Nat.le_refl _)
      obtain ⟨⟨c0, v0, a0, b0, e0, d0⟩, ⟨c1, v1, a1, b1, e1, d1⟩, ⟨c2, v2, a2, b2, e2, d2⟩, ⟨c3, v3, a3, b3, e3, d3⟩, ⟨c4, v4, a4, b4, e4, d4⟩, ⟨c5, v5, a5, b5, e5, d5⟩, ⟨c6, v6, a6, b6, e6, d6⟩, ⟨c7, v7, a7, b7, e7, d7⟩, ⟨c8, v8, a8, b8, e8, d8⟩, ⟨c9, v9, a9, b9, e9, d9⟩, ⟨c10, v10, a10, b10, e10, d10⟩, ⟨c11, v11, a11, b11, e11, d11⟩, ⟨c12, v12, a12, b12, e12, d12⟩, ⟨c13, v13, a13, b13, e13, d13⟩, ⟨c14, v14, a14, b14, e14, d14⟩, ⟨c15, v15, a15, b15, e15, d15⟩, ⟨c16, v16, a16, b16, e16, d16⟩, ⟨c17, v17, a17, b17, e17, d17⟩, ⟨c18, v18, a18, b18, e18, d18⟩, ⟨c19, v19, a19, b19, e19, d19⟩, ⟨c20, v20, a20, b20, e20, d20⟩, ⟨c21, v21, a21, b21, e21, d21⟩, ⟨c22, v22, a22, b22, e22, d22⟩, ⟨c23, v23, a23, b23, e23, d23⟩, ⟨c24, v24, a24, b24, e24, d24⟩, ⟨c25, v25, a25, b25, e25, d25⟩, ⟨c26, v26, a26, b26, e26, d26⟩, ⟨c27, v27, a27, b27, e27, d27⟩, ⟨c28, v28, a28, b28, e28, d28⟩, ⟨c29, v29, a29, b29, e29, d29⟩, ⟨c30, v30, a30, b30, e30, d30⟩, ⟨c31, v31, a31, b31, e31, d31⟩⟩ := hW
      rcases lw_tgs hn with e | e | e | e | e | e | e | e | e | e | e | e | e | e | e | e | ⟨q, hq, e, hd⟩
      · rw [e]
        exact la_0 (W := fWl W (2 * (k + 1))) (s := s) hs v0 a0 b0 e0 d0 v1 a1 b1 e1 d1 (by decide) (by omega) (by omega) (by omega) (by show (i : Int) + 6 ≤ (W.N : Int); omega) hI h5 h6 kl
      · rw [e]
        exact fx.up (la_2 (W := fWl W (2 * (k + 1))) (b := 2 * k) (r2 := 2 * k + 2) (s := s) hs v2 a2 b2 e2 d2 v3 a3 b3 e3 d3 (by decide) (by show 1 + 2 * k ≤ 2 * (k + 1); omega) (by omega) (by omega) (by omega) (by show (i : Int) + 6 ≤ (W.N : Int); omega) hI kq) (by omega) (Nat.le_refl _)
      · rw [e]
        exact fx.up (la_3 (W := fWl W (2 * (k + 1))) (b := 2 * k) (r2 := 2 * k + 2) (s := s) hs v4 a4 b4 e4 d4 v5 a5 b5 e5 d5 (by decide) (by show 1 + 2 * k ≤ 2 * (k + 1); omega) (by omega) (by omega) (by omega) (by show (i : Int) + 6 ≤ (W.N : Int); omega) hI kq) (by omega) (Nat.le_refl _)
      · rw [e]
        exact fx.up (la_9 (W := fWl W (2 * (k + 1))) (b := 2 * k) (r2 := 2 * k + 2) (s := s) hs v6 a6 b6 e6 d6 v7 a7 b7 e7 d7 (by decide) (by show 1 + 2 * k ≤ 2 * (k + 1); omega) (by omega) (by omega) (by omega) (by show (i : Int) + 6 ≤ (W.N : Int); omega) hI kq) (by omega) (Nat.le_refl _)
      · rw [e]
        exact fx.up (la_10 (W := fWl W (2 * (k + 1))) (b := 2 * k) (r2 := 2 * k + 2) (s := s) hs v8 a8 b8 e8 d8 v9 a9 b9 e9 d9 (by decide) (by show 1 + 2 * k ≤ 2 * (k + 1); omega) (by omega) (by omega) (by omega) (by show (i : Int) + 6 ≤ (W.N : Int); omega) hI kq) (by omega) (Nat.le_refl _)
      · rw [e]
        exact fx.up (la_11 (W := fWl W (2 * (k + 1))) (b := 2 * k) (r2 := 2 * k + 2) (s := s) hs v10 a10 b10 e10 d10 v11 a11 b11 e11 d11 (by decide) (by show 1 + 2 * k ≤ 2 * (k + 1); omega) (by omega) (by omega) (by omega) (by show (i : Int) + 6 ≤ (W.N : Int); omega) hI kq) (by omega) (Nat.le_refl _)
      · rw [e]
        exact fx.up (la_12 (W := fWl W (2 * (k + 1))) (b := 2 * k) (r2 := 2 * k + 2) (s := s) hs v12 a12 b12 e12 d12 v13 a13 b13 e13 d13 (by decide) (by show 1 + 2 * k ≤ 2 * (k + 1); omega) (by omega) (by omega) (by omega) (by show (i : Int) + 6 ≤ (W.N : Int); omega) hI kq) (by omega) (Nat.le_refl _)
      · rw [e]
        exact fx.up (la_13 (W := fWl W (2 * (k + 1))) (b := 2 * k) (r2 := 2 * k + 2) (s := s) hs v14 a14 b14 e14 d14 v15 a15 b15 e15 d15 (by decide) (by show 1 + 2 * k ≤ 2 * (k + 1); omega) (by omega) (by omega) (by omega) (by show (i : Int) + 6 ≤ (W.N : Int); omega) hI kq) (by omega) (Nat.le_refl _)
      · rw [e]
        exact fx.up (la_14 (W := fWl W (2 * (k + 1))) (b := 2 * k) (r2 := 2 * k + 2) (s := s) hs v16 a16 b16 e16 d16 v17 a17 b17 e17 d17 (by decide) (by show 1 + 2 * k ≤ 2 * (k + 1); omega) (by omega) (by omega) (by omega) (by show (i : Int) + 6 ≤ (W.N : Int); omega) hI kq) (by omega) (Nat.le_refl _)
      · rw [e]
        exact fx.up (la_15 (W := fWl W (2 * (k + 1))) (b := 2 * k) (r2 := 2 * k + 2) (s := s) hs v18 a18 b18 e18 d18 v19 a19 b19 e19 d19 (by decide) (by show 1 + 2 * k ≤ 2 * (k + 1); omega) (by omega) (by omega) (by omega) (by show (i : Int) + 6 ≤ (W.N : Int); omega) hI kq) (by omega) (Nat.le_refl _)
      · rw [e]
        exact fx.up (la_16 (W := fWl W (2 * (k + 1))) (b := 2 * k) (r2 := 2 * k + 2) (s := s) hs v20 a20 b20 e20 d20 v21 a21 b21 e21 d21 (by decide) (by show 1 + 2 * k ≤ 2 * (k + 1); omega) (by omega) (by omega) (by omega) (by show (i : Int) + 6 ≤ (W.N : Int); omega) hI kq) (by omega) (Nat.le_refl _)
      · rw [e]
        exact la_56 (W := fWl W (2 * (k + 1))) (s := s) hs v22 a22 b22 e22 d22 v23 a23 b23 e23 d23 (by decide) (by omega) (by omega) (by omega) (by show (i : Int) + 6 ≤ (W.N : Int); omega) hI h5 h6 kl
      · rw [e]
        exact la_57 (W := fWl W (2 * (k + 1))) (s := s) hs v24 a24 b24 e24 d24 v25 a25 b25 e25 d25 (by decide) (by omega) (by omega) (by omega) (by show (i : Int) + 6 ≤ (W.N : Int); omega) hI h5 h6 kl
      · rw [e]
        exact la_58 (W := fWl W (2 * (k + 1))) (s := s) hs v26 a26 b26 e26 d26 v27 a27 b27 e27 d27 (by decide) (by omega) (by omega) (by omega) (by show (i : Int) + 6 ≤ (W.N : Int); omega) hI h5 h6 kl
      · rw [e]
        exact la_59 (W := fWl W (2 * (k + 1))) (s := s) hs v28 a28 b28 e28 d28 v29 a29 b29 e29 d29 (by decide) (by omega) (by omega) (by omega) (by show (i : Int) + 6 ≤ (W.N : Int); omega) hI h5 h6 kl
      · rw [e]
        exact la_60 (W := fWl W (2 * (k + 1))) (s := s) hs v30 a30 b30 e30 d30 v31 a31 b31 e31 d31 (by decide) (by omega) (by omega) (by omega) (by show (i : Int) + 6 ≤ (W.N : Int); omega) hI h5 h6 kl
      · rw [← e]
        exact fx_case (W := fWl W (2 * (k + 1))) (l := 2 * k) (r2 := 2 * k + 2) (s := s) (hC.all q hq) hd hs hN hi6 hI h5 h6 (by show 2 + 2 * k ≤ 2 * (k + 1); omega) (by omega) kq
-- KW AbsentRings.feed x i i i i i
-- KW AbsentRingsModel.feed m i i i i i
-- KW AbsentRingsLaw.house x out
-- KW AbsentRingsModel.house m
-- KW AbsentRingsLaw.law(L x out
-- KW AbsentRingsModel.law m
-- KW AbsentRingsLaw.leave x i out
-- KW AbsentRingsModel.leave m i
-- KW AbsentRingsLaw.home x i out
-- KW AbsentRingsModel.home m i
-- KW AbsentRingsLaw.serve x i out
-- KW AbsentRingsModel.serve m i
-- KW AbsentRingsLaw.off x i out
-- KW AbsentRingsModel.off m i
-- KW AbsentRingsLaw.rise x i out
-- KW AbsentRingsModel.rise m i
-- KW AbsentRingsLaw.vote x i i out
-- KW AbsentRingsModel.vote m i i
-- KW AbsentRingsLaw.promise x i i out
-- KW AbsentRingsModel.promise m i i
-- KW AbsentRingsLaw.nights x i out
-- KW AbsentRingsModel.nights m i
-- KW AbsentRings.seed x i
-- KW AbsentRingsModel.seed m i
-- KW AbsentRings.undo x
-- KW AbsentRingsModel.undo m
-- KW AbsentRings.image x
-- KW AbsentRingsModel.image m
-- KW AbsentRings.back x
-- KW AbsentRingsModel.back m
-- KW AbsentRings.count x i
-- KW AbsentRingsModel.count m i
