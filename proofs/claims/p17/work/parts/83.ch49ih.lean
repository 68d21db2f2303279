/-! fx: draws, members of a set, bits: both sides -/
/-- the draws go on -/
noncomputable def nxS (s : Int) : Int := fop 0 (1103515245 * s) 12345
/-- what is drawn -/
noncomputable def dwS (s : Int) : Int := fop 3 (fop 8 s 16) 32767
theorem fop_and15 (x : Int) : 0 ≤ fop 3 x 32767 ∧ fop 3 x 32767 ≤ 32767 := by
  have e : sx_bf 3 (Int32.ofInt x) (Int32.ofInt 32767) = Int32.ofInt x &&& Int32.ofInt 32767 := rfl
  have t : (Int32.ofInt x &&& Int32.ofInt 32767).toBitVec.toNat ≤ 32767 := by
    rw [Int32.toBitVec_and, BitVec.toNat_and]
    exact Nat.and_le_right
  unfold fop
  rw [e]
  show 0 ≤ (Int32.ofInt x &&& Int32.ofInt 32767).toBitVec.toInt ∧ (Int32.ofInt x &&& Int32.ofInt 32767).toBitVec.toInt ≤ 32767
  rw [BitVec.toInt_eq_toNat_of_lt (by omega)]
  omega
theorem dwS_b (s : Int) : 0 ≤ dwS s ∧ dwS s ≤ 32767 := fop_and15 _
theorem fop_1s {x y : Int} (h : fR (x - y)) : fop 1 x y = x - y := fI_inj (fop_R _ _ _) h (fI_sub x y)
theorem fop_2s {x y : Int} (h : fR (x * y)) : fop 2 x y = x * y := fI_inj (fop_R _ _ _) h (fI_mul x y)
theorem fop_10 (d n : Int) : fop 10 d n = fop 1 d (fop 2 (fop 9 d n) n) := by
  have e1 : fop 10 d n = (Int32.ofInt d - Int32.ofInt d / Int32.ofInt n * Int32.ofInt n).toInt := rfl
  have e2 : fop 9 d n = (Int32.ofInt d / Int32.ofInt n).toInt := rfl
  have e3 : fop 2 (fop 9 d n) n = (Int32.ofInt (fop 9 d n) * Int32.ofInt n).toInt := rfl
  have e4 : fop 1 d (fop 2 (fop 9 d n) n) = (Int32.ofInt d - Int32.ofInt (fop 2 (fop 9 d n) n)).toInt := rfl
  rw [e4, e3, e2, Int32.ofInt_toInt, Int32.ofInt_toInt, e1]
theorem fop_9 {d n : Int} (h0 : 0 ≤ d) (h1 : d ≤ 2147483647) (n0 : 0 < n) (n1 : n ≤ 2147483647) : fop 9 d n = d / n := by
  have e2 : fop 9 d n = (Int32.ofInt d / Int32.ofInt n).toInt := rfl
  have l0 : 0 ≤ d / n := Int.ediv_nonneg h0 (by omega)
  have l1 : d / n ≤ d := Int.ediv_le_self _ h0
  rw [e2, Int32.toInt_div, Int32.toInt_ofInt_of_le (by omega) (by omega), Int32.toInt_ofInt_of_le (by omega) (by omega), Int.tdiv_eq_ediv_of_nonneg h0]
  exact Int.bmod_eq_of_le (by omega) (by omega)
theorem fop_rm {d n : Int} (h0 : 0 ≤ d) (h1 : d ≤ 2147483647) (n0 : 0 < n) (n1 : n ≤ 2147483647) : fop 10 d n = d % n := by
  have l0 : 0 ≤ d / n := Int.ediv_nonneg h0 (by omega)
  have m0 : 0 ≤ d % n := Int.emod_nonneg _ (by omega)
  have m1 : d % n < n := Int.emod_lt_of_pos _ n0
  have k := Int.mul_ediv_add_emod d n
  have k2 : d / n * n = d - d % n := by rw [Int.mul_comm]; omega
  have q0 : 0 ≤ d / n * n := Int.mul_nonneg l0 (by omega)
  rw [fop_10, fop_9 h0 h1 n0 n1, fop_2s (by unfold fR; omega), fop_1s (by unfold fR; omega)]
  omega
theorem fop_rm_b {d n : Int} (h0 : 0 ≤ d) (h1 : d ≤ 2147483647) (n0 : 0 < n) (n1 : n ≤ 2147483647) : 0 ≤ fop 10 d n ∧ fop 10 d n < n := by
  rw [fop_rm h0 h1 n0 n1]
  exact ⟨Int.emod_nonneg _ (by omega), Int.emod_lt_of_pos _ n0⟩
theorem i32_n0 {n : Int} (n0 : 0 < n) (n1 : n ≤ 2147483647) : ¬ Int32.ofInt n = 0 := fun h => by
  have h2 := congrArg Int32.toInt h
  rw [Int32.toInt_ofInt_of_le (by omega) (by omega)] at h2
  have h2 : n = 0 := h2
  omega
/-- how many of the lowest bits of a set -/
noncomputable def pB (s : Int) : Nat → Int
  | 0 => 0
  | k + 1 => pB s k + fop 3 (fop 7 s (k : Int)) 1
/-- the member of a number, of those from i on -/
noncomputable def pKl (s k : Int) : Nat → Int → Int → Int
  | 0, _, _ => -1
  | l + 1, i, n => if fbt s i = 1 then (if n = k then i else pKl s k l (i + 1) (n + 1)) else pKl s k l (i + 1) n
noncomputable def pKt (s k : Int) : Int := pKl s k 8 0 0
noncomputable def pMl (s : Int) : Nat → Int
  | 0 => s
  | n + 1 => fop 3 (pMl s n) (pMl s n - 1)
theorem pB_8 : ∀ q : Fin 256, 0 ≤ pB ((q.val : Nat) : Int) 31 ∧ pB ((q.val : Nat) : Int) 31 ≤ 8 ∧ (q.val ≠ 0 → 1 ≤ pB ((q.val : Nat) : Int) 31) ∧ (q.val = 0 → pB ((q.val : Nat) : Int) 31 = 0) := by decide +kernel
theorem pB_b {s : Int} (h0 : 0 ≤ s) (h1 : s ≤ 255) : 0 ≤ pB s 31 ∧ pB s 31 ≤ 8 ∧ (s ≠ 0 → 1 ≤ pB s 31) ∧ (s = 0 → pB s 31 = 0) := by
  have h := pB_8 ⟨s.toNat, by omega⟩
  have e : ((s.toNat : Nat) : Int) = s := by omega
  dsimp only at h
  rw [e] at h
  exact ⟨h.1, h.2.1, fun t => h.2.2.1 (by omega), fun t => h.2.2.2 (by omega)⟩
theorem pM_0 : ∀ q : Fin 64, ∀ n : Fin 8, ((n.val : Nat) : Int) < pB ((q.val : Nat) : Int) 31 → 1 ≤ pMl ((q.val : Nat) : Int) n.val ∧ pMl ((q.val : Nat) : Int) n.val ≤ 255 ∧ pKl (pMl ((q.val : Nat) : Int) n.val) 0 8 0 0 = pKl ((q.val : Nat) : Int) ((n.val : Nat) : Int) 8 0 0 ∧ 0 ≤ pKl ((q.val : Nat) : Int) ((n.val : Nat) : Int) 8 0 0 ∧ pKl ((q.val : Nat) : Int) ((n.val : Nat) : Int) 8 0 0 ≤ 7 := by decide +kernel
theorem pM_1 : ∀ q : Fin 64, ∀ n : Fin 8, ((n.val : Nat) : Int) < pB ((q.val + 64 : Nat) : Int) 31 → 1 ≤ pMl ((q.val + 64 : Nat) : Int) n.val ∧ pMl ((q.val + 64 : Nat) : Int) n.val ≤ 255 ∧ pKl (pMl ((q.val + 64 : Nat) : Int) n.val) 0 8 0 0 = pKl ((q.val + 64 : Nat) : Int) ((n.val : Nat) : Int) 8 0 0 ∧ 0 ≤ pKl ((q.val + 64 : Nat) : Int) ((n.val : Nat) : Int) 8 0 0 ∧ pKl ((q.val + 64 : Nat) : Int) ((n.val : Nat) : Int) 8 0 0 ≤ 7 := by decide +kernel
theorem pM_2 : ∀ q : Fin 64, ∀ n : Fin 8, ((n.val : Nat) : Int) < pB ((q.val + 128 : Nat) : Int) 31 → 1 ≤ pMl ((q.val + 128 : Nat) : Int) n.val ∧ pMl ((q.val + 128 : Nat) : Int) n.val ≤ 255 ∧ pKl (pMl ((q.val + 128 : Nat) : Int) n.val) 0 8 0 0 = pKl ((q.val + 128 : Nat) : Int) ((n.val : Nat) : Int) 8 0 0 ∧ 0 ≤ pKl ((q.val + 128 : Nat) : Int) ((n.val : Nat) : Int) 8 0 0 ∧ pKl ((q.val + 128 : Nat) : Int) ((n.val : Nat) : Int) 8 0 0 ≤ 7 := by decide +kernel
theorem pM_3 : ∀ q : Fin 64, ∀ n : Fin 8, ((n.val : Nat) : Int) < pB ((q.val + 192 : Nat) : Int) 31 → 1 ≤ pMl ((q.val + 192 : Nat) : Int) n.val ∧ pMl ((q.val + 192 : Nat) : Int) n.val ≤ 255 ∧ pKl (pMl ((q.val + 192 : Nat) : Int) n.val) 0 8 0 0 = pKl ((q.val + 192 : Nat) : Int) ((n.val : Nat) : Int) 8 0 0 ∧ 0 ≤ pKl ((q.val + 192 : Nat) : Int) ((n.val : Nat) : Int) 8 0 0 ∧ pKl ((q.val + 192 : Nat) : Int) ((n.val : Nat) : Int) 8 0 0 ≤ 7 := by decide +kernel
/-- the class's member is the reference's -/
theorem pM_ok {s n : Int} (s0 : 0 ≤ s) (s1 : s ≤ 255) (n0 : 0 ≤ n) (n1 : n < pB s 31) : 1 ≤ pMl s n.toNat ∧ pMl s n.toNat ≤ 255 ∧ pKt (pMl s n.toNat) 0 = pKt s n ∧ 0 ≤ pKt s n ∧ pKt s n ≤ 7 := by
  have hb := pB_b s0 s1
  have en : ((n.toNat : Nat) : Int) = n := by omega
  unfold pKt
  have go : ∀ (b : Nat) (q : Nat), ((q + b : Nat) : Int) = s → (((n.toNat : Nat) : Int) < pB ((q + b : Nat) : Int) 31 → 1 ≤ pMl ((q + b : Nat) : Int) n.toNat ∧ pMl ((q + b : Nat) : Int) n.toNat ≤ 255 ∧ pKl (pMl ((q + b : Nat) : Int) n.toNat) 0 8 0 0 = pKl ((q + b : Nat) : Int) ((n.toNat : Nat) : Int) 8 0 0 ∧ 0 ≤ pKl ((q + b : Nat) : Int) ((n.toNat : Nat) : Int) 8 0 0 ∧ pKl ((q + b : Nat) : Int) ((n.toNat : Nat) : Int) 8 0 0 ≤ 7) → 1 ≤ pMl s n.toNat ∧ pMl s n.toNat ≤ 255 ∧ pKl (pMl s n.toNat) 0 8 0 0 = pKl s n 8 0 0 ∧ 0 ≤ pKl s n 8 0 0 ∧ pKl s n 8 0 0 ≤ 7 := fun b q e h => by
    rw [e, en] at h
    exact h n1
  rcases (by omega : s < 64 ∨ (64 ≤ s ∧ s < 128) ∨ (128 ≤ s ∧ s < 192) ∨ 192 ≤ s) with h | h | h | h
  · exact go 0 s.toNat (by omega) (pM_0 ⟨s.toNat, by omega⟩ ⟨n.toNat, by omega⟩)
  · exact go 64 (s.toNat - 64) (by omega) (pM_1 ⟨s.toNat - 64, by omega⟩ ⟨n.toNat, by omega⟩)
  · exact go 128 (s.toNat - 128) (by omega) (pM_2 ⟨s.toNat - 128, by omega⟩ ⟨n.toNat, by omega⟩)
  · exact go 192 (s.toNat - 192) (by omega) (pM_3 ⟨s.toNat - 192, by omega⟩ ⟨n.toNat, by omega⟩)
section FIH
variable {W : ax_W} {r : Nat} {g : Nat → Nat → Int} {Q : Nat → Nat → (Nat → Nat → Int) → Prop}
theorem sp_bitCount8 {s : Int} (h0 : 0 ≤ s) (h1 : s ≤ 255) (kq : Q 1 (fI (pB s 31)) g) : fx W r 0 20 0 [fI s] [] g Q := by
  refine fx_li 0 1 (by decide +kernel) rfl ?_
  refine fx_li 0 2 (by decide +kernel) rfl ?_
  refine fx_ci (1) 3 (by decide +kernel) ?_
  refine fx_bin 8 4 (by decide +kernel) rfl (fun h => absurd h (by decide)) ?_
  refine fx_ci (1431655765) 7 (by decide +kernel) ?_
  refine fx_bin 3 8 (by decide +kernel) rfl (fun h => absurd h (by decide)) ?_
  refine fx_sub 9 (by decide +kernel) rfl ?_
  refine fx_si 0 10 (by decide +kernel) (Or.inl rfl) rfl ?_
  dsimp only [List.set]
  refine fx_li 0 11 (by decide +kernel) rfl ?_
  refine fx_ci (858993459) 14 (by decide +kernel) ?_
  refine fx_bin 3 15 (by decide +kernel) rfl (fun h => absurd h (by decide)) ?_
  refine fx_li 0 16 (by decide +kernel) rfl ?_
  refine fx_ci (2) 17 (by decide +kernel) ?_
  refine fx_bin 8 18 (by decide +kernel) rfl (fun h => absurd h (by decide)) ?_
  refine fx_ci (858993459) 21 (by decide +kernel) ?_
  refine fx_bin 3 22 (by decide +kernel) rfl (fun h => absurd h (by decide)) ?_
  refine fx_add 23 (by decide +kernel) rfl ?_
  refine fx_si 0 24 (by decide +kernel) (Or.inl rfl) rfl ?_
  dsimp only [List.set]
  refine fx_li 0 25 (by decide +kernel) rfl ?_
  refine fx_li 0 26 (by decide +kernel) rfl ?_
  refine fx_ci (4) 27 (by decide +kernel) ?_
  refine fx_bin 8 28 (by decide +kernel) rfl (fun h => absurd h (by decide)) ?_
  refine fx_add 29 (by decide +kernel) rfl ?_
  refine fx_ci (252645135) 32 (by decide +kernel) ?_
  refine fx_bin 3 33 (by decide +kernel) rfl (fun h => absurd h (by decide)) ?_
  refine fx_si 0 34 (by decide +kernel) (Or.inl rfl) rfl ?_
  dsimp only [List.set]
  refine fx_li 0 35 (by decide +kernel) rfl ?_
  refine fx_li 0 36 (by decide +kernel) rfl ?_
  refine fx_ci (8) 38 (by decide +kernel) ?_
  refine fx_bin 8 39 (by decide +kernel) rfl (fun h => absurd h (by decide)) ?_
  refine fx_add 40 (by decide +kernel) rfl ?_
  refine fx_si 0 41 (by decide +kernel) (Or.inl rfl) rfl ?_
  dsimp only [List.set]
  refine fx_li 0 42 (by decide +kernel) rfl ?_
  refine fx_li 0 43 (by decide +kernel) rfl ?_
  refine fx_ci (16) 45 (by decide +kernel) ?_
  refine fx_bin 8 46 (by decide +kernel) rfl (fun h => absurd h (by decide)) ?_
  refine fx_add 47 (by decide +kernel) rfl ?_
  refine fx_si 0 48 (by decide +kernel) (Or.inl rfl) rfl ?_
  dsimp only [List.set]
  refine fx_li 0 49 (by decide +kernel) rfl ?_
  refine fx_ci (63) 51 (by decide +kernel) ?_
  refine fx_bin 3 52 (by decide +kernel) rfl (fun h => absurd h (by decide)) ?_
  refine fx_ret (by decide +kernel) ?_
  refine Eq.mp (congrArg (fun z => Q 1 (fI z) g) ?_) kq
  obtain ⟨q, rfl⟩ : ∃ q : Fin 256, s = ((q.val : Nat) : Int) := ⟨⟨s.toNat, by omega⟩, by show s = ((s.toNat : Nat) : Int); omega⟩
  clear kq h0 h1
  revert q
  decide +kernel
theorem sp_mbits8_1 {s : Int} (kq : Q 1 (fI (pB s 31)) g) : ∀ (l k : Nat), k + l = 31 → fx W r 0 329 4 [fI s, fI (pB s k), fI (k : Int)] [] g Q
  | l, k, hl => by
    refine fx_li 2 5 (by decide +kernel) rfl ?_
    refine fx_ci (31) 7 (by decide +kernel) ?_
    refine fx_ige 24 10 (by decide +kernel) (by unfold fR; omega) (by unfold fR; omega) (fun h7 => ?_) (fun h7 => ?_)
    · refine fx_li 1 25 (by decide +kernel) rfl ?_
      refine fx_ret (by decide +kernel) ?_
      have e : k = 31 := by omega
      subst e
      exact kq
    · refine fx_li 1 11 (by decide +kernel) rfl ?_
      refine fx_li 0 12 (by decide +kernel) rfl ?_
      refine fx_li 2 13 (by decide +kernel) rfl ?_
      refine fx_bin 7 14 (by decide +kernel) rfl (fun h => absurd h (by decide)) ?_
      refine fx_ci (1) 15 (by decide +kernel) ?_
      refine fx_bin 3 16 (by decide +kernel) rfl (fun h => absurd h (by decide)) ?_
      refine fx_add 17 (by decide +kernel) rfl ?_
      refine fx_si 1 18 (by decide +kernel) (Or.inr (fI_n4 _)) rfl ?_
      dsimp only [List.set]
      refine fx_inc 2 21 (1) (by decide +kernel) rfl (Or.inr (fI_n4 _)) rfl ?_
      dsimp only [List.set]
      refine fx_go 4 (by decide +kernel) ?_
      match l, hl with
      | 0, hl => exfalso; omega
      | l + 1, hl => exact sp_mbits8_1 kq l (k + 1) (by omega)
theorem sp_mbits8 {s : Int} (kq : Q 1 (fI (pB s 31)) g) : fx W r 0 329 0 [fI s, 7, 7] [] g Q := by
  refine fx_ci (0) 1 (by decide +kernel) ?_
  refine fx_si 1 2 (by decide +kernel) (Or.inr (fI_n4 _)) rfl ?_
  dsimp only [List.set]
  refine fx_ci (0) 3 (by decide +kernel) ?_
  refine fx_si 2 4 (by decide +kernel) (Or.inr (fI_n4 _)) rfl ?_
  dsimp only [List.set]
  exact sp_mbits8_1 kq 31 0 rfl
theorem tz_1 : ∀ q : Fin 256, q.val ≠ 0 → (fop 3 (fop 5 ((q.val : Nat) : Int) (-1)) (((q.val : Nat) : Int) - 1) ≤ 0 → fop 3 (fop 3 (fop 5 ((q.val : Nat) : Int) (-1)) (((q.val : Nat) : Int) - 1)) 32 = pKl ((q.val : Nat) : Int) 0 8 0 0) ∧ fop 3 (fop 5 ((q.val : Nat) : Int) (-1)) (((q.val : Nat) : Int) - 1) < 256 ∧ 0 ≤ fop 3 (fop 5 ((q.val : Nat) : Int) (-1)) (((q.val : Nat) : Int) - 1) := by decide +kernel
noncomputable def tzR (y : Int) : Int := if 16 < y then (if 4 < fop 8 y 4 then (1 + 4 + 2) + fop 8 (fop 8 (fop 8 y 4) 2) 1 else (1 + 4) + fop 8 (fop 8 y 4) 1) else (if 4 < y then (1 + 2) + fop 8 (fop 8 y 2) 1 else 1 + fop 8 y 1)
theorem tz_2 : ∀ q : Fin 256, q.val ≠ 0 → 0 < fop 3 (fop 5 ((q.val : Nat) : Int) (-1)) (((q.val : Nat) : Int) - 1) → tzR (fop 3 (fop 5 ((q.val : Nat) : Int) (-1)) (((q.val : Nat) : Int) - 1)) = pKl ((q.val : Nat) : Int) 0 8 0 0 := by decide +kernel
theorem sp_ntz8 {s : Int} (h0 : 1 ≤ s) (h1 : s ≤ 255) (kq : Q 1 (fI (pKt s 0)) g) : fx W r 0 32 0 [fI s, 7] [] g Q := by
  unfold pKt at kq
  have t1 := tz_1 ⟨s.toNat, by omega⟩ (by show s.toNat ≠ 0; omega)
  have t2 := tz_2 ⟨s.toNat, by omega⟩ (by show s.toNat ≠ 0; omega)
  have e : ((s.toNat : Nat) : Int) = s := by omega
  dsimp only at t1 t2
  rw [e] at t1 t2
  refine fx_li 0 1 (by decide +kernel) rfl ?_
  refine fx_cn (-1) 2 (by decide +kernel) (fun v1 c1 => ?_)
  refine fx_bin 5 3 (by decide +kernel) rfl (fun h => absurd h (by decide)) ?_
  subst c1
  refine fx_li 0 4 (by decide +kernel) rfl ?_
  refine fx_ci (1) 5 (by decide +kernel) ?_
  refine fx_sub 6 (by decide +kernel) rfl ?_
  refine fx_bin 3 7 (by decide +kernel) rfl (fun h => absurd h (by decide)) ?_
  refine fx_si 0 8 (by decide +kernel) (Or.inl rfl) rfl ?_
  dsimp only [List.set]
  generalize fop 3 (fop 5 s (-1)) (s - 1) = y at *
  have f84 := fop_R 8 y 4
  have f82 := fop_R 8 y 2
  have f842 := fop_R 8 (fop 8 y 4) 2
  unfold fR at f84 f82 f842
  unfold tzR at t2
  refine fx_li 0 9 (by decide +kernel) rfl ?_
  refine fx_zgt 17 12 (by decide +kernel) (by first | exact fop_R _ _ _ | (unfold fR; omega)) (fun h9 => ?_) (fun h9 => ?_)
  · refine fx_ci (1) 18 (by decide +kernel) ?_
    refine fx_si 1 19 (by decide +kernel) (Or.inr (fI_n4 _)) rfl ?_
    dsimp only [List.set]
    refine fx_li 0 20 (by decide +kernel) rfl ?_
    refine fx_ci (65536) 23 (by decide +kernel) ?_
    refine fx_ile 34 26 (by decide +kernel) (by first | exact fop_R _ _ _ | (unfold fR; omega)) (by unfold fR; omega) (fun h23 => ?_) (fun h23 => ?_)
    · refine fx_li 0 35 (by decide +kernel) rfl ?_
      refine fx_ci (256) 38 (by decide +kernel) ?_
      refine fx_ile 49 41 (by decide +kernel) (by first | exact fop_R _ _ _ | (unfold fR; omega)) (by unfold fR; omega) (fun h38 => ?_) (fun h38 => ?_)
      · refine fx_li 0 50 (by decide +kernel) rfl ?_
        refine fx_ci (16) 52 (by decide +kernel) ?_
        refine fx_ile 62 55 (by decide +kernel) (by first | exact fop_R _ _ _ | (unfold fR; omega)) (by unfold fR; omega) (fun h52 => ?_) (fun h52 => ?_)
        · refine fx_li 0 63 (by decide +kernel) rfl ?_
          refine fx_ci (4) 64 (by decide +kernel) ?_
          refine fx_ile 74 67 (by decide +kernel) (by first | exact fop_R _ _ _ | (unfold fR; omega)) (by unfold fR; omega) (fun h64 => ?_) (fun h64 => ?_)
          · refine fx_li 1 75 (by decide +kernel) rfl ?_
            refine fx_li 0 76 (by decide +kernel) rfl ?_
            refine fx_ci (1) 77 (by decide +kernel) ?_
            refine fx_bin 8 78 (by decide +kernel) rfl (fun h => absurd h (by decide)) ?_
            refine fx_add 79 (by decide +kernel) rfl ?_
            refine fx_ret (by decide +kernel) ?_
            rw [if_neg (by omega), if_neg (by omega)] at t2
            rw [← t2 (by omega)] at kq
            exact kq
          · refine fx_inc 1 70 (2) (by decide +kernel) rfl (Or.inr (fI_n4 _)) rfl ?_
            dsimp only [List.set]
            refine fx_li 0 71 (by decide +kernel) rfl ?_
            refine fx_ci (2) 72 (by decide +kernel) ?_
            refine fx_bin 8 73 (by decide +kernel) rfl (fun h => absurd h (by decide)) ?_
            refine fx_si 0 74 (by decide +kernel) (Or.inl rfl) rfl ?_
            dsimp only [List.set]
            refine fx_li 1 75 (by decide +kernel) rfl ?_
            refine fx_li 0 76 (by decide +kernel) rfl ?_
            refine fx_ci (1) 77 (by decide +kernel) ?_
            refine fx_bin 8 78 (by decide +kernel) rfl (fun h => absurd h (by decide)) ?_
            refine fx_add 79 (by decide +kernel) rfl ?_
            refine fx_ret (by decide +kernel) ?_
            rw [if_neg (by omega), if_pos (by omega)] at t2
            rw [← t2 (by omega)] at kq
            exact kq
        · refine fx_inc 1 58 (4) (by decide +kernel) rfl (Or.inr (fI_n4 _)) rfl ?_
          dsimp only [List.set]
          refine fx_li 0 59 (by decide +kernel) rfl ?_
          refine fx_ci (4) 60 (by decide +kernel) ?_
          refine fx_bin 8 61 (by decide +kernel) rfl (fun h => absurd h (by decide)) ?_
          refine fx_si 0 62 (by decide +kernel) (Or.inl rfl) rfl ?_
          dsimp only [List.set]
          refine fx_li 0 63 (by decide +kernel) rfl ?_
          refine fx_ci (4) 64 (by decide +kernel) ?_
          refine fx_ile 74 67 (by decide +kernel) (by first | exact fop_R _ _ _ | (unfold fR; omega)) (by unfold fR; omega) (fun h64 => ?_) (fun h64 => ?_)
          · refine fx_li 1 75 (by decide +kernel) rfl ?_
            refine fx_li 0 76 (by decide +kernel) rfl ?_
            refine fx_ci (1) 77 (by decide +kernel) ?_
            refine fx_bin 8 78 (by decide +kernel) rfl (fun h => absurd h (by decide)) ?_
            refine fx_add 79 (by decide +kernel) rfl ?_
            refine fx_ret (by decide +kernel) ?_
            rw [if_pos (by omega), if_neg (by omega)] at t2
            rw [← t2 (by omega)] at kq
            exact kq
          · refine fx_inc 1 70 (2) (by decide +kernel) rfl (Or.inr (fI_n4 _)) rfl ?_
            dsimp only [List.set]
            refine fx_li 0 71 (by decide +kernel) rfl ?_
            refine fx_ci (2) 72 (by decide +kernel) ?_
            refine fx_bin 8 73 (by decide +kernel) rfl (fun h => absurd h (by decide)) ?_
            refine fx_si 0 74 (by decide +kernel) (Or.inl rfl) rfl ?_
            dsimp only [List.set]
            refine fx_li 1 75 (by decide +kernel) rfl ?_
            refine fx_li 0 76 (by decide +kernel) rfl ?_
            refine fx_ci (1) 77 (by decide +kernel) ?_
            refine fx_bin 8 78 (by decide +kernel) rfl (fun h => absurd h (by decide)) ?_
            refine fx_add 79 (by decide +kernel) rfl ?_
            refine fx_ret (by decide +kernel) ?_
            rw [if_pos (by omega), if_pos (by omega)] at t2
            rw [← t2 (by omega)] at kq
            exact kq
      · exfalso; omega
    · exfalso; omega
  · refine fx_li 0 13 (by decide +kernel) rfl ?_
    refine fx_ci (32) 15 (by decide +kernel) ?_
    refine fx_bin 3 16 (by decide +kernel) rfl (fun h => absurd h (by decide)) ?_
    refine fx_ret (by decide +kernel) ?_
    rw [t1.1 (by omega)]
    exact kq
theorem sp_cmem_1 {s n : Int} (s0 : 0 ≤ s) (s1 : s ≤ 255) (n0 : 0 ≤ n) (n1 : n < pB s 31) (kq : Q 1 (fI (pKt s n)) g) : ∀ (l k : Nat), (k : Int) + l = n → fx W r 1 164 4 [fI s, fI n, fI (pMl s k), fI (k : Int)] [] g Q
  | l, k, hl => by
    have hb := pB_b s0 s1
    obtain ⟨m1, m2, m3, m4, m5⟩ := pM_ok s0 s1 n0 n1
    refine fx_li 3 5 (by decide +kernel) rfl ?_
    refine fx_li 1 6 (by decide +kernel) rfl ?_
    refine fx_ige 21 9 (by decide +kernel) (by unfold fR; omega) (by unfold fR; omega) (fun h6 => ?_) (fun h6 => ?_)
    · refine fx_li 2 22 (by decide +kernel) rfl ?_
      refine fx_c1 32 22 25 0 [7] (f_q22 (by decide +kernel)) (fI_n4 _) rfl (by first | decide | omega) ?_
      have e : k = n.toNat := by omega
      subst e
      refine sp_ntz8 m1 m2 (fK1 ?_)
      rw [m3]
      refine fx_ret (by decide +kernel) ?_
      exact kq
    · refine fx_li 2 10 (by decide +kernel) rfl ?_
      refine fx_li 2 11 (by decide +kernel) rfl ?_
      refine fx_ci (1) 12 (by decide +kernel) ?_
      refine fx_sub 13 (by decide +kernel) rfl ?_
      refine fx_bin 3 14 (by decide +kernel) rfl (fun h => absurd h (by decide)) ?_
      refine fx_si 2 15 (by decide +kernel) (Or.inr (fI_n4 _)) rfl ?_
      dsimp only [List.set]
      refine fx_inc 3 18 (1) (by decide +kernel) rfl (Or.inr (fI_n4 _)) rfl ?_
      dsimp only [List.set]
      refine fx_go 4 (by decide +kernel) ?_
      match l, hl with
      | 0, hl => exfalso; omega
      | l + 1, hl => exact sp_cmem_1 s0 s1 n0 n1 kq l (k + 1) (by omega)
theorem sp_cmem {s n : Int} (s0 : 0 ≤ s) (s1 : s ≤ 255) (n0 : 0 ≤ n) (n1 : n < pB s 31) (kq : Q 1 (fI (pKt s n)) g) : fx W r 1 164 0 [fI s, fI n, 7, 7] [] g Q := by
  refine fx_li 0 1 (by decide +kernel) rfl ?_
  refine fx_si 2 2 (by decide +kernel) (Or.inr (fI_n4 _)) rfl ?_
  dsimp only [List.set]
  refine fx_ci (0) 3 (by decide +kernel) ?_
  refine fx_si 3 4 (by decide +kernel) (Or.inr (fI_n4 _)) rfl ?_
  dsimp only [List.set]
  exact sp_cmem_1 s0 s1 n0 n1 kq n.toNat 0 (by omega)
theorem sp_mkth_1 {s k : Int} (hk : fR k) (kq : Q 1 (fI (pKt s k)) g) : ∀ (l : Nat) (i n : Int), i + l = 8 → 0 ≤ i → 0 ≤ n → n ≤ i → pKl s k l i n = pKt s k → fx W r 1 330 4 [fI s, fI k, fI n, fI i] [] g Q
  | l, i, n, hl, i0, n0, ni, e => by
    have hk2 := hk
    unfold fR at hk2
    refine fx_li 3 5 (by decide +kernel) rfl ?_
    refine fx_ci (8) 7 (by decide +kernel) ?_
    refine fx_ige 37 10 (by decide +kernel) (by unfold fR; omega) (by unfold fR; omega) (fun h7 => ?_) (fun h7 => ?_)
    · refine fx_cn (-1) 38 (by decide +kernel) (fun v37 c37 => ?_)
      refine fx_ret (by decide +kernel) ?_
      have e0 : l = 0 := by omega
      subst e0
      have e : (-1 : Int) = pKt s k := e
      rw [c37, e]
      exact kq
    · refine fx_li 0 11 (by decide +kernel) rfl ?_
      refine fx_li 3 12 (by decide +kernel) rfl ?_
      refine fx_c2 307 22 15 0 [] (f_q22 (by decide +kernel)) (by decide) (fI_n4 _) (fI_n4 _) rfl (by first | decide | omega) ?_
      refine sp_misOf (fK1 ?_)
      have h01 := fbt_01 s i
      obtain ⟨l', rfl⟩ : ∃ l', l = l' + 1 := ⟨l - 1, by omega⟩
      have e : (if fbt s i = 1 then (if n = k then i else pKl s k l' (i + 1) (n + 1)) else pKl s k l' (i + 1) n) = pKt s k := e
      refine fx_zne 21 18 (by decide +kernel) (by unfold fR; omega) (fun h15 => ?_) (fun h15 => ?_)
      · refine fx_li 2 22 (by decide +kernel) rfl ?_
        refine fx_li 1 23 (by decide +kernel) rfl ?_
        refine fx_ine 28 26 (by decide +kernel) (by unfold fR; omega) (by unfold fR; omega) (fun h23 => ?_) (fun h23 => ?_)
        · refine fx_inc 2 31 (1) (by decide +kernel) rfl (Or.inr (fI_n4 _)) rfl ?_
          dsimp only [List.set]
          refine fx_inc 3 34 (1) (by decide +kernel) rfl (Or.inr (fI_n4 _)) rfl ?_
          dsimp only [List.set]
          refine fx_go 4 (by decide +kernel) ?_
          rw [if_pos (by omega), if_neg (by omega)] at e
          exact sp_mkth_1 hk kq l' (i + 1) (n + 1) (by omega) (by omega) (by omega) (by omega) e
        · refine fx_li 3 27 (by decide +kernel) rfl ?_
          refine fx_ret (by decide +kernel) ?_
          rw [if_pos (by omega), if_pos (by omega)] at e
          rw [e]
          exact kq
      · refine fx_go 31 (by decide +kernel) ?_
        refine fx_inc 3 34 (1) (by decide +kernel) rfl (Or.inr (fI_n4 _)) rfl ?_
        dsimp only [List.set]
        refine fx_go 4 (by decide +kernel) ?_
        rw [if_neg (by omega)] at e
        exact sp_mkth_1 hk kq l' (i + 1) n (by omega) (by omega) (by omega) (by omega) e
theorem sp_mkth {s k : Int} (hk : fR k) (kq : Q 1 (fI (pKt s k)) g) : fx W r 1 330 0 [fI s, fI k, 7, 7] [] g Q := by
  refine fx_ci (0) 1 (by decide +kernel) ?_
  refine fx_si 2 2 (by decide +kernel) (Or.inr (fI_n4 _)) rfl ?_
  dsimp only [List.set]
  refine fx_ci (0) 3 (by decide +kernel) ?_
  refine fx_si 3 4 (by decide +kernel) (Or.inr (fI_n4 _)) rfl ?_
  dsimp only [List.set]
  exact sp_mkth_1 hk kq 8 0 0 rfl (by decide) (by decide) (by decide) rfl
theorem sp_mdraw {G : Nat → Nat → Int} {t : Nat → Int} {n : Int} (n0 : 0 < n) (n1 : n ≤ 2147483647) (kq : Q 1 (fI (fop 10 (dwS (nxS (t 11))) n)) (frow G (tU t 11 (nxS (t 11))))) : fx W r 0 328 0 [1186, fI n] [] (frow G t) Q := by
  unfold dwS nxS at kq
  refine fx_la 0 1 (v := 1186) (by decide +kernel) rfl (by decide +kernel) ?_
  refine fx_gp 1186 148 1 1194 4 (by decide +kernel) ?_
  refine fx_ci (11) 6 (by decide +kernel) ?_
  refine fx_ci (1103515245) 8 (by decide +kernel) ?_
  refine fx_la 0 9 (v := 1186) (by decide +kernel) rfl (by decide +kernel) ?_
  refine fx_gp 1186 148 1 1194 12 (by decide +kernel) ?_
  refine fx_ci (11) 14 (by decide +kernel) ?_
  refine fx_al 1194 149 764 15 (by decide +kernel) rfl (by omega) (by omega) rfl ?_
  try simp only [fu_app, fcy_app, Nat.reduceEqDiff, and_true, and_false, false_and, true_and, if_true, if_false, ite_true, ite_false, reduceIte, Int.reduceToNat, fx_simp0]
  rw [frow_m]
  refine fx_mul 16 (by decide +kernel) rfl ?_
  refine fx_ci (12345) 19 (by decide +kernel) ?_
  refine fx_add 20 (by decide +kernel) rfl ?_
  rw [show fI (1103515245 * t 11 + 12345) = fI (fop 0 (1103515245 * t 11) 12345) from (fI_add _ _).symm]
  have rs := fop_R 0 (1103515245 * t 11) 12345
  unfold fR at rs
  refine fx_as 1194 149 764 21 (by decide +kernel) rfl (by omega) (by omega) rfl (by unfold fR; omega) ?_
  refine fx_la 0 22 (v := 1186) (by decide +kernel) rfl (by decide +kernel) ?_
  refine fx_gp 1186 148 1 1194 25 (by decide +kernel) ?_
  refine fx_ci (11) 27 (by decide +kernel) ?_
  refine fx_al 1194 149 764 28 (by decide +kernel) rfl (by omega) (by omega) rfl ?_
  try simp only [fu_app, fcy_app, Nat.reduceEqDiff, and_true, and_false, false_and, true_and, if_true, if_false, ite_true, ite_false, reduceIte, Int.reduceToNat, fx_simp0]
  rw [frow_fu]
  refine fx_ci (16) 30 (by decide +kernel) ?_
  refine fx_bin 8 31 (by decide +kernel) rfl (fun h => absurd h (by decide)) ?_
  refine fx_ci (32767) 34 (by decide +kernel) ?_
  refine fx_bin 3 35 (by decide +kernel) rfl (fun h => absurd h (by decide)) ?_
  refine fx_li 1 36 (by decide +kernel) rfl ?_
  refine fx_bin 10 37 (by decide +kernel) rfl (fun _ => i32_n0 n0 n1) ?_
  refine fx_ret (by decide +kernel) ?_
  exact kq
theorem sp_cdraw_table (kq : Q 1 (fI (dwS (nxS (g 16 10)))) (fu g 16 10 (nxS (g 16 10)))) : fx W r 0 163 0 [130] [] g Q := by
  unfold dwS nxS at kq
  refine fx_la 0 1 (v := 130) (by decide +kernel) rfl (by decide +kernel) ?_
  refine fx_ci (1103515245) 3 (by decide +kernel) ?_
  refine fx_la 0 4 (v := 130) (by decide +kernel) rfl (by decide +kernel) ?_
  refine fx_gi 130 16 10 7 (by decide +kernel) ?_
  refine fx_mul 8 (by decide +kernel) rfl ?_
  refine fx_ci (12345) 11 (by decide +kernel) ?_
  refine fx_add 12 (by decide +kernel) rfl ?_
  rw [show fI (1103515245 * g 16 10 + 12345) = fI (fop 0 (1103515245 * g 16 10) 12345) from (fI_add _ _).symm]
  have rs := fop_R 0 (1103515245 * g 16 10) 12345
  unfold fR at rs
  refine fx_pi 130 16 10 15 (by decide +kernel) (by unfold fR; omega) ?_
  refine fx_la 0 16 (v := 130) (by decide +kernel) rfl (by decide +kernel) ?_
  refine fx_gi 130 16 10 19 (by decide +kernel) ?_
  try simp only [fu_app, fcy_app, Nat.reduceEqDiff, and_true, and_false, false_and, true_and, if_true, if_false, ite_true, ite_false, reduceIte, Int.reduceToNat, fx_simp0]
  refine fx_ci (16) 21 (by decide +kernel) ?_
  refine fx_bin 8 22 (by decide +kernel) rfl (fun h => absurd h (by decide)) ?_
  refine fx_ci (32767) 25 (by decide +kernel) ?_
  refine fx_bin 3 26 (by decide +kernel) rfl (fun h => absurd h (by decide)) ?_
  refine fx_ret (by decide +kernel) ?_
  exact kq
theorem sp_cdraw_scratch (kq : Q 1 (fI (dwS (nxS (g 22 10)))) (fu g 22 10 (nxS (g 22 10)))) : fx W r 0 163 0 [178] [] g Q := by
  unfold dwS nxS at kq
  refine fx_la 0 1 (v := 178) (by decide +kernel) rfl (by decide +kernel) ?_
  refine fx_ci (1103515245) 3 (by decide +kernel) ?_
  refine fx_la 0 4 (v := 178) (by decide +kernel) rfl (by decide +kernel) ?_
  refine fx_gi 178 22 10 7 (by decide +kernel) ?_
  refine fx_mul 8 (by decide +kernel) rfl ?_
  refine fx_ci (12345) 11 (by decide +kernel) ?_
  refine fx_add 12 (by decide +kernel) rfl ?_
  rw [show fI (1103515245 * g 22 10 + 12345) = fI (fop 0 (1103515245 * g 22 10) 12345) from (fI_add _ _).symm]
  have rs := fop_R 0 (1103515245 * g 22 10) 12345
  unfold fR at rs
  refine fx_pi 178 22 10 15 (by decide +kernel) (by unfold fR; omega) ?_
  refine fx_la 0 16 (v := 178) (by decide +kernel) rfl (by decide +kernel) ?_
  refine fx_gi 178 22 10 19 (by decide +kernel) ?_
  try simp only [fu_app, fcy_app, Nat.reduceEqDiff, and_true, and_false, false_and, true_and, if_true, if_false, ite_true, ite_false, reduceIte, Int.reduceToNat, fx_simp0]
  refine fx_ci (16) 21 (by decide +kernel) ?_
  refine fx_bin 8 22 (by decide +kernel) rfl (fun h => absurd h (by decide)) ?_
  refine fx_ci (32767) 25 (by decide +kernel) ?_
  refine fx_bin 3 26 (by decide +kernel) rfl (fun h => absurd h (by decide)) ?_
  refine fx_ret (by decide +kernel) ?_
  exact kq
end FIH
