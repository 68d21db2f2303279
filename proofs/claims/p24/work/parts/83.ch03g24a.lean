/-! fx: the fewest dishes that tell all places apart, on both sides -/
/-- how many of the lowest bits of a set -/
noncomputable def pB (s : Int) : Nat → Int
  | 0 => 0
  | k + 1 => pB s k + fop 3 (fop 7 s (k : Int)) 1
theorem pB_b (s : Int) : ∀ k : Nat, 0 ≤ pB s k ∧ pB s k ≤ k
  | 0 => ⟨Int.le_refl _, Int.le_refl _⟩
  | k + 1 => by
    have h := pB_b s k
    have h1 := fop_1 (fop 7 s (k : Int))
    have e : pB s (k + 1) = pB s k + fop 3 (fop 7 s (k : Int)) 1 := rfl
    omega
noncomputable def pAp (e : Nat → Int) (n : Int) : Nat → Int → Int → Int
  | 0, _, f => f
  | l + 1, s, f => pAp e n l (s + 1) (if (f = -1 ∨ pB s 31 < pB f 31) ∧ pLk e n s = 0 then s else f)
theorem pAp_b (e : Nat → Int) (n : Int) : ∀ (l : Nat) (s f : Int), -1 ≤ f → f < s → -1 ≤ pAp e n l s f ∧ pAp e n l s f < s + l
  | 0, s, f, h1, h2 => ⟨h1, by show f < s + 0; omega⟩
  | l + 1, s, f, h1, h2 => by
    have e1 : ∃ f', (f' = s ∨ f' = f) ∧ pAp e n (l + 1) s f = pAp e n l (s + 1) f' := by
      refine ⟨_, ?_, rfl⟩
      split
      · exact Or.inl rfl
      · exact Or.inr rfl
    obtain ⟨f', h3, h4⟩ := e1
    have h5 := pAp_b e n l (s + 1) f' (by omega) (by omega)
    omega
theorem pAl_0 (e : Nat → Int) (n k o : Int) (hn : n ≤ 6) : pAl e n 0 k o 0 := fun d _ hd => Or.inl (by
  have h : ∀ q : Fin 6, fbt 0 ((q.val : Nat) : Int) = 0 := by unfold fbt; decide +kernel
  exact h ⟨d, by omega⟩)
theorem pCi_0 (e : Nat → Int) (n k : Int) (hn : n ≤ 6) : ∀ (l : Nat) (o c : Int), pCi e n 0 k l o c = c + l
  | 0, o, c => by show c = c + 0; omega
  | l + 1, o, c => by
    classical
    have h := pCi_0 e n k hn l (o + 1) (c + 1)
    have e1 : pCi e n 0 k (l + 1) o c = pCi e n 0 k l (o + 1) (c + (if pAl e n 0 k o 0 then 1 else 0)) := rfl
    rw [e1, if_pos (pAl_0 e n k o hn), h]
    omega
theorem pLk_0 (e : Nat → Int) (n : Int) (hn : n ≤ 6) : pLk e n 0 ≠ 0 := by
  have e1 : pLk e n 0 = pCo e n 0 7 ((0 : Int) + 1) (pCi e n 0 0 ((7 : Int) - 0).toNat ((0 : Int) + 1) 0) := rfl
  have e2 := pCi_0 e n 0 hn ((7 : Int) - 0).toNat ((0 : Int) + 1) 0
  have h := pCo_b e n 0 7 ((0 : Int) + 1) (pCi e n 0 0 ((7 : Int) - 0).toNat ((0 : Int) + 1) 0) (by decide)
  rw [e1]
  omega
theorem pAp_01 (e : Nat → Int) (n : Int) (hn : n ≤ 6) (l : Nat) : pAp e n (l + 1) 0 (-1) = pAp e n l 1 (-1) := by
  have h : pAp e n (l + 1) 0 (-1) = pAp e n l (0 + 1) _ := rfl
  rw [h, if_neg (fun t => pLk_0 e n hn t.2)]
  rfl
theorem f_shl : ∀ q : Fin 7, fop 6 1 ((q.val : Nat) : Int) = ((2 ^ q.val : Nat) : Int) := by decide +kernel
theorem f_shl1 {n : Int} (h0 : 0 ≤ n) (h6 : n ≤ 6) : 1 ≤ fop 6 1 n ∧ fop 6 1 n ≤ 64 := by
  have h := f_shl ⟨n.toNat, by omega⟩
  have e : ((n.toNat : Nat) : Int) = n := by omega
  dsimp only at h
  rw [e] at h
  rw [h]
  have h1 : 2 ^ n.toNat ≤ 2 ^ 6 := Nat.pow_le_pow_right (by decide) (by omega)
  have h2 : 1 ≤ 2 ^ n.toNat := Nat.one_le_two_pow
  omega
section G24
variable {W : ax_W} {r : Nat} {g : Nat → Nat → Int} {Q : Nat → Nat → (Nat → Nat → Int) → Prop}
theorem sp_bitCount {s : Int} (h0 : 0 ≤ s) (h1 : s < 64) (kq : Q 1 (fI (pB s 31)) g) : fx W r 0 20 0 [fI s] [] g Q := by
  refine fx_li 0 1 (by decide +kernel) rfl ?_
  refine fx_li 0 2 (by decide +kernel) rfl ?_
  refine fx_ci (1) 3 (by decide +kernel) ?_
  refine fx_bin 8 4 (by decide +kernel) rfl (fun h => absurd h (by decide)) ?_
  refine fx_ci (1431655765) 7 (by decide +kernel) ?_
  refine fx_bin 3 8 (by decide +kernel) rfl (fun h => absurd h (by decide)) ?_
  refine fx_sub 9 (by decide +kernel) rfl ?_
  refine fx_si 0 10 (by decide +kernel) (Or.inl rfl) rfl ?_
  dsimp only [List.set]
  refine fx_li 0 11 (by decide +kernel) rfl ?_
  refine fx_ci (858993459) 14 (by decide +kernel) ?_
  refine fx_bin 3 15 (by decide +kernel) rfl (fun h => absurd h (by decide)) ?_
  refine fx_li 0 16 (by decide +kernel) rfl ?_
  refine fx_ci (2) 17 (by decide +kernel) ?_
  refine fx_bin 8 18 (by decide +kernel) rfl (fun h => absurd h (by decide)) ?_
  refine fx_ci (858993459) 21 (by decide +kernel) ?_
  refine fx_bin 3 22 (by decide +kernel) rfl (fun h => absurd h (by decide)) ?_
  refine fx_add 23 (by decide +kernel) rfl ?_
  refine fx_si 0 24 (by decide +kernel) (Or.inl rfl) rfl ?_
  dsimp only [List.set]
  refine fx_li 0 25 (by decide +kernel) rfl ?_
  refine fx_li 0 26 (by decide +kernel) rfl ?_
  refine fx_ci (4) 27 (by decide +kernel) ?_
  refine fx_bin 8 28 (by decide +kernel) rfl (fun h => absurd h (by decide)) ?_
  refine fx_add 29 (by decide +kernel) rfl ?_
  refine fx_ci (252645135) 32 (by decide +kernel) ?_
  refine fx_bin 3 33 (by decide +kernel) rfl (fun h => absurd h (by decide)) ?_
  refine fx_si 0 34 (by decide +kernel) (Or.inl rfl) rfl ?_
  dsimp only [List.set]
  refine fx_li 0 35 (by decide +kernel) rfl ?_
  refine fx_li 0 36 (by decide +kernel) rfl ?_
  refine fx_ci (8) 38 (by decide +kernel) ?_
  refine fx_bin 8 39 (by decide +kernel) rfl (fun h => absurd h (by decide)) ?_
  refine fx_add 40 (by decide +kernel) rfl ?_
  refine fx_si 0 41 (by decide +kernel) (Or.inl rfl) rfl ?_
  dsimp only [List.set]
  refine fx_li 0 42 (by decide +kernel) rfl ?_
  refine fx_li 0 43 (by decide +kernel) rfl ?_
  refine fx_ci (16) 45 (by decide +kernel) ?_
  refine fx_bin 8 46 (by decide +kernel) rfl (fun h => absurd h (by decide)) ?_
  refine fx_add 47 (by decide +kernel) rfl ?_
  refine fx_si 0 48 (by decide +kernel) (Or.inl rfl) rfl ?_
  dsimp only [List.set]
  refine fx_li 0 49 (by decide +kernel) rfl ?_
  refine fx_ci (63) 51 (by decide +kernel) ?_
  refine fx_bin 3 52 (by decide +kernel) rfl (fun h => absurd h (by decide)) ?_
  refine fx_ret (by decide +kernel) ?_
  refine Eq.mp (congrArg (fun z => Q 1 (fI z) g) ?_) kq
  obtain ⟨q, rfl⟩ : ∃ q : Fin 64, s = ((q.val : Nat) : Int) := ⟨⟨s.toNat, by omega⟩, by show s = ((s.toNat : Nat) : Int); omega⟩
  clear kq h0 h1
  revert q
  decide +kernel
theorem sp_mbits_1 {s : Int} (kq : Q 1 (fI (pB s 31)) g) : ∀ (l k : Nat), k + l = 31 → fx W r 0 328 4 [fI s, fI (pB s k), fI (k : Int)] [] g Q
  | l, k, hl => by
    refine fx_li 2 5 (by decide +kernel) rfl ?_
    refine fx_ci (31) 7 (by decide +kernel) ?_
    refine fx_ige 24 10 (by decide +kernel) (by unfold fR; omega) (by unfold fR; omega) (fun h7 => ?_) (fun h7 => ?_)
    · refine fx_li 1 25 (by decide +kernel) rfl ?_
      refine fx_ret (by decide +kernel) ?_
      have e : k = 31 := by omega
      subst e
      exact kq
    · refine fx_li 1 11 (by decide +kernel) rfl ?_
      refine fx_li 0 12 (by decide +kernel) rfl ?_
      refine fx_li 2 13 (by decide +kernel) rfl ?_
      refine fx_bin 7 14 (by decide +kernel) rfl (fun h => absurd h (by decide)) ?_
      refine fx_ci (1) 15 (by decide +kernel) ?_
      refine fx_bin 3 16 (by decide +kernel) rfl (fun h => absurd h (by decide)) ?_
      refine fx_add 17 (by decide +kernel) rfl ?_
      refine fx_si 1 18 (by decide +kernel) (Or.inr (fI_n4 _)) rfl ?_
      dsimp only [List.set]
      refine fx_inc 2 21 (1) (by decide +kernel) rfl (Or.inr (fI_n4 _)) rfl ?_
      dsimp only [List.set]
      refine fx_go 4 (by decide +kernel) ?_
      match l, hl with
      | 0, hl => exfalso; omega
      | l + 1, hl => exact sp_mbits_1 kq l (k + 1) (by omega)
theorem sp_mbits {s : Int} (kq : Q 1 (fI (pB s 31)) g) : fx W r 0 328 0 [fI s, 7, 7] [] g Q := by
  refine fx_ci (0) 1 (by decide +kernel) ?_
  refine fx_si 1 2 (by decide +kernel) (Or.inr (fI_n4 _)) rfl ?_
  dsimp only [List.set]
  refine fx_ci (0) 3 (by decide +kernel) ?_
  refine fx_si 2 4 (by decide +kernel) (Or.inr (fI_n4 _)) rfl ?_
  dsimp only [List.set]
  exact sp_mbits_1 kq 31 0 rfl
theorem sp_cfa_1 {n M R : Int} (hn : g 3 5 = n) (n0 : 0 ≤ n) (n6 : n ≤ 6) (hM : fop 6 1 (g 3 5) = M) (M6 : M ≤ 64) (kq : Q 1 (fI R) g) : ∀ (l : Nat) (s f : Int) (x3 : Nat), 0 ≤ s → s + l = M → -1 ≤ f → f < s → pAp (g 6) n l s f = R → fx W r 3 19 4 [26, fI f, fI s, x3] [] g Q
  | l, s, f, x3, s0, hl, f0, f1, e => by
    refine fx_li 2 5 (by decide +kernel) rfl ?_
    refine fx_ci (1) 6 (by decide +kernel) ?_
    refine fx_la 0 7 (v := 26) (by decide +kernel) rfl (by decide +kernel) ?_
    refine fx_gi 26 3 5 10 (by decide +kernel) ?_
    refine fx_bin 6 11 (by decide +kernel) rfl (fun h => absurd h (by decide)) ?_
    refine fx_ige 56 14 (by decide +kernel) (by unfold fR; omega) (by first | exact fop_R _ _ _ | (unfold fR; omega)) (fun h11 => ?_) (fun h11 => ?_)
    · refine fx_li 1 57 (by decide +kernel) rfl ?_
      refine fx_ret (by decide +kernel) ?_
      have e0 : l = 0 := by omega
      subst e0
      have e1 : pAp (g 6) n 0 s f = f := rfl
      rw [← e, e1] at kq
      exact kq
    · refine fx_li 1 15 (by decide +kernel) rfl ?_
      refine fx_cn (-1) 16 (by decide +kernel) (fun v15 c15 => ?_)
      refine fx_ieq 30 19 (by decide +kernel) (by unfold fR; omega) (by unfold fR; omega) (fun h16 => ?_) (fun h16 => ?_)
      · refine fx_ci (1) 31 (by decide +kernel) ?_
        refine fx_go 35 (by decide +kernel) ?_
        refine fx_si 3 36 (by decide +kernel) (Or.inr (fI_n4 _)) rfl ?_
        dsimp only [List.set]
        refine fx_li 3 37 (by decide +kernel) rfl ?_
        refine fx_zeq 50 40 (by decide +kernel) (by unfold fR; omega) (fun hc => absurd hc (by decide)) (fun _ => ?_)
        refine fx_la 0 41 (v := 26) (by decide +kernel) rfl (by decide +kernel) ?_
        refine fx_li 2 42 (by decide +kernel) rfl ?_
        refine fx_c2 21 21 45 2 [7, 7, 7] (by decide +kernel) (by decide) (by decide) (fI_n4 _) rfl (by first | decide | omega) ?_
        refine sp_cpa hn n0 n6 (fK1 ?_)
        have b3 := pLk_b (g 6) n s
        refine fx_zne 50 48 (by decide +kernel) (by unfold fR; omega) (fun h45 => ?_) (fun h45 => ?_)
        · refine fx_inc 2 53 (1) (by decide +kernel) rfl (Or.inr (fI_n4 _)) rfl ?_
          dsimp only [List.set]
          refine fx_go 4 (by decide +kernel) ?_
          match l, hl, e with
          | 0, hl, e => exfalso; omega
          | l + 1, hl, e =>
            have e1 : pAp (g 6) n (l + 1) s f = pAp (g 6) n l (s + 1) _ := rfl
            rw [e1] at e
            first
              | exact sp_cfa_1 hn n0 n6 hM M6 kq l (s + 1) f _ (by omega) (by omega) (by omega) (by omega) ((congrArg (pAp (g 6) n l (s + 1)) (if_neg (fun t => by omega)).symm).trans e)
              | exact sp_cfa_1 hn n0 n6 hM M6 kq l (s + 1) s _ (by omega) (by omega) (by omega) (by omega) ((congrArg (pAp (g 6) n l (s + 1)) (if_pos ⟨by omega, by omega⟩).symm).trans e)
        · refine fx_li 2 49 (by decide +kernel) rfl ?_
          refine fx_si 1 50 (by decide +kernel) (Or.inr (f_n4p (v := 26) rfl (by decide))) rfl ?_
          dsimp only [List.set]
          refine fx_inc 2 53 (1) (by decide +kernel) rfl (Or.inr (fI_n4 _)) rfl ?_
          dsimp only [List.set]
          refine fx_go 4 (by decide +kernel) ?_
          match l, hl, e with
          | 0, hl, e => exfalso; omega
          | l + 1, hl, e =>
            have e1 : pAp (g 6) n (l + 1) s f = pAp (g 6) n l (s + 1) _ := rfl
            rw [e1] at e
            first
              | exact sp_cfa_1 hn n0 n6 hM M6 kq l (s + 1) f _ (by omega) (by omega) (by omega) (by omega) ((congrArg (pAp (g 6) n l (s + 1)) (if_neg (fun t => by omega)).symm).trans e)
              | exact sp_cfa_1 hn n0 n6 hM M6 kq l (s + 1) s _ (by omega) (by omega) (by omega) (by omega) ((congrArg (pAp (g 6) n l (s + 1)) (if_pos ⟨by omega, by omega⟩).symm).trans e)
      · refine fx_li 2 20 (by decide +kernel) rfl ?_
        refine fx_c1 20 22 23 0 [] (f_q22 (by decide +kernel)) (fI_n4 _) rfl (by first | decide | omega) ?_
        refine sp_bitCount s0 (by omega) (fK1 ?_)
        have b1 := pB_b s 31
        refine fx_li 1 24 (by decide +kernel) rfl ?_
        refine fx_c1 20 22 27 0 [] (f_q22 (by decide +kernel)) (fI_n4 _) rfl (by first | decide | omega) ?_
        refine sp_bitCount (by omega) (by omega) (fK1 ?_)
        have b2 := pB_b f 31
        refine fx_ige 34 30 (by decide +kernel) (by unfold fR; omega) (by unfold fR; omega) (fun h27 => ?_) (fun h27 => ?_)
        · refine fx_ci (0) 35 (by decide +kernel) ?_
          refine fx_si 3 36 (by decide +kernel) (Or.inr (fI_n4 _)) rfl ?_
          dsimp only [List.set]
          refine fx_li 3 37 (by decide +kernel) rfl ?_
          refine fx_zeq 50 40 (by decide +kernel) (by unfold fR; omega) (fun _ => ?_) (fun hc => absurd hc (by decide))
          refine fx_inc 2 53 (1) (by decide +kernel) rfl (Or.inr (fI_n4 _)) rfl ?_
          dsimp only [List.set]
          refine fx_go 4 (by decide +kernel) ?_
          match l, hl, e with
          | 0, hl, e => exfalso; omega
          | l + 1, hl, e =>
            have e1 : pAp (g 6) n (l + 1) s f = pAp (g 6) n l (s + 1) _ := rfl
            rw [e1] at e
            first
              | exact sp_cfa_1 hn n0 n6 hM M6 kq l (s + 1) f _ (by omega) (by omega) (by omega) (by omega) ((congrArg (pAp (g 6) n l (s + 1)) (if_neg (fun t => by omega)).symm).trans e)
              | exact sp_cfa_1 hn n0 n6 hM M6 kq l (s + 1) s _ (by omega) (by omega) (by omega) (by omega) ((congrArg (pAp (g 6) n l (s + 1)) (if_pos ⟨by omega, by omega⟩).symm).trans e)
        · refine fx_ci (1) 31 (by decide +kernel) ?_
          refine fx_go 35 (by decide +kernel) ?_
          refine fx_si 3 36 (by decide +kernel) (Or.inr (fI_n4 _)) rfl ?_
          dsimp only [List.set]
          refine fx_li 3 37 (by decide +kernel) rfl ?_
          refine fx_zeq 50 40 (by decide +kernel) (by unfold fR; omega) (fun hc => absurd hc (by decide)) (fun _ => ?_)
          refine fx_la 0 41 (v := 26) (by decide +kernel) rfl (by decide +kernel) ?_
          refine fx_li 2 42 (by decide +kernel) rfl ?_
          refine fx_c2 21 21 45 2 [7, 7, 7] (by decide +kernel) (by decide) (by decide) (fI_n4 _) rfl (by first | decide | omega) ?_
          refine sp_cpa hn n0 n6 (fK1 ?_)
          have b3 := pLk_b (g 6) n s
          refine fx_zne 50 48 (by decide +kernel) (by unfold fR; omega) (fun h45 => ?_) (fun h45 => ?_)
          · refine fx_inc 2 53 (1) (by decide +kernel) rfl (Or.inr (fI_n4 _)) rfl ?_
            dsimp only [List.set]
            refine fx_go 4 (by decide +kernel) ?_
            match l, hl, e with
            | 0, hl, e => exfalso; omega
            | l + 1, hl, e =>
              have e1 : pAp (g 6) n (l + 1) s f = pAp (g 6) n l (s + 1) _ := rfl
              rw [e1] at e
              first
                | exact sp_cfa_1 hn n0 n6 hM M6 kq l (s + 1) f _ (by omega) (by omega) (by omega) (by omega) ((congrArg (pAp (g 6) n l (s + 1)) (if_neg (fun t => by omega)).symm).trans e)
                | exact sp_cfa_1 hn n0 n6 hM M6 kq l (s + 1) s _ (by omega) (by omega) (by omega) (by omega) ((congrArg (pAp (g 6) n l (s + 1)) (if_pos ⟨by omega, by omega⟩).symm).trans e)
          · refine fx_li 2 49 (by decide +kernel) rfl ?_
            refine fx_si 1 50 (by decide +kernel) (Or.inr (f_n4p (v := 26) rfl (by decide))) rfl ?_
            dsimp only [List.set]
            refine fx_inc 2 53 (1) (by decide +kernel) rfl (Or.inr (fI_n4 _)) rfl ?_
            dsimp only [List.set]
            refine fx_go 4 (by decide +kernel) ?_
            match l, hl, e with
            | 0, hl, e => exfalso; omega
            | l + 1, hl, e =>
              have e1 : pAp (g 6) n (l + 1) s f = pAp (g 6) n l (s + 1) _ := rfl
              rw [e1] at e
              first
                | exact sp_cfa_1 hn n0 n6 hM M6 kq l (s + 1) f _ (by omega) (by omega) (by omega) (by omega) ((congrArg (pAp (g 6) n l (s + 1)) (if_neg (fun t => by omega)).symm).trans e)
                | exact sp_cfa_1 hn n0 n6 hM M6 kq l (s + 1) s _ (by omega) (by omega) (by omega) (by omega) ((congrArg (pAp (g 6) n l (s + 1)) (if_pos ⟨by omega, by omega⟩).symm).trans e)
theorem sp_cfa {n : Int} (hn : g 3 5 = n) (n0 : 0 ≤ n) (n6 : n ≤ 6) (kq : Q 1 (fI (pAp (g 6) n (fop 6 1 n - 1).toNat 1 (-1))) g) : fx W r 3 19 0 [26, 7, 7, 7] [] g Q := by
  have hM := f_shl1 n0 n6
  refine fx_cn (-1) 1 (by decide +kernel) (fun v0 c0 => ?_)
  refine fx_si 1 2 (by decide +kernel) (Or.inr (f_n4p (v := 26) rfl (by decide))) rfl ?_
  dsimp only [List.set]
  refine fx_ci (1) 3 (by decide +kernel) ?_
  refine fx_si 2 4 (by decide +kernel) (Or.inr (fI_n4 _)) rfl ?_
  dsimp only [List.set]
  subst c0
  exact sp_cfa_1 hn n0 n6 (by rw [hn]) hM.2 kq _ 1 (-1) 7 (by decide) (by omega) (by decide) (by decide) rfl
theorem sp_mfa_1 {n M R : Int} {ee : Nat → Int} (he : ∀ j : Nat, j < 48 → (j : Int) < 8 * n → g 149 (68 + j) = ee j) (hn : g 149 4 = n) (n0 : 0 ≤ n) (n6 : n ≤ 6) (hM : fop 6 1 (g 149 4) = M) (M6 : M ≤ 64) (kq : Q 1 (fI R) g) : ∀ (l : Nat) (s f : Int), 0 ≤ s → s + l = M → -1 ≤ f → (f < s ∨ f = -1) → pAp ee n l s f = R → fx W r 3 347 9 [1186, fI f, fI s] [] g Q
  | l, s, f, s0, hl, f0, f1, e => by
    refine fx_li 2 10 (by decide +kernel) rfl ?_
    refine fx_ci (1) 11 (by decide +kernel) ?_
    refine fx_la 0 12 (v := 1186) (by decide +kernel) rfl (by decide +kernel) ?_
    refine fx_gp 1186 148 1 1194 15 (by decide +kernel) ?_
    refine fx_ci (4) 16 (by decide +kernel) ?_
    refine fx_al 1194 149 764 17 (by decide +kernel) rfl (by omega) (by omega) rfl ?_
    try simp only [fu_app, fcy_app, Nat.reduceEqDiff, and_true, and_false, false_and, true_and, if_true, if_false, ite_true, ite_false, reduceIte, Int.reduceToNat, fx_simp0]
    refine fx_bin 6 18 (by decide +kernel) rfl (fun h => absurd h (by decide)) ?_
    refine fx_ige 53 21 (by decide +kernel) (by unfold fR; omega) (by first | exact fop_R _ _ _ | (unfold fR; omega)) (fun h18 => ?_) (fun h18 => ?_)
    · refine fx_li 1 54 (by decide +kernel) rfl ?_
      refine fx_ret (by decide +kernel) ?_
      have e0 : l = 0 := by omega
      subst e0
      have e1 : pAp ee n 0 s f = f := rfl
      rw [← e, e1] at kq
      exact kq
    · refine fx_li 1 22 (by decide +kernel) rfl ?_
      refine fx_cn (-1) 23 (by decide +kernel) (fun v22 c22 => ?_)
      refine fx_ieq 37 26 (by decide +kernel) (by unfold fR; omega) (by unfold fR; omega) (fun h23 => ?_) (fun h23 => ?_)
      · refine fx_la 0 38 (v := 1186) (by decide +kernel) rfl (by decide +kernel) ?_
        refine fx_li 2 39 (by decide +kernel) rfl ?_
        refine fx_c2 348 21 42 2 [7, 7, 7] (by decide +kernel) (by decide) (by decide) (fI_n4 _) rfl (by first | decide | omega) ?_
        refine sp_mlk he hn n0 n6 (fK1 ?_)
        have b3 := pLk_b ee n s
        refine fx_zne 47 45 (by decide +kernel) (by unfold fR; omega) (fun h42 => ?_) (fun h42 => ?_)
        · refine fx_inc 2 50 (1) (by decide +kernel) rfl (Or.inr (fI_n4 _)) rfl ?_
          dsimp only [List.set]
          refine fx_go 9 (by decide +kernel) ?_
          match l, hl, e with
          | 0, hl, e => exfalso; omega
          | l + 1, hl, e =>
            have e1 : pAp ee n (l + 1) s f = pAp ee n l (s + 1) _ := rfl
            rw [e1] at e
            first
              | exact sp_mfa_1 he hn n0 n6 hM M6 kq l (s + 1) f (by omega) (by omega) (by omega) (by omega) ((congrArg (pAp ee n l (s + 1)) (if_neg (fun t => by omega)).symm).trans e)
              | exact sp_mfa_1 he hn n0 n6 hM M6 kq l (s + 1) s (by omega) (by omega) (by omega) (by omega) ((congrArg (pAp ee n l (s + 1)) (if_pos ⟨by omega, by omega⟩).symm).trans e)
        · refine fx_li 2 46 (by decide +kernel) rfl ?_
          refine fx_si 1 47 (by decide +kernel) (Or.inr (f_n4p (v := 1186) rfl (by decide))) rfl ?_
          dsimp only [List.set]
          refine fx_inc 2 50 (1) (by decide +kernel) rfl (Or.inr (fI_n4 _)) rfl ?_
          dsimp only [List.set]
          refine fx_go 9 (by decide +kernel) ?_
          match l, hl, e with
          | 0, hl, e => exfalso; omega
          | l + 1, hl, e =>
            have e1 : pAp ee n (l + 1) s f = pAp ee n l (s + 1) _ := rfl
            rw [e1] at e
            first
              | exact sp_mfa_1 he hn n0 n6 hM M6 kq l (s + 1) f (by omega) (by omega) (by omega) (by omega) ((congrArg (pAp ee n l (s + 1)) (if_neg (fun t => by omega)).symm).trans e)
              | exact sp_mfa_1 he hn n0 n6 hM M6 kq l (s + 1) s (by omega) (by omega) (by omega) (by omega) ((congrArg (pAp ee n l (s + 1)) (if_pos ⟨by omega, by omega⟩).symm).trans e)
      · refine fx_li 2 27 (by decide +kernel) rfl ?_
        refine fx_c1 328 22 30 0 [7, 7] (f_q22 (by decide +kernel)) (fI_n4 _) rfl (by first | decide | omega) ?_
        refine sp_mbits (fK1 ?_)
        have b1 := pB_b s 31
        refine fx_li 1 31 (by decide +kernel) rfl ?_
        refine fx_c1 328 22 34 0 [7, 7] (f_q22 (by decide +kernel)) (fI_n4 _) rfl (by first | decide | omega) ?_
        refine sp_mbits (fK1 ?_)
        have b2 := pB_b f 31
        refine fx_ige 47 37 (by decide +kernel) (by unfold fR; omega) (by unfold fR; omega) (fun h34 => ?_) (fun h34 => ?_)
        · refine fx_inc 2 50 (1) (by decide +kernel) rfl (Or.inr (fI_n4 _)) rfl ?_
          dsimp only [List.set]
          refine fx_go 9 (by decide +kernel) ?_
          match l, hl, e with
          | 0, hl, e => exfalso; omega
          | l + 1, hl, e =>
            have e1 : pAp ee n (l + 1) s f = pAp ee n l (s + 1) _ := rfl
            rw [e1] at e
            first
              | exact sp_mfa_1 he hn n0 n6 hM M6 kq l (s + 1) f (by omega) (by omega) (by omega) (by omega) ((congrArg (pAp ee n l (s + 1)) (if_neg (fun t => by omega)).symm).trans e)
              | exact sp_mfa_1 he hn n0 n6 hM M6 kq l (s + 1) s (by omega) (by omega) (by omega) (by omega) ((congrArg (pAp ee n l (s + 1)) (if_pos ⟨by omega, by omega⟩).symm).trans e)
        · refine fx_la 0 38 (v := 1186) (by decide +kernel) rfl (by decide +kernel) ?_
          refine fx_li 2 39 (by decide +kernel) rfl ?_
          refine fx_c2 348 21 42 2 [7, 7, 7] (by decide +kernel) (by decide) (by decide) (fI_n4 _) rfl (by first | decide | omega) ?_
          refine sp_mlk he hn n0 n6 (fK1 ?_)
          have b3 := pLk_b ee n s
          refine fx_zne 47 45 (by decide +kernel) (by unfold fR; omega) (fun h42 => ?_) (fun h42 => ?_)
          · refine fx_inc 2 50 (1) (by decide +kernel) rfl (Or.inr (fI_n4 _)) rfl ?_
            dsimp only [List.set]
            refine fx_go 9 (by decide +kernel) ?_
            match l, hl, e with
            | 0, hl, e => exfalso; omega
            | l + 1, hl, e =>
              have e1 : pAp ee n (l + 1) s f = pAp ee n l (s + 1) _ := rfl
              rw [e1] at e
              first
                | exact sp_mfa_1 he hn n0 n6 hM M6 kq l (s + 1) f (by omega) (by omega) (by omega) (by omega) ((congrArg (pAp ee n l (s + 1)) (if_neg (fun t => by omega)).symm).trans e)
                | exact sp_mfa_1 he hn n0 n6 hM M6 kq l (s + 1) s (by omega) (by omega) (by omega) (by omega) ((congrArg (pAp ee n l (s + 1)) (if_pos ⟨by omega, by omega⟩).symm).trans e)
          · refine fx_li 2 46 (by decide +kernel) rfl ?_
            refine fx_si 1 47 (by decide +kernel) (Or.inr (f_n4p (v := 1186) rfl (by decide))) rfl ?_
            dsimp only [List.set]
            refine fx_inc 2 50 (1) (by decide +kernel) rfl (Or.inr (fI_n4 _)) rfl ?_
            dsimp only [List.set]
            refine fx_go 9 (by decide +kernel) ?_
            match l, hl, e with
            | 0, hl, e => exfalso; omega
            | l + 1, hl, e =>
              have e1 : pAp ee n (l + 1) s f = pAp ee n l (s + 1) _ := rfl
              rw [e1] at e
              first
                | exact sp_mfa_1 he hn n0 n6 hM M6 kq l (s + 1) f (by omega) (by omega) (by omega) (by omega) ((congrArg (pAp ee n l (s + 1)) (if_neg (fun t => by omega)).symm).trans e)
                | exact sp_mfa_1 he hn n0 n6 hM M6 kq l (s + 1) s (by omega) (by omega) (by omega) (by omega) ((congrArg (pAp ee n l (s + 1)) (if_pos ⟨by omega, by omega⟩).symm).trans e)
theorem sp_capart {n : Int} (hn : g 3 5 = n) (n0 : 0 ≤ n) (n6 : n ≤ 6) (kq : Q 1 (fI (pAp (g 6) n (fop 6 1 n - 1).toNat 1 (-1))) g) : fx W r 4 18 0 [2] [] g Q := by
  refine fx_la 0 1 (v := 2) (by decide +kernel) rfl (by decide +kernel) ?_
  refine fx_gp 2 0 1 26 4 (by decide +kernel) ?_
  refine fx_c1 19 21 7 3 [7, 7, 7] (by decide +kernel) (by decide) rfl (by first | decide | omega) ?_
  refine sp_cfa hn n0 n6 (fK1 ?_)
  refine fx_ret (by decide +kernel) ?_
  exact kq
theorem sp_mapart {n : Int} {ee : Nat → Int} (he : ∀ j : Nat, j < 48 → (j : Int) < 8 * n → g 149 (68 + j) = ee j) (hn : g 149 4 = n) (n0 : 0 ≤ n) (n6 : n ≤ 6) (kq : Q 1 (fI (pAp ee n (fop 6 1 n - 1).toNat 1 (-1))) (fu g 148 0 0)) : fx W r 3 347 0 [1186, 7, 7] [] g Q := by
  have hM := f_shl1 n0 n6
  refine fx_la 0 1 (v := 1186) (by decide +kernel) rfl (by decide +kernel) ?_
  refine fx_ci (0) 2 (by decide +kernel) ?_
  refine fx_pi 1186 148 0 5 (by decide +kernel) (by unfold fR; omega) ?_
  refine fx_cn (-1) 6 (by decide +kernel) (fun v5 c5 => ?_)
  refine fx_si 1 7 (by decide +kernel) (Or.inr (f_n4p (v := 1186) rfl (by decide))) rfl ?_
  dsimp only [List.set]
  refine fx_ci (0) 8 (by decide +kernel) ?_
  refine fx_si 2 9 (by decide +kernel) (Or.inr (fI_n4 _)) rfl ?_
  dsimp only [List.set]
  subst c5
  refine sp_mfa_1 (g := fu g 148 0 0) (ee := ee) (n := n) (M := fop 6 1 n) (fun j j1 j2 => by rw [fu_nc (by decide)]; exact he j j1 j2) (by rw [fu_nc (by decide)]; exact hn) n0 n6 (by rw [fu_nc (by decide), hn]) hM.2 kq (fop 6 1 n).toNat 0 (-1) (by decide) (by omega) (by decide) (by decide) ?_
  rw [show (fop 6 1 n).toNat = (fop 6 1 n - 1).toNat + 1 by omega]
  exact pAp_01 ee n n6 _
end G24
