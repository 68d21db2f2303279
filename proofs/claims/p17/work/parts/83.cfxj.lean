/-! fx: signs, numbers as the reference reads them -/
theorem prun_min {p : Int → Bool} {E i e : Int} (hi : i ≤ e) (he : e ≤ E) (h : ∀ k, i ≤ k → k < e → p k = true) : e ≤ prun p E i := by
  by_cases q : prun p E i < e
  · have h1 := prun_end (p := p) (E := E) (i := i) (by omega) (by omega)
    have h2 := h _ prun_ge q
    rw [h1] at h2
    cases h2
  · omega
theorem prun_char {p : Int → Bool} {E i e : Int} (hi : i ≤ e) (he : e ≤ E) (h : ∀ k, i ≤ k → k < e → p k = true) (h2 : e = E ∨ p e = false) : prun p E i = e := by
  have h1 := prun_min hi he h
  have h3 := prun_le (p := p) (E := E) (i := i) (by omega)
  by_cases q : e < prun p E i
  · have h4 := prun_all hi q
    rcases h2 with h2 | h2
    · omega
    · rw [h2] at h4; cases h4
  · omega
/-- the number of n figures from f on -/
def nv (T : Int → Int) (f : Int) : Nat → Int
  | 0 => 0
  | n + 1 => 10 * nv T f n + T (f + n) - 48
theorem nv_b {T : Int → Int} {f : Int} : ∀ {n : Nat}, (∀ k : Nat, k < n → 48 ≤ T (f + k) ∧ T (f + k) ≤ 57) → 0 ≤ nv T f n ∧ (n ≤ 4 → nv T f n < 10 ^ n)
  | 0, _ => ⟨Int.le_refl 0, fun _ => by show (0 : Int) < 1; decide⟩
  | n + 1, h => by
    obtain ⟨h1, h2⟩ := nv_b (n := n) (fun k hk => h k (by omega))
    have h3 := h n (by omega)
    refine ⟨by show 0 ≤ 10 * nv T f n + T (f + n) - 48; omega, fun h4 => ?_⟩
    have h2 := h2 (by omega)
    show 10 * nv T f n + T (f + n) - 48 < 10 ^ (n + 1)
    have e : (10 : Int) ^ (n + 1) = 10 * 10 ^ n := by rw [Int.pow_succ]; omega
    omega
theorem nv_lt {T : Int → Int} {f : Int} {n : Nat} (hn : n ≤ 4) (h : ∀ k : Nat, k < n → 48 ≤ T (f + k) ∧ T (f + k) ≤ 57) : 0 ≤ nv T f n ∧ nv T f n < 10000 := by
  obtain ⟨h1, h2⟩ := nv_b h
  have h2 := h2 hn
  have : (10 : Int) ^ n ≤ 10000 := by
    rcases (by omega : n = 0 ∨ n = 1 ∨ n = 2 ∨ n = 3 ∨ n = 4) with rfl | rfl | rfl | rfl | rfl <;> decide
  omega
/-- a number within lo to hi stands at f -/
def pN (T : Int → Int) (E lo hi f : Int) : Prop := 1 ≤ pDg T E f - f ∧ pDg T E f - f ≤ 3 ∧ lo ≤ nv T f (pDg T E f - f).toNat ∧ nv T f (pDg T E f - f).toNat ≤ hi
section FXJ
variable {W : ax_W} {r : Nat} {g : Nat → Nat → Int} {Q : Nat → Nat → (Nat → Nat → Int) → Prop} {T : Int → Int} {E : Int} {s : Nat}
theorem sp_isSign {c : Int} (h : RT T E g) (h0 : 0 ≤ g 148 11) (h4 : g 148 11 ≤ E) (hc : fR c) (k1 : pSk T E (g 148 11) < E ∧ T (pSk T E (g 148 11)) = c → Q 1 (fI 1) (fu g 148 11 (pSk T E (g 148 11))))
    (k2 : ¬ (pSk T E (g 148 11) < E ∧ T (pSk T E (g 148 11)) = c) → Q 1 (fI 0) (fu g 148 11 (pSk T E (g 148 11)))) : fx W r 2 281 0 [1186, fI c] [] g Q := by
  have a1 := h.1
  have aE := h.2.1
  have a3 := h.2.2.1
  have f0 := pSk_ge T E (g 148 11)
  have f1 := pSk_le (T := T) h4
  have h' := RT_fu h (j := 11) (z := pSk T E (g 148 11)) (by decide) (by decide)
  refine fx_la 0 1 (v := 1186) (by decide +kernel) rfl (by decide +kernel) ?_
  refine fx_c1 271 21 4 1 [] (by decide +kernel) (by decide) rfl (by first | decide | omega) ?_
  refine sp_skip h h0 (fK0 ?_)
  refine fx_la 0 5 (v := 1186) (by decide +kernel) rfl (by decide +kernel) ?_
  refine fx_gi 1186 148 11 8 (by decide +kernel) ?_
  try simp only [fu_app, fcy_app, Nat.reduceEqDiff, and_true, and_false, false_and, true_and, if_true, if_false, ite_true, ite_false, reduceIte, Int.reduceToNat, fx_simp0]
  refine fx_la 0 9 (v := 1186) (by decide +kernel) rfl (by decide +kernel) ?_
  refine fx_gi 1186 148 10 12 (by decide +kernel) ?_
  try simp only [fu_app, fcy_app, Nat.reduceEqDiff, and_true, and_false, false_and, true_and, if_true, if_false, ite_true, ite_false, reduceIte, Int.reduceToNat, fx_simp0]
  refine fx_ige 31 15 (by decide +kernel) (by unfold fR; omega) (by unfold fR; omega) (fun h12 => ?_) (fun h12 => ?_)
  · refine fx_ci (0) 32 (by decide +kernel) ?_
    refine fx_retb (by decide +kernel) (by first | exact Or.inl rfl | exact Or.inr rfl | omega) ?_
    first | exact k1 ⟨by omega, by omega⟩ | exact k2 (fun t => by omega)
  · refine fx_la 0 16 (v := 1186) (by decide +kernel) rfl (by decide +kernel) ?_
    refine fx_la 0 17 (v := 1186) (by decide +kernel) rfl (by decide +kernel) ?_
    refine fx_gi 1186 148 11 20 (by decide +kernel) ?_
    try simp only [fu_app, fcy_app, Nat.reduceEqDiff, and_true, and_false, false_and, true_and, if_true, if_false, ite_true, ite_false, reduceIte, Int.reduceToNat, fx_simp0]
    have tv := RT_t h (k := pSk T E (g 148 11)) (by omega) (by omega)
    refine fx_c2 272 21 23 0 [] (by decide +kernel) (by decide) (by decide) (fI_n4 _) rfl (by first | decide | omega) ?_
    refine sp_letterT h' (by omega) (by omega) (fK1 ?_)
    refine fx_li 1 24 (by decide +kernel) rfl ?_
    unfold fR at hc
    refine fx_ine 31 27 (by decide +kernel) (by unfold fR; omega) (by unfold fR; omega) (fun h24 => ?_) (fun h24 => ?_)
    · refine fx_ci (0) 32 (by decide +kernel) ?_
      refine fx_retb (by decide +kernel) (by first | exact Or.inl rfl | exact Or.inr rfl | omega) ?_
      first | exact k1 ⟨by omega, by omega⟩ | exact k2 (fun t => by omega)
    · refine fx_ci (1) 28 (by decide +kernel) ?_
      refine fx_go 32 (by decide +kernel) ?_
      refine fx_retb (by decide +kernel) (by first | exact Or.inl rfl | exact Or.inr rfl | omega) ?_
      first | exact k1 ⟨by omega, by omega⟩ | exact k2 (fun t => by omega)
theorem sp_wrong {w : Int} (hf : g 148 12 = -1) (hw : fR w) (kq : Q 0 0 (fu g 148 12 w)) : fx W r 0 273 0 [1186, fI w] [] g Q := by
  refine fx_rg (fun hg => ?_)
  unfold fR at hw
  refine fx_la 0 1 (v := 1186) (by decide +kernel) rfl (by decide +kernel) ?_
  refine fx_gi 1186 148 12 4 (by decide +kernel) ?_
  refine fx_ci (-1) 5 (by decide +kernel) ?_
  refine fx_ine 13 8 (by decide +kernel) (by first | exact hg 148 12 (by decide) (by decide +kernel) (by decide +kernel) | (unfold fR; omega)) (by unfold fR; omega) (fun h5 => ?_) (fun h5 => ?_)
  · refine fx_vret (by decide +kernel) ?_
    first | exact kq | (exfalso; omega)
  · refine fx_la 0 9 (v := 1186) (by decide +kernel) rfl (by decide +kernel) ?_
    refine fx_li 1 10 (by decide +kernel) rfl ?_
    refine fx_pi 1186 148 12 13 (by decide +kernel) (by unfold fR; omega) ?_
    refine fx_vret (by decide +kernel) ?_
    first | exact kq | (exfalso; omega)
theorem sp_wrong_f {w : Int} (hf : g 148 12 ≠ -1) (hw : fR w) (kq : Q 0 0 g) : fx W r 0 273 0 [1186, fI w] [] g Q := by
  refine fx_rg (fun hg => ?_)
  unfold fR at hw
  refine fx_la 0 1 (v := 1186) (by decide +kernel) rfl (by decide +kernel) ?_
  refine fx_gi 1186 148 12 4 (by decide +kernel) ?_
  refine fx_ci (-1) 5 (by decide +kernel) ?_
  refine fx_ine 13 8 (by decide +kernel) (by first | exact hg 148 12 (by decide) (by decide +kernel) (by decide +kernel) | (unfold fR; omega)) (by unfold fR; omega) (fun h5 => ?_) (fun h5 => ?_)
  · refine fx_vret (by decide +kernel) ?_
    first | exact kq | (exfalso; omega)
  · refine fx_la 0 9 (v := 1186) (by decide +kernel) rfl (by decide +kernel) ?_
    refine fx_li 1 10 (by decide +kernel) rfl ?_
    refine fx_pi 1186 148 12 13 (by decide +kernel) (by unfold fR; omega) ?_
    refine fx_vret (by decide +kernel) ?_
    first | exact kq | (exfalso; omega)
theorem sp_here (h : RT T E g) (h0 : 0 ≤ g 148 11) (kq : Q 1 (fI (pSk T E (g 148 11))) (fu g 148 11 (pSk T E (g 148 11)))) : fx W r 2 277 0 [1186] [] g Q := by
  refine fx_la 0 1 (v := 1186) (by decide +kernel) rfl (by decide +kernel) ?_
  refine fx_c1 271 21 4 1 [] (by decide +kernel) (by decide) rfl (by first | decide | omega) ?_
  refine sp_skip h h0 (fK0 ?_)
  refine fx_la 0 5 (v := 1186) (by decide +kernel) rfl (by decide +kernel) ?_
  refine fx_gi 1186 148 11 8 (by decide +kernel) ?_
  try simp only [fu_app, fcy_app, Nat.reduceEqDiff, and_true, and_false, false_and, true_and, if_true, if_false, ite_true, ite_false, reduceIte, Int.reduceToNat, fx_simp0]
  refine fx_ret (by decide +kernel) ?_
  exact kq
theorem sp_figures_f {lo hi : Int} (hf : g 148 12 ≠ -1) (kq : Q 1 (fI 0) g) : fx W r 3 276 0 [1186, fI lo, fI hi, 7, 7] [] g Q := by
  refine fx_rg (fun hg => ?_)
  refine fx_la 0 1 (v := 1186) (by decide +kernel) rfl (by decide +kernel) ?_
  refine fx_gi 1186 148 12 4 (by decide +kernel) ?_
  refine fx_ci (-1) 5 (by decide +kernel) ?_
  refine fx_ieq 10 8 (by decide +kernel) (by first | exact hg 148 12 (by decide) (by decide +kernel) (by decide +kernel) | (unfold fR; omega)) (by unfold fR; omega) (fun h5 => ?_) (fun h5 => ?_)
  · refine fx_la 0 11 (v := 1186) (by decide +kernel) rfl (by decide +kernel) ?_
    refine fx_c1 277 21 14 2 [] (by decide +kernel) (by decide) rfl (by first | decide | omega) ?_
    exact absurd h5 hf
  · refine fx_ci (0) 9 (by decide +kernel) ?_
    refine fx_ret (by decide +kernel) ?_
    exact kq
theorem sp_figures_1 {lo hi f : Int} (h : RT T E g) (h0 : 0 ≤ f) (kq : ∀ k : Nat, k ≤ 4 → f + k ≤ E → (∀ j : Nat, j < k → 48 ≤ T (f + j) ∧ T (f + j) ≤ 57) → (k ≤ 3 → pDg T E f = f + k) → (k = 4 → f + 4 ≤ pDg T E f) → fx W r 3 276 89 [1186, fI lo, fI hi, fI f, fI (nv T f k)] [] (fu g 148 11 (f + k)) Q) :
    ∀ (n k : Nat), k + n = 4 → f + k ≤ E → (∀ j : Nat, j < k → 48 ≤ T (f + j) ∧ T (f + j) ≤ 57) → fx W r 3 276 18 [1186, fI lo, fI hi, fI f, fI (nv T f k)] [] (fu g 148 11 (f + k)) Q
  | n, k, hn, hE, hd => by
    have a1 := h.1
    have aE := h.2.1
    have a3 := h.2.2.1
    have h' := RT_fu h (j := 11) (z := f + k) (by decide) (by decide)
    have hdi : ∀ j, f ≤ j → j < f + k → isDi T j = true := fun j j1 j2 => by
      unfold isDi
      have := hd (j - f).toNat (by omega)
      rw [show f + ((j - f).toNat : Int) = j by omega] at this
      exact decide_eq_true this
    have mn := prun_min (p := isDi T) (E := E) (i := f) (e := f + k) (by omega) hE hdi
    refine fx_la 0 19 (v := 1186) (by decide +kernel) rfl (by decide +kernel) ?_
    refine fx_gi 1186 148 11 22 (by decide +kernel) ?_
    try simp only [fu_app, fcy_app, Nat.reduceEqDiff, and_true, and_false, false_and, true_and, if_true, if_false, ite_true, ite_false, reduceIte, Int.reduceToNat, fx_simp0]
    refine fx_la 0 23 (v := 1186) (by decide +kernel) rfl (by decide +kernel) ?_
    refine fx_gi 1186 148 10 26 (by decide +kernel) ?_
    try simp only [fu_app, fcy_app, Nat.reduceEqDiff, and_true, and_false, false_and, true_and, if_true, if_false, ite_true, ite_false, reduceIte, Int.reduceToNat, fx_simp0]
    refine fx_ige 89 29 (by decide +kernel) (by unfold fR; omega) (by unfold fR; omega) (fun h26 => ?_) (fun h26 => ?_)
    · refine kq k (by omega) hE hd (fun hk => ?_) (fun hk => ?_)
      · refine prun_char (by omega) hE hdi ?_
        first
          | exact Or.inl (by omega)
          | (right; unfold isDi; exact decide_eq_false b41)
          | (exfalso; omega)
      · subst hk; exact mn
    · have tv := RT_t h (k := f + k) (by omega) (by omega)
      refine fx_la 0 30 (v := 1186) (by decide +kernel) rfl (by decide +kernel) ?_
      refine fx_la 0 31 (v := 1186) (by decide +kernel) rfl (by decide +kernel) ?_
      refine fx_gi 1186 148 11 34 (by decide +kernel) ?_
      try simp only [fu_app, fcy_app, Nat.reduceEqDiff, and_true, and_false, false_and, true_and, if_true, if_false, ite_true, ite_false, reduceIte, Int.reduceToNat, fx_simp0]
      refine fx_c2 272 21 37 0 [] (by decide +kernel) (by decide) (by decide) (fI_n4 _) rfl (by first | decide | omega) ?_
      refine sp_letterT h' (by omega) (by omega) (fK1 ?_)
      refine fx_ci (48) 39 (by decide +kernel) ?_
      refine fx_ci (57) 41 (by decide +kernel) ?_
      refine fx_c3 266 22 44 0 [] (f_q22 (by decide +kernel)) (by decide) (fI_n4 _) (fI_n4 _) (fI_n4 _) rfl (by first | decide | omega) ?_
      refine sp_isIn (by unfold fR; omega) (by unfold fR; omega) (by unfold fR; omega) (fun b41 => fK1 ?_) (fun b41 => fK1 ?_)
      · refine fx_zeq 89 47 (by decide +kernel) (by unfold fR; omega) (fun hc => absurd hc (by decide)) (fun _ => ?_)
        refine fx_la 0 48 (v := 1186) (by decide +kernel) rfl (by decide +kernel) ?_
        refine fx_gi 1186 148 11 51 (by decide +kernel) ?_
        try simp only [fu_app, fcy_app, Nat.reduceEqDiff, and_true, and_false, false_and, true_and, if_true, if_false, ite_true, ite_false, reduceIte, Int.reduceToNat, fx_simp0]
        refine fx_li 3 52 (by decide +kernel) rfl ?_
        refine fx_sub 53 (by decide +kernel) rfl ?_
        refine fx_ci (3) 54 (by decide +kernel) ?_
        refine fx_igt 89 57 (by decide +kernel) (by unfold fR; omega) (by unfold fR; omega) (fun h54 => ?_) (fun h54 => ?_)
        · refine kq k (by omega) hE hd (fun hk => ?_) (fun hk => ?_)
          · refine prun_char (by omega) hE hdi ?_
            first
              | exact Or.inl (by omega)
              | (right; unfold isDi; exact decide_eq_false b41)
              | (exfalso; omega)
          · subst hk; exact mn
        · refine fx_ci (10) 59 (by decide +kernel) ?_
          refine fx_li 4 61 (by decide +kernel) rfl ?_
          refine fx_mul 62 (by decide +kernel) rfl ?_
          refine fx_la 0 63 (v := 1186) (by decide +kernel) rfl (by decide +kernel) ?_
          refine fx_la 0 64 (v := 1186) (by decide +kernel) rfl (by decide +kernel) ?_
          refine fx_gi 1186 148 11 67 (by decide +kernel) ?_
          try simp only [fu_app, fcy_app, Nat.reduceEqDiff, and_true, and_false, false_and, true_and, if_true, if_false, ite_true, ite_false, reduceIte, Int.reduceToNat, fx_simp0]
          refine fx_c2 272 21 70 0 [] (by decide +kernel) (by decide) (by decide) (fI_n4 _) rfl (by first | decide | omega) ?_
          refine sp_letterT h' (by omega) (by omega) (fK1 ?_)
          refine fx_add 71 (by decide +kernel) rfl ?_
          refine fx_ci (48) 73 (by decide +kernel) ?_
          refine fx_sub 74 (by decide +kernel) rfl ?_
          refine fx_si 4 76 (by decide +kernel) (Or.inr (fI_n4 _)) rfl ?_
          dsimp only [List.set]
          refine fx_la 0 77 (v := 1186) (by decide +kernel) rfl (by decide +kernel) ?_
          refine fx_dup 78 (by decide +kernel) rfl (by decide) ?_
          refine fx_gi 1186 148 11 81 (by decide +kernel) ?_
          try simp only [fu_app, fcy_app, Nat.reduceEqDiff, and_true, and_false, false_and, true_and, if_true, if_false, ite_true, ite_false, reduceIte, Int.reduceToNat, fx_simp0]
          refine fx_ci (1) 82 (by decide +kernel) ?_
          refine fx_add 83 (by decide +kernel) rfl ?_
          refine fx_pi 1186 148 11 86 (by decide +kernel) (by unfold fR; omega) ?_
          refine fx_go 18 (by decide +kernel) ?_
          rw [fu_fu, show f + (k : Int) + 1 = f + ((k + 1 : Nat) : Int) by omega]
          match n, hn with
          | 0, hn => exfalso; omega
          | n + 1, hn =>
            refine sp_figures_1 h h0 kq n (k + 1) (by omega) (by omega) (fun j hj => ?_)
            by_cases e : j = k
            · rw [e]; exact b41
            · exact hd j (by omega)
      · refine fx_zeq 89 47 (by decide +kernel) (by unfold fR; omega) (fun _ => ?_) (fun hc => absurd hc (by decide))
        refine kq k (by omega) hE hd (fun hk => ?_) (fun hk => ?_)
        · refine prun_char (by omega) hE hdi ?_
          first
            | exact Or.inl (by omega)
            | (right; unfold isDi; exact decide_eq_false b41)
            | (exfalso; omega)
        · subst hk; exact mn
theorem sp_figures {lo hi : Int} (h : RT T E g) (hf : g 148 12 = -1) (h0 : 0 ≤ g 148 11) (h4 : g 148 11 ≤ E) (hlo : fR lo) (hhi : fR hi)
    (k1 : pN T E lo hi (pSk T E (g 148 11)) → Q 1 (fI (nv T (pSk T E (g 148 11)) (pDg T E (pSk T E (g 148 11)) - pSk T E (g 148 11)).toNat)) (fu g 148 11 (pDg T E (pSk T E (g 148 11)))))
    (k2 : ¬ pN T E lo hi (pSk T E (g 148 11)) → ∀ a v, 0 ≤ a → a ≤ E → fR v → Q 1 (fI v) (fu (fu g 148 11 a) 148 12 (pSk T E (g 148 11)))) : fx W r 3 276 0 [1186, fI lo, fI hi, 7, 7] [] g Q := by
  have a1 := h.1
  have aE := h.2.1
  have a3 := h.2.2.1
  refine fx_rg (fun hg => ?_)
  have f0 := pSk_ge T E (g 148 11)
  have f1 := pSk_le (T := T) h4
  refine fx_la 0 1 (v := 1186) (by decide +kernel) rfl (by decide +kernel) ?_
  refine fx_gi 1186 148 12 4 (by decide +kernel) ?_
  refine fx_ci (-1) 5 (by decide +kernel) ?_
  refine fx_ieq 10 8 (by decide +kernel) (by first | exact hg 148 12 (by decide) (by decide +kernel) (by decide +kernel) | (unfold fR; omega)) (by unfold fR; omega) (fun h5 => ?_) (fun h5 => ?_)
  · refine fx_la 0 11 (v := 1186) (by decide +kernel) rfl (by decide +kernel) ?_
    refine fx_c1 277 21 14 2 [] (by decide +kernel) (by decide) rfl (by first | decide | omega) ?_
    refine sp_here h h0 (fK1 ?_)
    refine fx_si 3 15 (by decide +kernel) (Or.inr (fI_n4 _)) rfl ?_
    dsimp only [List.set]
    refine fx_ci (0) 16 (by decide +kernel) ?_
    refine fx_si 4 18 (by decide +kernel) (Or.inr (fI_n4 _)) rfl ?_
    dsimp only [List.set]
    generalize hF : pSk T E (g 148 11) = F at *
    have st := sp_figures_1 (W := W) (r := r) (Q := Q) (lo := lo) (hi := hi) (g := g) h (f := F) (by omega) (fun k hk hE hd hk3 hk4 => ?_) 4 0 rfl (by omega) (fun j hj => absurd hj (Nat.not_lt_zero j))
    · rw [show F + ((0 : Nat) : Int) = F by omega] at st
      exact st
    · have nb := nv_lt hk hd
      unfold fR at hlo hhi
      have bad : ¬ pN T E lo hi F → Q 1 (fI (nv T F k)) (fu (fu g 148 11 (F + k)) 148 12 F) := fun t => k2 t _ _ (by omega) hE (by unfold fR; omega)
      have good : k ≤ 3 → 1 ≤ k → lo ≤ nv T F k → nv T F k ≤ hi → Q 1 (fI (nv T F k)) (fu g 148 11 (F + k)) := fun t1 t2 t3 t4 => by
        have e := hk3 t1
        have e2 : (pDg T E F - F).toNat = k := by omega
        have := k1 ⟨by omega, by omega, by rw [e2]; exact t3, by rw [e2]; exact t4⟩
        rw [e2, e] at this
        exact this
      have np : ¬ (k ≤ 3 ∧ 1 ≤ k ∧ lo ≤ nv T F k ∧ nv T F k ≤ hi) → ¬ pN T E lo hi F := fun t q => by
        obtain ⟨q1, q2, q3, q4⟩ := q
        by_cases c : k ≤ 3
        · have e := hk3 c
          have e2 : (pDg T E F - F).toNat = k := by omega
          rw [e2] at q3 q4
          exact t ⟨c, by omega, q3, q4⟩
        · have := hk4 (by omega)
          omega
      refine fx_la 0 90 (v := 1186) (by decide +kernel) rfl (by decide +kernel) ?_
      refine fx_gi 1186 148 11 93 (by decide +kernel) ?_
      try simp only [fu_app, fcy_app, Nat.reduceEqDiff, and_true, and_false, false_and, true_and, if_true, if_false, ite_true, ite_false, reduceIte, Int.reduceToNat, fx_simp0]
      refine fx_li 3 94 (by decide +kernel) rfl ?_
      refine fx_ieq 119 97 (by decide +kernel) (by unfold fR; omega) (by unfold fR; omega) (fun h94 => ?_) (fun h94 => ?_)
      · refine fx_la 0 120 (v := 1186) (by decide +kernel) rfl (by decide +kernel) ?_
        refine fx_li 3 121 (by decide +kernel) rfl ?_
        refine fx_c2 273 21 124 0 [] (by decide +kernel) (by decide) (by decide) (fI_n4 _) rfl (by first | decide | omega) ?_
        refine sp_wrong (by rw [fu_nj (by decide)]; exact hf) (by unfold fR; omega) (fK0 ?_)
        refine fx_li 4 126 (by decide +kernel) rfl ?_
        refine fx_ret (by decide +kernel) ?_
        first | exact good (by omega) (by omega) (by omega) (by omega) | exact bad (np (fun t => by omega))
      · refine fx_la 0 98 (v := 1186) (by decide +kernel) rfl (by decide +kernel) ?_
        refine fx_gi 1186 148 11 101 (by decide +kernel) ?_
        try simp only [fu_app, fcy_app, Nat.reduceEqDiff, and_true, and_false, false_and, true_and, if_true, if_false, ite_true, ite_false, reduceIte, Int.reduceToNat, fx_simp0]
        refine fx_li 3 102 (by decide +kernel) rfl ?_
        refine fx_sub 103 (by decide +kernel) rfl ?_
        refine fx_ci (3) 104 (by decide +kernel) ?_
        refine fx_igt 119 107 (by decide +kernel) (by unfold fR; omega) (by unfold fR; omega) (fun h104 => ?_) (fun h104 => ?_)
        · refine fx_la 0 120 (v := 1186) (by decide +kernel) rfl (by decide +kernel) ?_
          refine fx_li 3 121 (by decide +kernel) rfl ?_
          refine fx_c2 273 21 124 0 [] (by decide +kernel) (by decide) (by decide) (fI_n4 _) rfl (by first | decide | omega) ?_
          refine sp_wrong (by rw [fu_nj (by decide)]; exact hf) (by unfold fR; omega) (fK0 ?_)
          refine fx_li 4 126 (by decide +kernel) rfl ?_
          refine fx_ret (by decide +kernel) ?_
          first | exact good (by omega) (by omega) (by omega) (by omega) | exact bad (np (fun t => by omega))
        · refine fx_li 4 109 (by decide +kernel) rfl ?_
          refine fx_li 1 110 (by decide +kernel) rfl ?_
          refine fx_ilt 119 113 (by decide +kernel) (by unfold fR; omega) (by unfold fR; omega) (fun h110 => ?_) (fun h110 => ?_)
          · refine fx_la 0 120 (v := 1186) (by decide +kernel) rfl (by decide +kernel) ?_
            refine fx_li 3 121 (by decide +kernel) rfl ?_
            refine fx_c2 273 21 124 0 [] (by decide +kernel) (by decide) (by decide) (fI_n4 _) rfl (by first | decide | omega) ?_
            refine sp_wrong (by rw [fu_nj (by decide)]; exact hf) (by unfold fR; omega) (fK0 ?_)
            refine fx_li 4 126 (by decide +kernel) rfl ?_
            refine fx_ret (by decide +kernel) ?_
            first | exact good (by omega) (by omega) (by omega) (by omega) | exact bad (np (fun t => by omega))
          · refine fx_li 4 115 (by decide +kernel) rfl ?_
            refine fx_li 2 116 (by decide +kernel) rfl ?_
            refine fx_ile 124 119 (by decide +kernel) (by unfold fR; omega) (by unfold fR; omega) (fun h116 => ?_) (fun h116 => ?_)
            · refine fx_li 4 126 (by decide +kernel) rfl ?_
              refine fx_ret (by decide +kernel) ?_
              first | exact good (by omega) (by omega) (by omega) (by omega) | exact bad (np (fun t => by omega))
            · refine fx_la 0 120 (v := 1186) (by decide +kernel) rfl (by decide +kernel) ?_
              refine fx_li 3 121 (by decide +kernel) rfl ?_
              refine fx_c2 273 21 124 0 [] (by decide +kernel) (by decide) (by decide) (fI_n4 _) rfl (by first | decide | omega) ?_
              refine sp_wrong (by rw [fu_nj (by decide)]; exact hf) (by unfold fR; omega) (fK0 ?_)
              refine fx_li 4 126 (by decide +kernel) rfl ?_
              refine fx_ret (by decide +kernel) ?_
              first | exact good (by omega) (by omega) (by omega) (by omega) | exact bad (np (fun t => by omega))
  · refine fx_ci (0) 9 (by decide +kernel) ?_
    refine fx_ret (by decide +kernel) ?_
    exact absurd hf h5
theorem sp_after_f {lo hi : Int} {s : Nat} (hs : f_sk s) (hf : g 148 12 ≠ -1) (kq : Q 1 (fI 0) g) : fx W r 5 287 0 [1186, s, fI lo, fI hi] [] g Q := by
  refine fx_rg (fun hg => ?_)
  refine fx_la 0 1 (v := 1186) (by decide +kernel) rfl (by decide +kernel) ?_
  refine fx_gi 1186 148 12 4 (by decide +kernel) ?_
  refine fx_ci (-1) 5 (by decide +kernel) ?_
  refine fx_ine 24 8 (by decide +kernel) (by first | exact hg 148 12 (by decide) (by decide +kernel) (by decide +kernel) | (unfold fR; omega)) (by unfold fR; omega) (fun h5 => ?_) (fun h5 => ?_)
  · refine fx_la 0 25 (v := 1186) (by decide +kernel) rfl (by decide +kernel) ?_
    refine fx_li 2 26 (by decide +kernel) rfl ?_
    refine fx_li 3 27 (by decide +kernel) rfl ?_
    refine fx_c3 276 21 30 3 [7, 7] (by decide +kernel) (by decide) (by decide) (fI_n4 _) (fI_n4 _) rfl (by first | decide | omega) ?_
    refine sp_figures_f hf (fK1 ?_)
    refine fx_ret (by decide +kernel) ?_
    exact kq
  · refine fx_la 0 9 (v := 1186) (by decide +kernel) rfl (by decide +kernel) ?_
    refine fx_la 1 10 (v := s) (by decide +kernel) rfl (f_sty hs) ?_
    refine fx_c2 275 21 13 4 [7, 7] (by decide +kernel) (by decide) (by decide) (f_s4 hs) rfl (by first | decide | omega) ?_
    exact absurd h5 hf
/-- a word, then a number -/
theorem sp_after {lo hi : Int} {s : Nat} (h : RT T E g) (hs : f_sk s) (hf : g 148 12 = -1) (h0 : 0 ≤ g 148 11) (h4 : g 148 11 ≤ E) (hlo : fR lo) (hhi : fR hi)
    (k0 : ¬ pWd T E (fStr s) (pSk T E (g 148 11)) → ∀ a v, 0 ≤ a → a ≤ E → fR v → Q 1 (fI v) (fu (fu g 148 11 a) 148 12 (pSk T E (g 148 11))))
    (k1 : ∀ b, b = pSk T E (pWe T E (pSk T E (g 148 11))) → pWd T E (fStr s) (pSk T E (g 148 11)) → pN T E lo hi b → Q 1 (fI (nv T b (pDg T E b - b).toNat)) (fu g 148 11 (pDg T E b)))
    (k2 : ∀ b, b = pSk T E (pWe T E (pSk T E (g 148 11))) → pWd T E (fStr s) (pSk T E (g 148 11)) → ¬ pN T E lo hi b → ∀ a v, 0 ≤ a → a ≤ E → fR v → Q 1 (fI v) (fu (fu g 148 11 a) 148 12 b)) : fx W r 5 287 0 [1186, s, fI lo, fI hi] [] g Q := by
  have aE := h.2.1
  have a3 := h.2.2.1
  refine fx_rg (fun hg => ?_)
  have f0 := pSk_ge T E (g 148 11)
  have f1 := pSk_le (T := T) h4
  have w0 := pWe_ge T E (pSk T E (g 148 11))
  have w1 := pWe_le (T := T) f1
  refine fx_la 0 1 (v := 1186) (by decide +kernel) rfl (by decide +kernel) ?_
  refine fx_gi 1186 148 12 4 (by decide +kernel) ?_
  refine fx_ci (-1) 5 (by decide +kernel) ?_
  refine fx_ine 24 8 (by decide +kernel) (by first | exact hg 148 12 (by decide) (by decide +kernel) (by decide +kernel) | (unfold fR; omega)) (by unfold fR; omega) (fun h5 => ?_) (fun h5 => ?_)
  · refine fx_la 0 25 (v := 1186) (by decide +kernel) rfl (by decide +kernel) ?_
    refine fx_li 2 26 (by decide +kernel) rfl ?_
    refine fx_li 3 27 (by decide +kernel) rfl ?_
    refine fx_c3 276 21 30 3 [7, 7] (by decide +kernel) (by decide) (by decide) (fI_n4 _) (fI_n4 _) rfl (by first | decide | omega) ?_
    exact absurd hf h5
  · refine fx_la 0 9 (v := 1186) (by decide +kernel) rfl (by decide +kernel) ?_
    refine fx_la 1 10 (v := s) (by decide +kernel) rfl (f_sty hs) ?_
    refine fx_c2 275 21 13 4 [7, 7] (by decide +kernel) (by decide) (by decide) (f_s4 hs) rfl (by first | decide | omega) ?_
    refine sp_has h hs h0 h4 (fun b10 => fK1 ?_) (fun b10 => fK1 ?_)
    · refine fx_zne 24 16 (by decide +kernel) (by unfold fR; omega) (fun _ => ?_) (fun hc => absurd hc (by decide))
      refine fx_la 0 25 (v := 1186) (by decide +kernel) rfl (by decide +kernel) ?_
      refine fx_li 2 26 (by decide +kernel) rfl ?_
      refine fx_li 3 27 (by decide +kernel) rfl ?_
      refine fx_c3 276 21 30 3 [7, 7] (by decide +kernel) (by decide) (by decide) (fI_n4 _) (fI_n4 _) rfl (by first | decide | omega) ?_
      refine sp_figures (RT_fu h (by decide) (by decide)) (by rw [fu_nj (by decide)]; exact hf) (by rw [fu_eq]; omega) (by rw [fu_eq]; omega) hlo hhi (fun p => fK1 ?_) (fun p a v q1 q2 q3 => fK1 ?_)
      · rw [fu_eq] at p
        simp only [fu_eq, fu_fu]
        refine fx_ret (by decide +kernel) ?_
        exact k1 _ rfl b10 p
      · rw [fu_eq] at p
        simp only [fu_eq, fu_fu]
        refine fx_ret (by decide +kernel) ?_
        exact k2 _ rfl b10 p a v q1 q2 q3
    · refine fx_zne 24 16 (by decide +kernel) (by unfold fR; omega) (fun hc => absurd hc (by decide)) (fun _ => ?_)
      refine fx_la 0 17 (v := 1186) (by decide +kernel) rfl (by decide +kernel) ?_
      refine fx_la 0 18 (v := 1186) (by decide +kernel) rfl (by decide +kernel) ?_
      refine fx_gi 1186 148 11 21 (by decide +kernel) ?_
      try simp only [fu_app, fcy_app, Nat.reduceEqDiff, and_true, and_false, false_and, true_and, if_true, if_false, ite_true, ite_false, reduceIte, Int.reduceToNat, fx_simp0]
      refine fx_c2 273 21 24 0 [] (by decide +kernel) (by decide) (by decide) (fI_n4 _) rfl (by first | decide | omega) ?_
      refine sp_wrong (by rw [fu_nj (by decide)]; exact hf) (by unfold fR; omega) (fK0 ?_)
      refine fx_la 0 25 (v := 1186) (by decide +kernel) rfl (by decide +kernel) ?_
      refine fx_li 2 26 (by decide +kernel) rfl ?_
      refine fx_li 3 27 (by decide +kernel) rfl ?_
      refine fx_c3 276 21 30 3 [7, 7] (by decide +kernel) (by decide) (by decide) (fI_n4 _) (fI_n4 _) rfl (by first | decide | omega) ?_
      refine sp_figures_f (by rw [fu_eq]; omega) (fK1 ?_)
      refine fx_ret (by decide +kernel) ?_
      exact k0 b10 _ _ (by omega) (by omega) (by unfold fR; omega)
end FXJ
