/-! joined: 83.cfxj 83.cfxk 83.cfxm 83.cfxn 83.cfxo 83.cfxp 83.cfxq -/
section
/-! fx: signs, numbers as the reference reads them -/
theorem prun_min {p : Int → Bool} {E i e : Int} (hi : i ≤ e) (he : e ≤ E) (h : ∀ k, i ≤ k → k < e → p k = true) : e ≤ prun p E i := by
  by_cases q : prun p E i < e
  · have h1 := prun_end (p := p) (E := E) (i := i) (by omega) (by omega)
    have h2 := h _ prun_ge q
    rw [h1] at h2
    cases h2
  · omega
theorem prun_char {p : Int → Bool} {E i e : Int} (hi : i ≤ e) (he : e ≤ E) (h : ∀ k, i ≤ k → k < e → p k = true) (h2 : e = E ∨ p e = false) : prun p E i = e := by
  have h1 := prun_min hi he h
  have h3 := prun_le (p := p) (E := E) (i := i) (by omega)
  by_cases q : e < prun p E i
  · have h4 := prun_all hi q
    rcases h2 with h2 | h2
    · omega
    · rw [h2] at h4; cases h4
  · omega
/-- the number of n figures from f on -/
def nv (T : Int → Int) (f : Int) : Nat → Int
  | 0 => 0
  | n + 1 => 10 * nv T f n + T (f + n) - 48
theorem nv_b {T : Int → Int} {f : Int} : ∀ {n : Nat}, (∀ k : Nat, k < n → 48 ≤ T (f + k) ∧ T (f + k) ≤ 57) → 0 ≤ nv T f n ∧ (n ≤ 4 → nv T f n < 10 ^ n)
  | 0, _ => ⟨Int.le_refl 0, fun _ => by show (0 : Int) < 1; decide⟩
  | n + 1, h => by
    obtain ⟨h1, h2⟩ := nv_b (n := n) (fun k hk => h k (by omega))
    have h3 := h n (by omega)
    refine ⟨by show 0 ≤ 10 * nv T f n + T (f + n) - 48; omega, fun h4 => ?_⟩
    have h2 := h2 (by omega)
    show 10 * nv T f n + T (f + n) - 48 < 10 ^ (n + 1)
    have e : (10 : Int) ^ (n + 1) = 10 * 10 ^ n := by rw [Int.pow_succ]; omega
    omega
theorem nv_lt {T : Int → Int} {f : Int} {n : Nat} (hn : n ≤ 4) (h : ∀ k : Nat, k < n → 48 ≤ T (f + k) ∧ T (f + k) ≤ 57) : 0 ≤ nv T f n ∧ nv T f n < 10000 := by
  obtain ⟨h1, h2⟩ := nv_b h
  have h2 := h2 hn
  have : (10 : Int) ^ n ≤ 10000 := by
    rcases (by omega : n = 0 ∨ n = 1 ∨ n = 2 ∨ n = 3 ∨ n = 4) with rfl | rfl | rfl | rfl | rfl <;> decide
  omega
/-- a number within lo to hi stands at f -/
def pN (T : Int → Int) (E lo hi f : Int) : Prop := 1 ≤ pDg T E f - f ∧ pDg T E f - f ≤ 3 ∧ lo ≤ nv T f (pDg T E f - f).toNat ∧ nv T f (pDg T E f - f).toNat ≤ hi
section FXJ
variable {W : ax_W} {r : Nat} {g : Nat → Nat → Int} {Q : Nat → Nat → (Nat → Nat → Int) → Prop} {T : Int → Int} {E : Int} {s : Nat}
theorem sp_isSign {c : Int} (h : RT T E g) (h0 : 0 ≤ g 148 11) (h4 : g 148 11 ≤ E) (hc : fR c) (k1 : pSk T E (g 148 11) < E ∧ T (pSk T E (g 148 11)) = c → Q 1 (fI 1) (fu g 148 11 (pSk T E (g 148 11))))
    (k2 : ¬ (pSk T E (g 148 11) < E ∧ T (pSk T E (g 148 11)) = c) → Q 1 (fI 0) (fu g 148 11 (pSk T E (g 148 11)))) : fx W r 2 280 0 [1186, fI c] [] g Q := by
  have a1 := h.1
  have aE := h.2.1
  have a3 := h.2.2.1
  have f0 := pSk_ge T E (g 148 11)
  have f1 := pSk_le (T := T) h4
  have h' := RT_fu h (j := 11) (z := pSk T E (g 148 11)) (by decide) (by decide)
  refine fx_la 0 1 (v := 1186) (by decide +kernel) rfl (by decide +kernel) ?_
  refine fx_c1 270 21 4 1 [] (by decide +kernel) (by decide) rfl (by first | decide | omega) ?_
  refine sp_skip h h0 (fK0 ?_)
  refine fx_la 0 5 (v := 1186) (by decide +kernel) rfl (by decide +kernel) ?_
  refine fx_gi 1186 148 11 8 (by decide +kernel) ?_
  try simp only [fu_app, fcy_app, Nat.reduceEqDiff, and_true, and_false, false_and, true_and, if_true, if_false, ite_true, ite_false, reduceIte, Int.reduceToNat, fx_simp0]
  refine fx_la 0 9 (v := 1186) (by decide +kernel) rfl (by decide +kernel) ?_
  refine fx_gi 1186 148 10 12 (by decide +kernel) ?_
  try simp only [fu_app, fcy_app, Nat.reduceEqDiff, and_true, and_false, false_and, true_and, if_true, if_false, ite_true, ite_false, reduceIte, Int.reduceToNat, fx_simp0]
  refine fx_ige 31 15 (by decide +kernel) (by unfold fR; omega) (by unfold fR; omega) (fun h12 => ?_) (fun h12 => ?_)
  · refine fx_ci (0) 32 (by decide +kernel) ?_
    refine fx_retb (by decide +kernel) (by first | exact Or.inl rfl | exact Or.inr rfl | omega) ?_
    first | exact k1 ⟨by omega, by omega⟩ | exact k2 (fun t => by omega)
  · refine fx_la 0 16 (v := 1186) (by decide +kernel) rfl (by decide +kernel) ?_
    refine fx_la 0 17 (v := 1186) (by decide +kernel) rfl (by decide +kernel) ?_
    refine fx_gi 1186 148 11 20 (by decide +kernel) ?_
    try simp only [fu_app, fcy_app, Nat.reduceEqDiff, and_true, and_false, false_and, true_and, if_true, if_false, ite_true, ite_false, reduceIte, Int.reduceToNat, fx_simp0]
    have tv := RT_t h (k := pSk T E (g 148 11)) (by omega) (by omega)
    refine fx_c2 271 21 23 0 [] (by decide +kernel) (by decide) (by decide) (fI_n4 _) rfl (by first | decide | omega) ?_
    refine sp_letterT h' (by omega) (by omega) (fK1 ?_)
    refine fx_li 1 24 (by decide +kernel) rfl ?_
    unfold fR at hc
    refine fx_ine 31 27 (by decide +kernel) (by unfold fR; omega) (by unfold fR; omega) (fun h24 => ?_) (fun h24 => ?_)
    · refine fx_ci (0) 32 (by decide +kernel) ?_
      refine fx_retb (by decide +kernel) (by first | exact Or.inl rfl | exact Or.inr rfl | omega) ?_
      first | exact k1 ⟨by omega, by omega⟩ | exact k2 (fun t => by omega)
    · refine fx_ci (1) 28 (by decide +kernel) ?_
      refine fx_go 32 (by decide +kernel) ?_
      refine fx_retb (by decide +kernel) (by first | exact Or.inl rfl | exact Or.inr rfl | omega) ?_
      first | exact k1 ⟨by omega, by omega⟩ | exact k2 (fun t => by omega)
theorem sp_wrong {w : Int} (hf : g 148 12 = -1) (hw : fR w) (kq : Q 0 0 (fu g 148 12 w)) : fx W r 0 272 0 [1186, fI w] [] g Q := by
  refine fx_rg (fun hg => ?_)
  unfold fR at hw
  refine fx_la 0 1 (v := 1186) (by decide +kernel) rfl (by decide +kernel) ?_
  refine fx_gi 1186 148 12 4 (by decide +kernel) ?_
  refine fx_ci (-1) 5 (by decide +kernel) ?_
  refine fx_ine 13 8 (by decide +kernel) (by first | exact hg 148 12 (by decide) (by decide +kernel) (by decide +kernel) | (unfold fR; omega)) (by unfold fR; omega) (fun h5 => ?_) (fun h5 => ?_)
  · refine fx_vret (by decide +kernel) ?_
    first | exact kq | (exfalso; omega)
  · refine fx_la 0 9 (v := 1186) (by decide +kernel) rfl (by decide +kernel) ?_
    refine fx_li 1 10 (by decide +kernel) rfl ?_
    refine fx_pi 1186 148 12 13 (by decide +kernel) (by unfold fR; omega) ?_
    refine fx_vret (by decide +kernel) ?_
    first | exact kq | (exfalso; omega)
theorem sp_wrong_f {w : Int} (hf : g 148 12 ≠ -1) (hw : fR w) (kq : Q 0 0 g) : fx W r 0 272 0 [1186, fI w] [] g Q := by
  refine fx_rg (fun hg => ?_)
  unfold fR at hw
  refine fx_la 0 1 (v := 1186) (by decide +kernel) rfl (by decide +kernel) ?_
  refine fx_gi 1186 148 12 4 (by decide +kernel) ?_
  refine fx_ci (-1) 5 (by decide +kernel) ?_
  refine fx_ine 13 8 (by decide +kernel) (by first | exact hg 148 12 (by decide) (by decide +kernel) (by decide +kernel) | (unfold fR; omega)) (by unfold fR; omega) (fun h5 => ?_) (fun h5 => ?_)
  · refine fx_vret (by decide +kernel) ?_
    first | exact kq | (exfalso; omega)
  · refine fx_la 0 9 (v := 1186) (by decide +kernel) rfl (by decide +kernel) ?_
    refine fx_li 1 10 (by decide +kernel) rfl ?_
    refine fx_pi 1186 148 12 13 (by decide +kernel) (by unfold fR; omega) ?_
    refine fx_vret (by decide +kernel) ?_
    first | exact kq | (exfalso; omega)
theorem sp_here (h : RT T E g) (h0 : 0 ≤ g 148 11) (kq : Q 1 (fI (pSk T E (g 148 11))) (fu g 148 11 (pSk T E (g 148 11)))) : fx W r 2 276 0 [1186] [] g Q := by
  refine fx_la 0 1 (v := 1186) (by decide +kernel) rfl (by decide +kernel) ?_
  refine fx_c1 270 21 4 1 [] (by decide +kernel) (by decide) rfl (by first | decide | omega) ?_
  refine sp_skip h h0 (fK0 ?_)
  refine fx_la 0 5 (v := 1186) (by decide +kernel) rfl (by decide +kernel) ?_
  refine fx_gi 1186 148 11 8 (by decide +kernel) ?_
  try simp only [fu_app, fcy_app, Nat.reduceEqDiff, and_true, and_false, false_and, true_and, if_true, if_false, ite_true, ite_false, reduceIte, Int.reduceToNat, fx_simp0]
  refine fx_ret (by decide +kernel) ?_
  exact kq
theorem sp_figures_f {lo hi : Int} (hf : g 148 12 ≠ -1) (kq : Q 1 (fI 0) g) : fx W r 3 275 0 [1186, fI lo, fI hi, 7, 7] [] g Q := by
  refine fx_rg (fun hg => ?_)
  refine fx_la 0 1 (v := 1186) (by decide +kernel) rfl (by decide +kernel) ?_
  refine fx_gi 1186 148 12 4 (by decide +kernel) ?_
  refine fx_ci (-1) 5 (by decide +kernel) ?_
  refine fx_ieq 10 8 (by decide +kernel) (by first | exact hg 148 12 (by decide) (by decide +kernel) (by decide +kernel) | (unfold fR; omega)) (by unfold fR; omega) (fun h5 => ?_) (fun h5 => ?_)
  · refine fx_la 0 11 (v := 1186) (by decide +kernel) rfl (by decide +kernel) ?_
    refine fx_c1 276 21 14 2 [] (by decide +kernel) (by decide) rfl (by first | decide | omega) ?_
    exact absurd h5 hf
  · refine fx_ci (0) 9 (by decide +kernel) ?_
    refine fx_ret (by decide +kernel) ?_
    exact kq
theorem sp_figures_1 {lo hi f : Int} (h : RT T E g) (h0 : 0 ≤ f) (kq : ∀ k : Nat, k ≤ 4 → f + k ≤ E → (∀ j : Nat, j < k → 48 ≤ T (f + j) ∧ T (f + j) ≤ 57) → (k ≤ 3 → pDg T E f = f + k) → (k = 4 → f + 4 ≤ pDg T E f) → fx W r 3 275 89 [1186, fI lo, fI hi, fI f, fI (nv T f k)] [] (fu g 148 11 (f + k)) Q) :
    ∀ (n k : Nat), k + n = 4 → f + k ≤ E → (∀ j : Nat, j < k → 48 ≤ T (f + j) ∧ T (f + j) ≤ 57) → fx W r 3 275 18 [1186, fI lo, fI hi, fI f, fI (nv T f k)] [] (fu g 148 11 (f + k)) Q
  | n, k, hn, hE, hd => by
    have a1 := h.1
    have aE := h.2.1
    have a3 := h.2.2.1
    have h' := RT_fu h (j := 11) (z := f + k) (by decide) (by decide)
    have hdi : ∀ j, f ≤ j → j < f + k → isDi T j = true := fun j j1 j2 => by
      unfold isDi
      have := hd (j - f).toNat (by omega)
      rw [show f + ((j - f).toNat : Int) = j by omega] at this
      exact decide_eq_true this
    have mn := prun_min (p := isDi T) (E := E) (i := f) (e := f + k) (by omega) hE hdi
    refine fx_la 0 19 (v := 1186) (by decide +kernel) rfl (by decide +kernel) ?_
    refine fx_gi 1186 148 11 22 (by decide +kernel) ?_
    try simp only [fu_app, fcy_app, Nat.reduceEqDiff, and_true, and_false, false_and, true_and, if_true, if_false, ite_true, ite_false, reduceIte, Int.reduceToNat, fx_simp0]
    refine fx_la 0 23 (v := 1186) (by decide +kernel) rfl (by decide +kernel) ?_
    refine fx_gi 1186 148 10 26 (by decide +kernel) ?_
    try simp only [fu_app, fcy_app, Nat.reduceEqDiff, and_true, and_false, false_and, true_and, if_true, if_false, ite_true, ite_false, reduceIte, Int.reduceToNat, fx_simp0]
    refine fx_ige 89 29 (by decide +kernel) (by unfold fR; omega) (by unfold fR; omega) (fun h26 => ?_) (fun h26 => ?_)
    · refine kq k (by omega) hE hd (fun hk => ?_) (fun hk => ?_)
      · refine prun_char (by omega) hE hdi ?_
        first
          | exact Or.inl (by omega)
          | (right; unfold isDi; exact decide_eq_false b41)
          | (exfalso; omega)
      · subst hk; exact mn
    · have tv := RT_t h (k := f + k) (by omega) (by omega)
      refine fx_la 0 30 (v := 1186) (by decide +kernel) rfl (by decide +kernel) ?_
      refine fx_la 0 31 (v := 1186) (by decide +kernel) rfl (by decide +kernel) ?_
      refine fx_gi 1186 148 11 34 (by decide +kernel) ?_
      try simp only [fu_app, fcy_app, Nat.reduceEqDiff, and_true, and_false, false_and, true_and, if_true, if_false, ite_true, ite_false, reduceIte, Int.reduceToNat, fx_simp0]
      refine fx_c2 271 21 37 0 [] (by decide +kernel) (by decide) (by decide) (fI_n4 _) rfl (by first | decide | omega) ?_
      refine sp_letterT h' (by omega) (by omega) (fK1 ?_)
      refine fx_ci (48) 39 (by decide +kernel) ?_
      refine fx_ci (57) 41 (by decide +kernel) ?_
      refine fx_c3 265 22 44 0 [] (f_q22 (by decide +kernel)) (by decide) (fI_n4 _) (fI_n4 _) (fI_n4 _) rfl (by first | decide | omega) ?_
      refine sp_isIn (by unfold fR; omega) (by unfold fR; omega) (by unfold fR; omega) (fun b41 => fK1 ?_) (fun b41 => fK1 ?_)
      · refine fx_zeq 89 47 (by decide +kernel) (by unfold fR; omega) (fun hc => absurd hc (by decide)) (fun _ => ?_)
        refine fx_la 0 48 (v := 1186) (by decide +kernel) rfl (by decide +kernel) ?_
        refine fx_gi 1186 148 11 51 (by decide +kernel) ?_
        try simp only [fu_app, fcy_app, Nat.reduceEqDiff, and_true, and_false, false_and, true_and, if_true, if_false, ite_true, ite_false, reduceIte, Int.reduceToNat, fx_simp0]
        refine fx_li 3 52 (by decide +kernel) rfl ?_
        refine fx_sub 53 (by decide +kernel) rfl ?_
        refine fx_ci (3) 54 (by decide +kernel) ?_
        refine fx_igt 89 57 (by decide +kernel) (by unfold fR; omega) (by unfold fR; omega) (fun h54 => ?_) (fun h54 => ?_)
        · refine kq k (by omega) hE hd (fun hk => ?_) (fun hk => ?_)
          · refine prun_char (by omega) hE hdi ?_
            first
              | exact Or.inl (by omega)
              | (right; unfold isDi; exact decide_eq_false b41)
              | (exfalso; omega)
          · subst hk; exact mn
        · refine fx_ci (10) 59 (by decide +kernel) ?_
          refine fx_li 4 61 (by decide +kernel) rfl ?_
          refine fx_mul 62 (by decide +kernel) rfl ?_
          refine fx_la 0 63 (v := 1186) (by decide +kernel) rfl (by decide +kernel) ?_
          refine fx_la 0 64 (v := 1186) (by decide +kernel) rfl (by decide +kernel) ?_
          refine fx_gi 1186 148 11 67 (by decide +kernel) ?_
          try simp only [fu_app, fcy_app, Nat.reduceEqDiff, and_true, and_false, false_and, true_and, if_true, if_false, ite_true, ite_false, reduceIte, Int.reduceToNat, fx_simp0]
          refine fx_c2 271 21 70 0 [] (by decide +kernel) (by decide) (by decide) (fI_n4 _) rfl (by first | decide | omega) ?_
          refine sp_letterT h' (by omega) (by omega) (fK1 ?_)
          refine fx_add 71 (by decide +kernel) rfl ?_
          refine fx_ci (48) 73 (by decide +kernel) ?_
          refine fx_sub 74 (by decide +kernel) rfl ?_
          refine fx_si 4 76 (by decide +kernel) (Or.inr (fI_n4 _)) rfl ?_
          dsimp only [List.set]
          refine fx_la 0 77 (v := 1186) (by decide +kernel) rfl (by decide +kernel) ?_
          refine fx_dup 78 (by decide +kernel) rfl (by decide) ?_
          refine fx_gi 1186 148 11 81 (by decide +kernel) ?_
          try simp only [fu_app, fcy_app, Nat.reduceEqDiff, and_true, and_false, false_and, true_and, if_true, if_false, ite_true, ite_false, reduceIte, Int.reduceToNat, fx_simp0]
          refine fx_ci (1) 82 (by decide +kernel) ?_
          refine fx_add 83 (by decide +kernel) rfl ?_
          refine fx_pi 1186 148 11 86 (by decide +kernel) (by unfold fR; omega) ?_
          refine fx_go 18 (by decide +kernel) ?_
          rw [fu_fu, show f + (k : Int) + 1 = f + ((k + 1 : Nat) : Int) by omega]
          match n, hn with
          | 0, hn => exfalso; omega
          | n + 1, hn =>
            refine sp_figures_1 h h0 kq n (k + 1) (by omega) (by omega) (fun j hj => ?_)
            by_cases e : j = k
            · rw [e]; exact b41
            · exact hd j (by omega)
      · refine fx_zeq 89 47 (by decide +kernel) (by unfold fR; omega) (fun _ => ?_) (fun hc => absurd hc (by decide))
        refine kq k (by omega) hE hd (fun hk => ?_) (fun hk => ?_)
        · refine prun_char (by omega) hE hdi ?_
          first
            | exact Or.inl (by omega)
            | (right; unfold isDi; exact decide_eq_false b41)
            | (exfalso; omega)
        · subst hk; exact mn
theorem sp_figures {lo hi : Int} (h : RT T E g) (hf : g 148 12 = -1) (h0 : 0 ≤ g 148 11) (h4 : g 148 11 ≤ E) (hlo : fR lo) (hhi : fR hi)
    (k1 : pN T E lo hi (pSk T E (g 148 11)) → Q 1 (fI (nv T (pSk T E (g 148 11)) (pDg T E (pSk T E (g 148 11)) - pSk T E (g 148 11)).toNat)) (fu g 148 11 (pDg T E (pSk T E (g 148 11)))))
    (k2 : ¬ pN T E lo hi (pSk T E (g 148 11)) → ∀ a v, 0 ≤ a → a ≤ E → fR v → Q 1 (fI v) (fu (fu g 148 11 a) 148 12 (pSk T E (g 148 11)))) : fx W r 3 275 0 [1186, fI lo, fI hi, 7, 7] [] g Q := by
  have a1 := h.1
  have aE := h.2.1
  have a3 := h.2.2.1
  refine fx_rg (fun hg => ?_)
  have f0 := pSk_ge T E (g 148 11)
  have f1 := pSk_le (T := T) h4
  refine fx_la 0 1 (v := 1186) (by decide +kernel) rfl (by decide +kernel) ?_
  refine fx_gi 1186 148 12 4 (by decide +kernel) ?_
  refine fx_ci (-1) 5 (by decide +kernel) ?_
  refine fx_ieq 10 8 (by decide +kernel) (by first | exact hg 148 12 (by decide) (by decide +kernel) (by decide +kernel) | (unfold fR; omega)) (by unfold fR; omega) (fun h5 => ?_) (fun h5 => ?_)
  · refine fx_la 0 11 (v := 1186) (by decide +kernel) rfl (by decide +kernel) ?_
    refine fx_c1 276 21 14 2 [] (by decide +kernel) (by decide) rfl (by first | decide | omega) ?_
    refine sp_here h h0 (fK1 ?_)
    refine fx_si 3 15 (by decide +kernel) (Or.inr (fI_n4 _)) rfl ?_
    dsimp only [List.set]
    refine fx_ci (0) 16 (by decide +kernel) ?_
    refine fx_si 4 18 (by decide +kernel) (Or.inr (fI_n4 _)) rfl ?_
    dsimp only [List.set]
    generalize hF : pSk T E (g 148 11) = F at *
    have st := sp_figures_1 (W := W) (r := r) (Q := Q) (lo := lo) (hi := hi) (g := g) h (f := F) (by omega) (fun k hk hE hd hk3 hk4 => ?_) 4 0 rfl (by omega) (fun j hj => absurd hj (Nat.not_lt_zero j))
    · rw [show F + ((0 : Nat) : Int) = F by omega] at st
      exact st
    · have nb := nv_lt hk hd
      unfold fR at hlo hhi
      have bad : ¬ pN T E lo hi F → Q 1 (fI (nv T F k)) (fu (fu g 148 11 (F + k)) 148 12 F) := fun t => k2 t _ _ (by omega) hE (by unfold fR; omega)
      have good : k ≤ 3 → 1 ≤ k → lo ≤ nv T F k → nv T F k ≤ hi → Q 1 (fI (nv T F k)) (fu g 148 11 (F + k)) := fun t1 t2 t3 t4 => by
        have e := hk3 t1
        have e2 : (pDg T E F - F).toNat = k := by omega
        have := k1 ⟨by omega, by omega, by rw [e2]; exact t3, by rw [e2]; exact t4⟩
        rw [e2, e] at this
        exact this
      have np : ¬ (k ≤ 3 ∧ 1 ≤ k ∧ lo ≤ nv T F k ∧ nv T F k ≤ hi) → ¬ pN T E lo hi F := fun t q => by
        obtain ⟨q1, q2, q3, q4⟩ := q
        by_cases c : k ≤ 3
        · have e := hk3 c
          have e2 : (pDg T E F - F).toNat = k := by omega
          rw [e2] at q3 q4
          exact t ⟨c, by omega, q3, q4⟩
        · have := hk4 (by omega)
          omega
      refine fx_la 0 90 (v := 1186) (by decide +kernel) rfl (by decide +kernel) ?_
      refine fx_gi 1186 148 11 93 (by decide +kernel) ?_
      try simp only [fu_app, fcy_app, Nat.reduceEqDiff, and_true, and_false, false_and, true_and, if_true, if_false, ite_true, ite_false, reduceIte, Int.reduceToNat, fx_simp0]
      refine fx_li 3 94 (by decide +kernel) rfl ?_
      refine fx_ieq 119 97 (by decide +kernel) (by unfold fR; omega) (by unfold fR; omega) (fun h94 => ?_) (fun h94 => ?_)
      · refine fx_la 0 120 (v := 1186) (by decide +kernel) rfl (by decide +kernel) ?_
        refine fx_li 3 121 (by decide +kernel) rfl ?_
        refine fx_c2 272 21 124 0 [] (by decide +kernel) (by decide) (by decide) (fI_n4 _) rfl (by first | decide | omega) ?_
        refine sp_wrong (by rw [fu_nj (by decide)]; exact hf) (by unfold fR; omega) (fK0 ?_)
        refine fx_li 4 126 (by decide +kernel) rfl ?_
        refine fx_ret (by decide +kernel) ?_
        first | exact good (by omega) (by omega) (by omega) (by omega) | exact bad (np (fun t => by omega))
      · refine fx_la 0 98 (v := 1186) (by decide +kernel) rfl (by decide +kernel) ?_
        refine fx_gi 1186 148 11 101 (by decide +kernel) ?_
        try simp only [fu_app, fcy_app, Nat.reduceEqDiff, and_true, and_false, false_and, true_and, if_true, if_false, ite_true, ite_false, reduceIte, Int.reduceToNat, fx_simp0]
        refine fx_li 3 102 (by decide +kernel) rfl ?_
        refine fx_sub 103 (by decide +kernel) rfl ?_
        refine fx_ci (3) 104 (by decide +kernel) ?_
        refine fx_igt 119 107 (by decide +kernel) (by unfold fR; omega) (by unfold fR; omega) (fun h104 => ?_) (fun h104 => ?_)
        · refine fx_la 0 120 (v := 1186) (by decide +kernel) rfl (by decide +kernel) ?_
          refine fx_li 3 121 (by decide +kernel) rfl ?_
          refine fx_c2 272 21 124 0 [] (by decide +kernel) (by decide) (by decide) (fI_n4 _) rfl (by first | decide | omega) ?_
          refine sp_wrong (by rw [fu_nj (by decide)]; exact hf) (by unfold fR; omega) (fK0 ?_)
          refine fx_li 4 126 (by decide +kernel) rfl ?_
          refine fx_ret (by decide +kernel) ?_
          first | exact good (by omega) (by omega) (by omega) (by omega) | exact bad (np (fun t => by omega))
        · refine fx_li 4 109 (by decide +kernel) rfl ?_
          refine fx_li 1 110 (by decide +kernel) rfl ?_
          refine fx_ilt 119 113 (by decide +kernel) (by unfold fR; omega) (by unfold fR; omega) (fun h110 => ?_) (fun h110 => ?_)
          · refine fx_la 0 120 (v := 1186) (by decide +kernel) rfl (by decide +kernel) ?_
            refine fx_li 3 121 (by decide +kernel) rfl ?_
            refine fx_c2 272 21 124 0 [] (by decide +kernel) (by decide) (by decide) (fI_n4 _) rfl (by first | decide | omega) ?_
            refine sp_wrong (by rw [fu_nj (by decide)]; exact hf) (by unfold fR; omega) (fK0 ?_)
            refine fx_li 4 126 (by decide +kernel) rfl ?_
            refine fx_ret (by decide +kernel) ?_
            first | exact good (by omega) (by omega) (by omega) (by omega) | exact bad (np (fun t => by omega))
          · refine fx_li 4 115 (by decide +kernel) rfl ?_
            refine fx_li 2 116 (by decide +kernel) rfl ?_
            refine fx_ile 124 119 (by decide +kernel) (by unfold fR; omega) (by unfold fR; omega) (fun h116 => ?_) (fun h116 => ?_)
            · refine fx_li 4 126 (by decide +kernel) rfl ?_
              refine fx_ret (by decide +kernel) ?_
              first | exact good (by omega) (by omega) (by omega) (by omega) | exact bad (np (fun t => by omega))
            · refine fx_la 0 120 (v := 1186) (by decide +kernel) rfl (by decide +kernel) ?_
              refine fx_li 3 121 (by decide +kernel) rfl ?_
              refine fx_c2 272 21 124 0 [] (by decide +kernel) (by decide) (by decide) (fI_n4 _) rfl (by first | decide | omega) ?_
              refine sp_wrong (by rw [fu_nj (by decide)]; exact hf) (by unfold fR; omega) (fK0 ?_)
              refine fx_li 4 126 (by decide +kernel) rfl ?_
              refine fx_ret (by decide +kernel) ?_
              first | exact good (by omega) (by omega) (by omega) (by omega) | exact bad (np (fun t => by omega))
  · refine fx_ci (0) 9 (by decide +kernel) ?_
    refine fx_ret (by decide +kernel) ?_
    exact absurd hf h5
theorem sp_after_f {lo hi : Int} {s : Nat} (hs : f_sk s) (hf : g 148 12 ≠ -1) (kq : Q 1 (fI 0) g) : fx W r 5 286 0 [1186, s, fI lo, fI hi] [] g Q := by
  refine fx_rg (fun hg => ?_)
  refine fx_la 0 1 (v := 1186) (by decide +kernel) rfl (by decide +kernel) ?_
  refine fx_gi 1186 148 12 4 (by decide +kernel) ?_
  refine fx_ci (-1) 5 (by decide +kernel) ?_
  refine fx_ine 24 8 (by decide +kernel) (by first | exact hg 148 12 (by decide) (by decide +kernel) (by decide +kernel) | (unfold fR; omega)) (by unfold fR; omega) (fun h5 => ?_) (fun h5 => ?_)
  · refine fx_la 0 25 (v := 1186) (by decide +kernel) rfl (by decide +kernel) ?_
    refine fx_li 2 26 (by decide +kernel) rfl ?_
    refine fx_li 3 27 (by decide +kernel) rfl ?_
    refine fx_c3 275 21 30 3 [7, 7] (by decide +kernel) (by decide) (by decide) (fI_n4 _) (fI_n4 _) rfl (by first | decide | omega) ?_
    refine sp_figures_f hf (fK1 ?_)
    refine fx_ret (by decide +kernel) ?_
    exact kq
  · refine fx_la 0 9 (v := 1186) (by decide +kernel) rfl (by decide +kernel) ?_
    refine fx_la 1 10 (v := s) (by decide +kernel) rfl (f_sty hs) ?_
    refine fx_c2 274 21 13 4 [7, 7] (by decide +kernel) (by decide) (by decide) (f_s4 hs) rfl (by first | decide | omega) ?_
    exact absurd h5 hf
/-- a word, then a number -/
theorem sp_after {lo hi : Int} {s : Nat} (h : RT T E g) (hs : f_sk s) (hf : g 148 12 = -1) (h0 : 0 ≤ g 148 11) (h4 : g 148 11 ≤ E) (hlo : fR lo) (hhi : fR hi)
    (k0 : ¬ pWd T E (fStr s) (pSk T E (g 148 11)) → ∀ a v, 0 ≤ a → a ≤ E → fR v → Q 1 (fI v) (fu (fu g 148 11 a) 148 12 (pSk T E (g 148 11))))
    (k1 : ∀ b, b = pSk T E (pWe T E (pSk T E (g 148 11))) → pWd T E (fStr s) (pSk T E (g 148 11)) → pN T E lo hi b → Q 1 (fI (nv T b (pDg T E b - b).toNat)) (fu g 148 11 (pDg T E b)))
    (k2 : ∀ b, b = pSk T E (pWe T E (pSk T E (g 148 11))) → pWd T E (fStr s) (pSk T E (g 148 11)) → ¬ pN T E lo hi b → ∀ a v, 0 ≤ a → a ≤ E → fR v → Q 1 (fI v) (fu (fu g 148 11 a) 148 12 b)) : fx W r 5 286 0 [1186, s, fI lo, fI hi] [] g Q := by
  have aE := h.2.1
  have a3 := h.2.2.1
  refine fx_rg (fun hg => ?_)
  have f0 := pSk_ge T E (g 148 11)
  have f1 := pSk_le (T := T) h4
  have w0 := pWe_ge T E (pSk T E (g 148 11))
  have w1 := pWe_le (T := T) f1
  refine fx_la 0 1 (v := 1186) (by decide +kernel) rfl (by decide +kernel) ?_
  refine fx_gi 1186 148 12 4 (by decide +kernel) ?_
  refine fx_ci (-1) 5 (by decide +kernel) ?_
  refine fx_ine 24 8 (by decide +kernel) (by first | exact hg 148 12 (by decide) (by decide +kernel) (by decide +kernel) | (unfold fR; omega)) (by unfold fR; omega) (fun h5 => ?_) (fun h5 => ?_)
  · refine fx_la 0 25 (v := 1186) (by decide +kernel) rfl (by decide +kernel) ?_
    refine fx_li 2 26 (by decide +kernel) rfl ?_
    refine fx_li 3 27 (by decide +kernel) rfl ?_
    refine fx_c3 275 21 30 3 [7, 7] (by decide +kernel) (by decide) (by decide) (fI_n4 _) (fI_n4 _) rfl (by first | decide | omega) ?_
    exact absurd hf h5
  · refine fx_la 0 9 (v := 1186) (by decide +kernel) rfl (by decide +kernel) ?_
    refine fx_la 1 10 (v := s) (by decide +kernel) rfl (f_sty hs) ?_
    refine fx_c2 274 21 13 4 [7, 7] (by decide +kernel) (by decide) (by decide) (f_s4 hs) rfl (by first | decide | omega) ?_
    refine sp_has h hs h0 h4 (fun b10 => fK1 ?_) (fun b10 => fK1 ?_)
    · refine fx_zne 24 16 (by decide +kernel) (by unfold fR; omega) (fun _ => ?_) (fun hc => absurd hc (by decide))
      refine fx_la 0 25 (v := 1186) (by decide +kernel) rfl (by decide +kernel) ?_
      refine fx_li 2 26 (by decide +kernel) rfl ?_
      refine fx_li 3 27 (by decide +kernel) rfl ?_
      refine fx_c3 275 21 30 3 [7, 7] (by decide +kernel) (by decide) (by decide) (fI_n4 _) (fI_n4 _) rfl (by first | decide | omega) ?_
      refine sp_figures (RT_fu h (by decide) (by decide)) (by rw [fu_nj (by decide)]; exact hf) (by rw [fu_eq]; omega) (by rw [fu_eq]; omega) hlo hhi (fun p => fK1 ?_) (fun p a v q1 q2 q3 => fK1 ?_)
      · rw [fu_eq] at p
        simp only [fu_eq, fu_fu]
        refine fx_ret (by decide +kernel) ?_
        exact k1 _ rfl b10 p
      · rw [fu_eq] at p
        simp only [fu_eq, fu_fu]
        refine fx_ret (by decide +kernel) ?_
        exact k2 _ rfl b10 p a v q1 q2 q3
    · refine fx_zne 24 16 (by decide +kernel) (by unfold fR; omega) (fun hc => absurd hc (by decide)) (fun _ => ?_)
      refine fx_la 0 17 (v := 1186) (by decide +kernel) rfl (by decide +kernel) ?_
      refine fx_la 0 18 (v := 1186) (by decide +kernel) rfl (by decide +kernel) ?_
      refine fx_gi 1186 148 11 21 (by decide +kernel) ?_
      try simp only [fu_app, fcy_app, Nat.reduceEqDiff, and_true, and_false, false_and, true_and, if_true, if_false, ite_true, ite_false, reduceIte, Int.reduceToNat, fx_simp0]
      refine fx_c2 272 21 24 0 [] (by decide +kernel) (by decide) (by decide) (fI_n4 _) rfl (by first | decide | omega) ?_
      refine sp_wrong (by rw [fu_nj (by decide)]; exact hf) (by unfold fR; omega) (fK0 ?_)
      refine fx_la 0 25 (v := 1186) (by decide +kernel) rfl (by decide +kernel) ?_
      refine fx_li 2 26 (by decide +kernel) rfl ?_
      refine fx_li 3 27 (by decide +kernel) rfl ?_
      refine fx_c3 275 21 30 3 [7, 7] (by decide +kernel) (by decide) (by decide) (fI_n4 _) (fI_n4 _) rfl (by first | decide | omega) ?_
      refine sp_figures_f (by rw [fu_eq]; omega) (fK1 ?_)
      refine fx_ret (by decide +kernel) ?_
      exact k0 b10 _ _ (by omega) (by omega) (by unfold fR; omega)
end FXJ
end
section
/-! fx: a line of the house, pure; the reference reads a person -/
abbrev pNu (T : Int → Int) (E f : Int) : Int := nv T f (pDg T E f - f).toNat
noncomputable def cif {α : Type} (P : Prop) (a b : α) : α := @ite α P (Classical.propDecidable P) a b
theorem cif_t {α : Type} {P : Prop} {a b : α} (h : P) : cif P a b = a := by unfold cif; rw [if_pos h]
theorem cif_f {α : Type} {P : Prop} {a b : α} (h : ¬ P) : cif P a b = b := by unfold cif; rw [if_neg h]
/-- a word and a number, or df -/
noncomputable def pOpt (T : Int → Int) (E : Int) (ws : List Nat) (lo hi df f : Int) : Int ⊕ (Int × Int) :=
  cif (pWd T E ws f) (cif (pN T E lo hi (pSk T E (pWe T E f))) (Sum.inr (pSk T E (pDg T E (pSk T E (pWe T E f))), pNu T E (pSk T E (pWe T E f)))) (Sum.inl (pSk T E (pWe T E f)))) (Sum.inr (f, df))
noncomputable def bS {α β : Type} (x : Int ⊕ α) (k : α → Int ⊕ β) : Int ⊕ β := Sum.casesOn x Sum.inl k
noncomputable def pPerson (T : Int → Int) (E f : Int) : Int ⊕ (Int × List Int) :=
  cif (pWd T E [119, 101, 105, 103, 104, 116] f) (cif (pN T E 1 99 (pSk T E (pWe T E f)))
    (bS (pOpt T E [97, 116] 0 7 (-1) (pSk T E (pDg T E (pSk T E (pWe T E f))))) (fun a => bS (pOpt T E [118, 111, 116, 101] 0 20 1 a.1) (fun b => bS (pOpt T E [108, 101, 103, 115] 3 4 4 b.1) (fun c => Sum.inr (c.1, [0, pNu T E (pSk T E (pWe T E f)), a.2, b.2, c.2])))))
    (Sum.inl (pSk T E (pWe T E f)))) (Sum.inl f)
noncomputable def f_swb (s : Nat) (ws : List Nat) : Bool := sx_isS s && ((sx_sb[sx_pl s - 2]? == some ws) && (Nat.blt ws.length 1000 && ws.all (fun b => Nat.blt b 128)))
theorem f_sw {s : Nat} {ws : List Nat} (h : f_swb s ws = true) : f_sk s ∧ fStr s = ws := by
  obtain ⟨h1, h2⟩ := f_and h
  obtain ⟨h2, h3⟩ := f_and h2
  obtain ⟨h3, h4⟩ := f_and h3
  have e : sx_sb[sx_pl s - 2]? = some ws := eq_of_beq h2
  have e2 : fStr s = ws := by unfold fStr; rw [e]; rfl
  refine ⟨⟨h1, by rw [e2]; exact e, by rw [e2]; exact sx_blt h3, fun b hb => ?_⟩, e2⟩
  rw [e2] at hb
  exact sx_blt (List.all_eq_true.mp h4 b hb)
section FXK
variable {W : ax_W} {r : Nat} {g : Nat → Nat → Int} {Q : Nat → Nat → (Nat → Nat → Int) → Prop} {T : Int → Int} {E : Int}
theorem sp_hasW {s : Nat} (ws : List Nat) (hw : f_swb s ws = true) {f : Int} (h : RT T E g) (h0 : 0 ≤ g 148 11) (h4 : g 148 11 ≤ E) (hf : pSk T E (g 148 11) = f)
    (k1 : pWd T E ws f → Q 1 (fI 1) (fu g 148 11 (pWe T E f))) (k2 : ¬ pWd T E ws f → Q 1 (fI 0) (fu g 148 11 f)) : fx W r 4 274 0 [1186, s, 7, 7] [] g Q := by
  obtain ⟨h1, h2⟩ := f_sw hw
  subst h2
  subst hf
  exact sp_has h h1 h0 h4 k1 k2
theorem sp_put {p w v : Int} (h0 : 0 ≤ p) (h1 : p ≤ 7) (h2 : 0 ≤ w) (h3 : w ≤ 6) (hv : fR v) (kq : Q 0 0 (fu g 149 (12 + 7 * p + w).toNat v)) : fx W r 0 287 0 [1186, fI p, fI w, fI v] [] g Q := by
  unfold fR at hv
  refine fx_la 0 1 (v := 1186) (by decide +kernel) rfl (by decide +kernel) ?_
  refine fx_gp 1186 148 1 1194 4 (by decide +kernel) ?_
  refine fx_ci (12) 6 (by decide +kernel) ?_
  refine fx_ci (7) 8 (by decide +kernel) ?_
  refine fx_li 1 9 (by decide +kernel) rfl ?_
  refine fx_mul 10 (by decide +kernel) rfl ?_
  refine fx_add 11 (by decide +kernel) rfl ?_
  refine fx_li 2 12 (by decide +kernel) rfl ?_
  refine fx_add 13 (by decide +kernel) rfl ?_
  refine fx_li 3 14 (by decide +kernel) rfl ?_
  refine fx_as 1194 149 764 15 (by decide +kernel) rfl (by omega) (by omega) rfl (by unfold fR; omega) ?_
  refine fx_vret (by decide +kernel) ?_
  exact kq
theorem RT_m (hb : g 148 9 = -1) (h : RT T E g) {j : Nat} {z : Int} : RT T E (fu g 149 j z) := by
  obtain ⟨a1, a2, a3, a4, a5⟩ := h
  refine ⟨by rw [fu_nc (by decide)]; exact a1, a2, a3, by rw [fu_nc (by decide)]; exact a4, fun k k0 k1 => ?_⟩
  have e : flt (fu g 149 j z) k = flt g k := by
    unfold flt
    rw [fu_nc (by decide), if_pos hb, if_pos hb, fu_nc (by decide)]
  rw [e]
  exact a5 k k0 k1
/-- what a person's line does -/
def apP (g : Nat → Nat → Int) (w pl v l : Int) : Nat → Nat → Int := fu (fu (fu (fu (fu (fu (fu (fu g 149 (12 + 7 * g 149 3 + 0).toNat pl) 149 (12 + 7 * g 149 3 + 1).toNat v) 149 (12 + 7 * g 149 3 + 2).toNat w) 149 (12 + 7 * g 149 3 + 3).toNat l) 149 (12 + 7 * g 149 3 + 4).toNat (-1)) 149 (12 + 7 * g 149 3 + 5).toNat 0) 149 (12 + 7 * g 149 3 + 6).toNat 0) 149 3 (g 149 3 + 1)
theorem sp_pl_f {b w x3 x4 x5 : Int} (hf : g 148 12 ≠ -1) (kq : Q 0 0 g) : fx W r 6 285 114 [1186, fI b, fI w, fI x3, fI x4, fI x5, 7] [] g Q := by
  refine fx_rg (fun hg => ?_)
  refine fx_la 0 115 (v := 1186) (by decide +kernel) rfl (by decide +kernel) ?_
  refine fx_gi 1186 148 12 118 (by decide +kernel) ?_
  refine fx_ci (-1) 119 (by decide +kernel) ?_
  refine fx_ieq 123 122 (by decide +kernel) (by first | exact hg 148 12 (by decide) (by decide +kernel) (by decide +kernel) | (unfold fR; omega)) (by unfold fR; omega) (fun h119 => ?_) (fun h119 => ?_)
  · exact absurd h119 hf
  · refine fx_vret (by decide +kernel) ?_
    exact kq
theorem sp_pl_D {b w x3 x4 x5 : Int} (hf : g 148 12 = -1) (hp0 : 0 ≤ g 149 3) (hp1 : g 149 3 ≤ 7) (hw : fR w) (h3 : fR x3) (h4 : fR x4) (h5 : fR x5) (kq : Q 0 0 (apP g w x3 x4 x5)) : fx W r 6 285 114 [1186, fI b, fI w, fI x3, fI x4, fI x5, 7] [] g Q := by
  refine fx_rg (fun hg => ?_)
  refine fx_la 0 115 (v := 1186) (by decide +kernel) rfl (by decide +kernel) ?_
  refine fx_gi 1186 148 12 118 (by decide +kernel) ?_
  refine fx_ci (-1) 119 (by decide +kernel) ?_
  refine fx_ieq 123 122 (by decide +kernel) (by first | exact hg 148 12 (by decide) (by decide +kernel) (by decide +kernel) | (unfold fR; omega)) (by unfold fR; omega) (fun h119 => ?_) (fun h119 => ?_)
  · refine fx_la 0 124 (v := 1186) (by decide +kernel) rfl (by decide +kernel) ?_
    refine fx_gp 1186 148 1 1194 127 (by decide +kernel) ?_
    refine fx_ci (3) 128 (by decide +kernel) ?_
    refine fx_al 1194 149 764 129 (by decide +kernel) rfl (by omega) (by omega) rfl ?_
    try simp only [fu_app, fcy_app, Nat.reduceEqDiff, and_true, and_false, false_and, true_and, if_true, if_false, ite_true, ite_false, reduceIte, Int.reduceToNat, fx_simp0]
    refine fx_si 6 131 (by decide +kernel) (Or.inr (fI_n4 _)) rfl ?_
    dsimp only [List.set]
    refine fx_la 0 132 (v := 1186) (by decide +kernel) rfl (by decide +kernel) ?_
    refine fx_li 6 134 (by decide +kernel) rfl ?_
    refine fx_ci (0) 135 (by decide +kernel) ?_
    refine fx_li 3 136 (by decide +kernel) rfl ?_
    refine fx_c4 287 21 139 0 [] (by decide +kernel) (by decide) (by decide) (fI_n4 _) (fI_n4 _) (fI_n4 _) rfl (by first | decide | omega) ?_
    refine sp_put hp0 hp1 (by decide) (by decide) h3 (fK0 ?_)
    refine fx_la 0 140 (v := 1186) (by decide +kernel) rfl (by decide +kernel) ?_
    refine fx_li 6 142 (by decide +kernel) rfl ?_
    refine fx_ci (1) 143 (by decide +kernel) ?_
    refine fx_li 4 145 (by decide +kernel) rfl ?_
    refine fx_c4 287 21 148 0 [] (by decide +kernel) (by decide) (by decide) (fI_n4 _) (fI_n4 _) (fI_n4 _) rfl (by first | decide | omega) ?_
    refine sp_put hp0 hp1 (by decide) (by decide) h4 (fK0 ?_)
    refine fx_la 0 149 (v := 1186) (by decide +kernel) rfl (by decide +kernel) ?_
    refine fx_li 6 151 (by decide +kernel) rfl ?_
    refine fx_ci (2) 152 (by decide +kernel) ?_
    refine fx_li 2 153 (by decide +kernel) rfl ?_
    refine fx_c4 287 21 156 0 [] (by decide +kernel) (by decide) (by decide) (fI_n4 _) (fI_n4 _) (fI_n4 _) rfl (by first | decide | omega) ?_
    refine sp_put hp0 hp1 (by decide) (by decide) hw (fK0 ?_)
    refine fx_la 0 157 (v := 1186) (by decide +kernel) rfl (by decide +kernel) ?_
    refine fx_li 6 159 (by decide +kernel) rfl ?_
    refine fx_ci (3) 160 (by decide +kernel) ?_
    refine fx_li 5 162 (by decide +kernel) rfl ?_
    refine fx_c4 287 21 165 0 [] (by decide +kernel) (by decide) (by decide) (fI_n4 _) (fI_n4 _) (fI_n4 _) rfl (by first | decide | omega) ?_
    refine sp_put hp0 hp1 (by decide) (by decide) h5 (fK0 ?_)
    refine fx_la 0 166 (v := 1186) (by decide +kernel) rfl (by decide +kernel) ?_
    refine fx_li 6 168 (by decide +kernel) rfl ?_
    refine fx_ci (4) 169 (by decide +kernel) ?_
    refine fx_ci (-1) 170 (by decide +kernel) ?_
    refine fx_c4 287 21 173 0 [] (by decide +kernel) (by decide) (by decide) (fI_n4 _) (fI_n4 _) (fI_n4 _) rfl (by first | decide | omega) ?_
    refine sp_put hp0 hp1 (by decide) (by decide) (by unfold fR; omega) (fK0 ?_)
    refine fx_la 0 174 (v := 1186) (by decide +kernel) rfl (by decide +kernel) ?_
    refine fx_li 6 176 (by decide +kernel) rfl ?_
    refine fx_ci (5) 177 (by decide +kernel) ?_
    refine fx_ci (0) 178 (by decide +kernel) ?_
    refine fx_c4 287 21 181 0 [] (by decide +kernel) (by decide) (by decide) (fI_n4 _) (fI_n4 _) (fI_n4 _) rfl (by first | decide | omega) ?_
    refine sp_put hp0 hp1 (by decide) (by decide) (by unfold fR; omega) (fK0 ?_)
    refine fx_la 0 182 (v := 1186) (by decide +kernel) rfl (by decide +kernel) ?_
    refine fx_li 6 184 (by decide +kernel) rfl ?_
    refine fx_ci (6) 186 (by decide +kernel) ?_
    refine fx_ci (0) 187 (by decide +kernel) ?_
    refine fx_c4 287 21 190 0 [] (by decide +kernel) (by decide) (by decide) (fI_n4 _) (fI_n4 _) (fI_n4 _) rfl (by first | decide | omega) ?_
    refine sp_put hp0 hp1 (by decide) (by decide) (by unfold fR; omega) (fK0 ?_)
    refine fx_la 0 191 (v := 1186) (by decide +kernel) rfl (by decide +kernel) ?_
    refine fx_gp 1186 148 1 1194 194 (by decide +kernel) ?_
    refine fx_ci (3) 195 (by decide +kernel) ?_
    refine fx_dup2 196 (by decide +kernel) rfl (fI_n4 _) (by decide) ?_
    refine fx_al 1194 149 764 197 (by decide +kernel) rfl (by omega) (by omega) rfl ?_
    try simp only [fu_app, fcy_app, Nat.reduceEqDiff, and_true, and_false, false_and, true_and, if_true, if_false, ite_true, ite_false, reduceIte, Int.reduceToNat, fx_simp0]
    rw [if_neg (by omega), if_neg (by omega), if_neg (by omega), if_neg (by omega), if_neg (by omega), if_neg (by omega), if_neg (by omega)]
    refine fx_ci (1) 198 (by decide +kernel) ?_
    refine fx_add 199 (by decide +kernel) rfl ?_
    refine fx_as 1194 149 764 200 (by decide +kernel) rfl (by omega) (by omega) rfl (by unfold fR; omega) ?_
    refine fx_vret (by decide +kernel) ?_
    exact kq
  · refine fx_vret (by decide +kernel) ?_
    exact absurd hf h119
theorem sp_pl_fC {b w x3 x4 : Int} (hf : g 148 12 ≠ -1) (kq : Q 0 0 g) : fx W r 6 285 85 [1186, fI b, fI w, fI x3, fI x4, 7, 7] [] g Q := by
  refine fx_rg (fun hg => ?_)
  refine fx_la 0 86 (v := 1186) (by decide +kernel) rfl (by decide +kernel) ?_
  refine fx_gi 1186 148 12 89 (by decide +kernel) ?_
  refine fx_ci (-1) 90 (by decide +kernel) ?_
  refine fx_ine 111 93 (by decide +kernel) (by first | exact hg 148 12 (by decide) (by decide +kernel) (by decide +kernel) | (unfold fR; omega)) (by unfold fR; omega) (fun h90 => ?_) (fun h90 => ?_)
  · refine fx_ci (4) 112 (by decide +kernel) ?_
    refine fx_si 5 114 (by decide +kernel) (Or.inr (fI_n4 _)) rfl ?_
    dsimp only [List.set]
    exact sp_pl_f hf kq
  · refine fx_la 0 94 (v := 1186) (by decide +kernel) rfl (by decide +kernel) ?_
    refine fx_lds 533 96 (by decide +kernel) ?_
    refine fx_c2 274 21 99 4 [7, 7] (by decide +kernel) (by decide) (by decide) (by decide) rfl (by first | decide | omega) ?_
    exact absurd h90 hf
theorem sp_pl_C {b w x3 x4 : Int} {f : Int} (h : RT T E g) (hf : g 148 12 = -1) (h0 : 0 ≤ g 148 11) (h4 : g 148 11 ≤ E) (hsk : pSk T E (g 148 11) = f)
    (kq : ∀ f' v, pOpt T E [108, 101, 103, 115] 3 4 (4) f = Sum.inr (f', v) → fR v → ∀ a, 0 ≤ a → a ≤ E → pSk T E a = f' → fx W r 6 285 114 [1186, fI b, fI w, fI x3, fI x4, fI v, 7] [] (fu g 148 11 a) Q)
    (kf : ∀ q, pOpt T E [108, 101, 103, 115] 3 4 (4) f = Sum.inl q → ∀ a, 0 ≤ a → a ≤ E → Q 0 0 (fu (fu g 148 11 a) 148 12 q)) : fx W r 6 285 85 [1186, fI b, fI w, fI x3, fI x4, 7, 7] [] g Q := by
  have aE := h.2.1
  have a3 := h.2.2.1
  refine fx_rg (fun hg => ?_)
  have f0 := pSk_ge T E (g 148 11)
  have f1 := pSk_le (T := T) h4
  have f2 : 0 ≤ f ∧ f ≤ E ∧ pSk T E f = f := by subst hsk; exact ⟨by omega, f1, pSk_id h4⟩
  obtain ⟨f2, f3, f4⟩ := f2
  have w0 := pWe_ge T E (f)
  have w1 := pWe_le (T := T) f3
  have s0 := pSk_ge T E (pWe T E f)
  have s1 := pSk_le (T := T) w1
  have n0 := pDg_ge T E (pSk T E (pWe T E f))
  have n1 := pDg_le (T := T) s1
  unfold pOpt at kq kf
  refine fx_la 0 86 (v := 1186) (by decide +kernel) rfl (by decide +kernel) ?_
  refine fx_gi 1186 148 12 89 (by decide +kernel) ?_
  refine fx_ci (-1) 90 (by decide +kernel) ?_
  refine fx_ine 111 93 (by decide +kernel) (by first | exact hg 148 12 (by decide) (by decide +kernel) (by decide +kernel) | (unfold fR; omega)) (by unfold fR; omega) (fun h90 => ?_) (fun h90 => ?_)
  · refine fx_ci (4) 112 (by decide +kernel) ?_
    refine fx_si 5 114 (by decide +kernel) (Or.inr (fI_n4 _)) rfl ?_
    dsimp only [List.set]
    exact absurd hf h90
  · refine fx_la 0 94 (v := 1186) (by decide +kernel) rfl (by decide +kernel) ?_
    refine fx_lds 533 96 (by decide +kernel) ?_
    refine fx_c2 274 21 99 4 [7, 7] (by decide +kernel) (by decide) (by decide) (by decide) rfl (by first | decide | omega) ?_
    refine sp_hasW [108, 101, 103, 115] (by decide +kernel) h h0 h4 hsk (fun b => fK1 ?_) (fun b => fK1 ?_)
    · refine fx_zeq 111 102 (by decide +kernel) (by unfold fR; omega) (fun hc => absurd hc (by decide)) (fun _ => ?_)
      refine fx_la 0 103 (v := 1186) (by decide +kernel) rfl (by decide +kernel) ?_
      refine fx_ci (3) 104 (by decide +kernel) ?_
      refine fx_ci (4) 105 (by decide +kernel) ?_
      refine fx_c3 275 21 108 3 [7, 7] (by decide +kernel) (by decide) (by decide) (fI_n4 _) (fI_n4 _) rfl (by first | decide | omega) ?_
      refine sp_figures (RT_fu h (by decide) (by decide)) (by rw [fu_nj (by decide)]; exact hf) (by rw [fu_eq]; omega) (by rw [fu_eq]; omega) (by unfold fR; omega) (by unfold fR; omega) (fun p => fK1 ?_) (fun p a v q1 q2 q3 => fK1 ?_)
      · rw [fu_eq] at p
        simp only [fu_eq, fu_fu]
        refine fx_go 112 (by decide +kernel) ?_
        refine fx_si 5 114 (by decide +kernel) (Or.inr (fI_n4 _)) rfl ?_
        dsimp only [List.set]
        refine kq _ _ (by rw [cif_t b, cif_t p]) ?_ _ (by omega) (by omega) rfl
        have := p.2.2
        unfold fR
        omega
      · rw [fu_eq] at p
        simp only [fu_eq, fu_fu]
        refine fx_go 112 (by decide +kernel) ?_
        refine fx_si 5 114 (by decide +kernel) (Or.inr (fI_n4 _)) rfl ?_
        dsimp only [List.set]
        exact sp_pl_f (by rw [fu_eq]; omega) (kf _ (by rw [cif_t b, cif_f p]) a q1 q2)
    · refine fx_zeq 111 102 (by decide +kernel) (by unfold fR; omega) (fun _ => ?_) (fun hc => absurd hc (by decide))
      refine fx_ci (4) 112 (by decide +kernel) ?_
      refine fx_si 5 114 (by decide +kernel) (Or.inr (fI_n4 _)) rfl ?_
      dsimp only [List.set]
      exact kq _ _ (by rw [cif_f b]) (by unfold fR; omega) _ f2 f3 f4
theorem sp_pl_fB {b w x3 : Int} (hf : g 148 12 ≠ -1) (kq : Q 0 0 g) : fx W r 6 285 55 [1186, fI b, fI w, fI x3, 7, 7, 7] [] g Q := by
  refine fx_rg (fun hg => ?_)
  refine fx_la 0 56 (v := 1186) (by decide +kernel) rfl (by decide +kernel) ?_
  refine fx_gi 1186 148 12 59 (by decide +kernel) ?_
  refine fx_ci (-1) 60 (by decide +kernel) ?_
  refine fx_ine 82 63 (by decide +kernel) (by first | exact hg 148 12 (by decide) (by decide +kernel) (by decide +kernel) | (unfold fR; omega)) (by unfold fR; omega) (fun h60 => ?_) (fun h60 => ?_)
  · refine fx_ci (1) 83 (by decide +kernel) ?_
    refine fx_si 4 85 (by decide +kernel) (Or.inr (fI_n4 _)) rfl ?_
    dsimp only [List.set]
    exact sp_pl_fC hf kq
  · refine fx_la 0 64 (v := 1186) (by decide +kernel) rfl (by decide +kernel) ?_
    refine fx_lds 485 66 (by decide +kernel) ?_
    refine fx_c2 274 21 69 4 [7, 7] (by decide +kernel) (by decide) (by decide) (by decide) rfl (by first | decide | omega) ?_
    exact absurd h60 hf
theorem sp_pl_B {b w x3 : Int} {f : Int} (h : RT T E g) (hf : g 148 12 = -1) (h0 : 0 ≤ g 148 11) (h4 : g 148 11 ≤ E) (hsk : pSk T E (g 148 11) = f)
    (kq : ∀ f' v, pOpt T E [118, 111, 116, 101] 0 20 (1) f = Sum.inr (f', v) → fR v → ∀ a, 0 ≤ a → a ≤ E → pSk T E a = f' → fx W r 6 285 85 [1186, fI b, fI w, fI x3, fI v, 7, 7] [] (fu g 148 11 a) Q)
    (kf : ∀ q, pOpt T E [118, 111, 116, 101] 0 20 (1) f = Sum.inl q → ∀ a, 0 ≤ a → a ≤ E → Q 0 0 (fu (fu g 148 11 a) 148 12 q)) : fx W r 6 285 55 [1186, fI b, fI w, fI x3, 7, 7, 7] [] g Q := by
  have aE := h.2.1
  have a3 := h.2.2.1
  refine fx_rg (fun hg => ?_)
  have f0 := pSk_ge T E (g 148 11)
  have f1 := pSk_le (T := T) h4
  have f2 : 0 ≤ f ∧ f ≤ E ∧ pSk T E f = f := by subst hsk; exact ⟨by omega, f1, pSk_id h4⟩
  obtain ⟨f2, f3, f4⟩ := f2
  have w0 := pWe_ge T E (f)
  have w1 := pWe_le (T := T) f3
  have s0 := pSk_ge T E (pWe T E f)
  have s1 := pSk_le (T := T) w1
  have n0 := pDg_ge T E (pSk T E (pWe T E f))
  have n1 := pDg_le (T := T) s1
  unfold pOpt at kq kf
  refine fx_la 0 56 (v := 1186) (by decide +kernel) rfl (by decide +kernel) ?_
  refine fx_gi 1186 148 12 59 (by decide +kernel) ?_
  refine fx_ci (-1) 60 (by decide +kernel) ?_
  refine fx_ine 82 63 (by decide +kernel) (by first | exact hg 148 12 (by decide) (by decide +kernel) (by decide +kernel) | (unfold fR; omega)) (by unfold fR; omega) (fun h60 => ?_) (fun h60 => ?_)
  · refine fx_ci (1) 83 (by decide +kernel) ?_
    refine fx_si 4 85 (by decide +kernel) (Or.inr (fI_n4 _)) rfl ?_
    dsimp only [List.set]
    exact absurd hf h60
  · refine fx_la 0 64 (v := 1186) (by decide +kernel) rfl (by decide +kernel) ?_
    refine fx_lds 485 66 (by decide +kernel) ?_
    refine fx_c2 274 21 69 4 [7, 7] (by decide +kernel) (by decide) (by decide) (by decide) rfl (by first | decide | omega) ?_
    refine sp_hasW [118, 111, 116, 101] (by decide +kernel) h h0 h4 hsk (fun b => fK1 ?_) (fun b => fK1 ?_)
    · refine fx_zeq 82 72 (by decide +kernel) (by unfold fR; omega) (fun hc => absurd hc (by decide)) (fun _ => ?_)
      refine fx_la 0 73 (v := 1186) (by decide +kernel) rfl (by decide +kernel) ?_
      refine fx_ci (0) 74 (by decide +kernel) ?_
      refine fx_ci (20) 76 (by decide +kernel) ?_
      refine fx_c3 275 21 79 3 [7, 7] (by decide +kernel) (by decide) (by decide) (fI_n4 _) (fI_n4 _) rfl (by first | decide | omega) ?_
      refine sp_figures (RT_fu h (by decide) (by decide)) (by rw [fu_nj (by decide)]; exact hf) (by rw [fu_eq]; omega) (by rw [fu_eq]; omega) (by unfold fR; omega) (by unfold fR; omega) (fun p => fK1 ?_) (fun p a v q1 q2 q3 => fK1 ?_)
      · rw [fu_eq] at p
        simp only [fu_eq, fu_fu]
        refine fx_go 83 (by decide +kernel) ?_
        refine fx_si 4 85 (by decide +kernel) (Or.inr (fI_n4 _)) rfl ?_
        dsimp only [List.set]
        refine kq _ _ (by rw [cif_t b, cif_t p]) ?_ _ (by omega) (by omega) rfl
        have := p.2.2
        unfold fR
        omega
      · rw [fu_eq] at p
        simp only [fu_eq, fu_fu]
        refine fx_go 83 (by decide +kernel) ?_
        refine fx_si 4 85 (by decide +kernel) (Or.inr (fI_n4 _)) rfl ?_
        dsimp only [List.set]
        exact sp_pl_fC (by rw [fu_eq]; omega) (kf _ (by rw [cif_t b, cif_f p]) a q1 q2)
    · refine fx_zeq 82 72 (by decide +kernel) (by unfold fR; omega) (fun _ => ?_) (fun hc => absurd hc (by decide))
      refine fx_ci (1) 83 (by decide +kernel) ?_
      refine fx_si 4 85 (by decide +kernel) (Or.inr (fI_n4 _)) rfl ?_
      dsimp only [List.set]
      exact kq _ _ (by rw [cif_f b]) (by unfold fR; omega) _ f2 f3 f4
theorem sp_pl_fA {b w : Int} (hf : g 148 12 ≠ -1) (kq : Q 0 0 g) : fx W r 6 285 26 [1186, fI b, fI w, 7, 7, 7, 7] [] g Q := by
  refine fx_rg (fun hg => ?_)
  refine fx_la 0 27 (v := 1186) (by decide +kernel) rfl (by decide +kernel) ?_
  refine fx_gi 1186 148 12 30 (by decide +kernel) ?_
  refine fx_ci (-1) 31 (by decide +kernel) ?_
  refine fx_ine 53 34 (by decide +kernel) (by first | exact hg 148 12 (by decide) (by decide +kernel) (by decide +kernel) | (unfold fR; omega)) (by unfold fR; omega) (fun h31 => ?_) (fun h31 => ?_)
  · refine fx_ci (-1) 54 (by decide +kernel) ?_
    refine fx_si 3 55 (by decide +kernel) (Or.inr (fI_n4 _)) rfl ?_
    dsimp only [List.set]
    exact sp_pl_fB hf kq
  · refine fx_la 0 35 (v := 1186) (by decide +kernel) rfl (by decide +kernel) ?_
    refine fx_lds 525 37 (by decide +kernel) ?_
    refine fx_c2 274 21 40 4 [7, 7] (by decide +kernel) (by decide) (by decide) (by decide) rfl (by first | decide | omega) ?_
    exact absurd h31 hf
theorem sp_pl_A {b w : Int} {f : Int} (h : RT T E g) (hf : g 148 12 = -1) (h0 : 0 ≤ g 148 11) (h4 : g 148 11 ≤ E) (hsk : pSk T E (g 148 11) = f)
    (kq : ∀ f' v, pOpt T E [97, 116] 0 7 (-1) f = Sum.inr (f', v) → fR v → ∀ a, 0 ≤ a → a ≤ E → pSk T E a = f' → fx W r 6 285 55 [1186, fI b, fI w, fI v, 7, 7, 7] [] (fu g 148 11 a) Q)
    (kf : ∀ q, pOpt T E [97, 116] 0 7 (-1) f = Sum.inl q → ∀ a, 0 ≤ a → a ≤ E → Q 0 0 (fu (fu g 148 11 a) 148 12 q)) : fx W r 6 285 26 [1186, fI b, fI w, 7, 7, 7, 7] [] g Q := by
  have aE := h.2.1
  have a3 := h.2.2.1
  refine fx_rg (fun hg => ?_)
  have f0 := pSk_ge T E (g 148 11)
  have f1 := pSk_le (T := T) h4
  have f2 : 0 ≤ f ∧ f ≤ E ∧ pSk T E f = f := by subst hsk; exact ⟨by omega, f1, pSk_id h4⟩
  obtain ⟨f2, f3, f4⟩ := f2
  have w0 := pWe_ge T E (f)
  have w1 := pWe_le (T := T) f3
  have s0 := pSk_ge T E (pWe T E f)
  have s1 := pSk_le (T := T) w1
  have n0 := pDg_ge T E (pSk T E (pWe T E f))
  have n1 := pDg_le (T := T) s1
  unfold pOpt at kq kf
  refine fx_la 0 27 (v := 1186) (by decide +kernel) rfl (by decide +kernel) ?_
  refine fx_gi 1186 148 12 30 (by decide +kernel) ?_
  refine fx_ci (-1) 31 (by decide +kernel) ?_
  refine fx_ine 53 34 (by decide +kernel) (by first | exact hg 148 12 (by decide) (by decide +kernel) (by decide +kernel) | (unfold fR; omega)) (by unfold fR; omega) (fun h31 => ?_) (fun h31 => ?_)
  · refine fx_ci (-1) 54 (by decide +kernel) ?_
    refine fx_si 3 55 (by decide +kernel) (Or.inr (fI_n4 _)) rfl ?_
    dsimp only [List.set]
    exact absurd hf h31
  · refine fx_la 0 35 (v := 1186) (by decide +kernel) rfl (by decide +kernel) ?_
    refine fx_lds 525 37 (by decide +kernel) ?_
    refine fx_c2 274 21 40 4 [7, 7] (by decide +kernel) (by decide) (by decide) (by decide) rfl (by first | decide | omega) ?_
    refine sp_hasW [97, 116] (by decide +kernel) h h0 h4 hsk (fun b => fK1 ?_) (fun b => fK1 ?_)
    · refine fx_zeq 53 43 (by decide +kernel) (by unfold fR; omega) (fun hc => absurd hc (by decide)) (fun _ => ?_)
      refine fx_la 0 44 (v := 1186) (by decide +kernel) rfl (by decide +kernel) ?_
      refine fx_ci (0) 45 (by decide +kernel) ?_
      refine fx_ci (7) 47 (by decide +kernel) ?_
      refine fx_c3 275 21 50 3 [7, 7] (by decide +kernel) (by decide) (by decide) (fI_n4 _) (fI_n4 _) rfl (by first | decide | omega) ?_
      refine sp_figures (RT_fu h (by decide) (by decide)) (by rw [fu_nj (by decide)]; exact hf) (by rw [fu_eq]; omega) (by rw [fu_eq]; omega) (by unfold fR; omega) (by unfold fR; omega) (fun p => fK1 ?_) (fun p a v q1 q2 q3 => fK1 ?_)
      · rw [fu_eq] at p
        simp only [fu_eq, fu_fu]
        refine fx_go 54 (by decide +kernel) ?_
        refine fx_si 3 55 (by decide +kernel) (Or.inr (fI_n4 _)) rfl ?_
        dsimp only [List.set]
        refine kq _ _ (by rw [cif_t b, cif_t p]) ?_ _ (by omega) (by omega) rfl
        have := p.2.2
        unfold fR
        omega
      · rw [fu_eq] at p
        simp only [fu_eq, fu_fu]
        refine fx_go 54 (by decide +kernel) ?_
        refine fx_si 3 55 (by decide +kernel) (Or.inr (fI_n4 _)) rfl ?_
        dsimp only [List.set]
        exact sp_pl_fB (by rw [fu_eq]; omega) (kf _ (by rw [cif_t b, cif_f p]) a q1 q2)
    · refine fx_zeq 53 43 (by decide +kernel) (by unfold fR; omega) (fun _ => ?_) (fun hc => absurd hc (by decide))
      refine fx_ci (-1) 54 (by decide +kernel) ?_
      refine fx_si 3 55 (by decide +kernel) (Or.inr (fI_n4 _)) rfl ?_
      dsimp only [List.set]
      exact kq _ _ (by rw [cif_f b]) (by unfold fR; omega) _ f2 f3 f4
end FXK
end
section
/-! fx: the lines of the house, as the reference reads them -/
theorem fop_R (o : Nat) (x y : Int) : fR (fop o x y) := by
  unfold fop fR
  have h1 := Int32.le_toInt (sx_bf o (Int32.ofInt x) (Int32.ofInt y))
  have h2 := Int32.toInt_lt (sx_bf o (Int32.ofInt x) (Int32.ofInt y))
  omega
section FXM
variable {W : ax_W} {r : Nat} {g : Nat → Nat → Int} {Q : Nat → Nat → (Nat → Nat → Int) → Prop} {T : Int → Int} {E : Int}
theorem sp_personLine {b f : Int} (h : RT T E g) (hf : g 148 12 = -1) (h0 : 0 ≤ g 148 11) (h4 : g 148 11 ≤ E) (hsk : pSk T E (g 148 11) = f) (hp0 : 0 ≤ g 149 3) (hp1 : g 149 3 ≤ 8) (hb0 : 0 ≤ b) (hb1 : b ≤ 400)
    (k8 : g 149 3 = 8 → ∀ a, 0 ≤ a → a ≤ E → Q 0 0 (fu (fu g 148 11 a) 148 12 b))
    (kq : g 149 3 ≠ 8 → ∀ f' w pl v l, pPerson T E f = Sum.inr (f', [0, w, pl, v, l]) → ∀ a, 0 ≤ a → a ≤ E → pSk T E a = f' → Q 0 0 (apP (fu g 148 11 a) w pl v l))
    (kf : g 149 3 ≠ 8 → ∀ q, pPerson T E f = Sum.inl q → ∀ a, 0 ≤ a → a ≤ E → Q 0 0 (fu (fu g 148 11 a) 148 12 q)) : fx W r 6 285 0 [1186, fI b, 7, 7, 7, 7, 7] [] g Q := by
  have aE := h.2.1
  have a3 := h.2.2.1
  refine fx_rg (fun hg => ?_)
  have f0 := pSk_ge T E (g 148 11)
  have f1 := pSk_le (T := T) h4
  have f2 : 0 ≤ f ∧ f ≤ E ∧ pSk T E f = f := by subst hsk; exact ⟨by omega, f1, pSk_id h4⟩
  obtain ⟨f2, f3, f4⟩ := f2
  have w0 := pWe_ge T E f
  have w1 := pWe_le (T := T) f3
  have s0 := pSk_ge T E (pWe T E f)
  have s1 := pSk_le (T := T) w1
  have n0 := pDg_ge T E (pSk T E (pWe T E f))
  have n1 := pDg_le (T := T) s1
  refine fx_la 0 1 (v := 1186) (by decide +kernel) rfl (by decide +kernel) ?_
  refine fx_gp 1186 148 1 1194 4 (by decide +kernel) ?_
  refine fx_ci (3) 5 (by decide +kernel) ?_
  refine fx_al 1194 149 764 6 (by decide +kernel) rfl (by omega) (by omega) rfl ?_
  try simp only [fu_app, fcy_app, Nat.reduceEqDiff, and_true, and_false, false_and, true_and, if_true, if_false, ite_true, ite_false, reduceIte, Int.reduceToNat, fx_simp0]
  refine fx_ci (8) 8 (by decide +kernel) ?_
  refine fx_ine 16 11 (by decide +kernel) (by unfold fR; omega) (by unfold fR; omega) (fun h8 => ?_) (fun h8 => ?_)
  · refine fx_la 0 17 (v := 1186) (by decide +kernel) rfl (by decide +kernel) ?_
    refine fx_lds 493 19 (by decide +kernel) ?_
    refine fx_ci (1) 20 (by decide +kernel) ?_
    refine fx_ci (99) 22 (by decide +kernel) ?_
    refine fx_c4 286 21 25 5 [] (by decide +kernel) (by decide) (by decide) (by decide) (fI_n4 _) (fI_n4 _) rfl (by first | decide | omega) ?_
    refine sp_after h (f_sw (ws := [119, 101, 105, 103, 104, 116]) (by decide +kernel)).1 hf h0 h4 (by unfold fR; omega) (by unfold fR; omega) (fun p a v q1 q2 q3 => fK1 ?_) (fun c hc p1 p2 => fK1 ?_) (fun c hc p1 p2 a v q1 q2 q3 => fK1 ?_)
    · rw [(f_sw (ws := [119, 101, 105, 103, 104, 116]) (by decide +kernel)).2, hsk] at p
      rw [hsk]
      refine fx_si 2 26 (by decide +kernel) (Or.inr (fI_n4 _)) rfl ?_
      dsimp only [List.set]
      refine sp_pl_fA (by rw [fu_eq]; omega) ?_
      exact kf h8 _ (by unfold pPerson; rw [cif_f p]) a q1 q2
    · rw [(f_sw (ws := [119, 101, 105, 103, 104, 116]) (by decide +kernel)).2, hsk] at p1
      rw [hsk] at hc
      refine fx_si 2 26 (by decide +kernel) (Or.inr (fI_n4 _)) rfl ?_
      dsimp only [List.set]
      subst hc
      have e0 : pPerson T E f = bS (pOpt T E [97, 116] 0 7 (-1) (pSk T E (pDg T E (pSk T E (pWe T E f))))) (fun a => bS (pOpt T E [118, 111, 116, 101] 0 20 1 a.1) (fun b => bS (pOpt T E [108, 101, 103, 115] 3 4 4 b.1) (fun c => Sum.inr (c.1, [0, pNu T E (pSk T E (pWe T E f)), a.2, b.2, c.2])))) := by
        unfold pPerson
        rw [cif_t p1, cif_t p2]
      have hR : ∀ a, RT T E (fu g 148 11 a) := fun a => RT_fu h (by decide) (by decide)
      have hF : ∀ a, fu g 148 11 a 148 12 = -1 := fun a => by rw [fu_nj (by decide)]; exact hf
      have hA : ∀ a, fu g 148 11 a 148 11 = a := fun a => fu_eq _ _ _ _
      have nw := p2.2.2
      refine sp_pl_A (hR _) (hF _) (by rw [hA]; omega) (by rw [hA]; omega) (by rw [hA]) (fun f3' pl o1 r1 a b1 b2 b3 => ?_) (fun q o1 a b1 b2 => ?_)
      · rw [fu_fu]
        refine sp_pl_B (f := f3') (hR _) (hF _) (by rw [hA]; omega) (by rw [hA]; omega) (by rw [hA]; exact b3) (fun f4' v o2 r2 a b1 b2 b3 => ?_) (fun q o2 a b1 b2 => ?_)
        · rw [fu_fu]
          refine sp_pl_C (f := f4') (hR _) (hF _) (by rw [hA]; omega) (by rw [hA]; omega) (by rw [hA]; exact b3) (fun f5' l o3 r3 a b1 b2 b3 => ?_) (fun q o3 a b1 b2 => ?_)
          · rw [fu_fu]
            refine sp_pl_D (hF _) (by rw [fu_nc (by decide)]; omega) (by rw [fu_nc (by decide)]; omega) (by unfold fR; omega) r1 r2 r3 ?_
            exact kq h8 f5' _ pl v l (by rw [e0, o1]; show bS (pOpt T E _ 0 20 1 f3') _ = _; rw [o2]; show bS (pOpt T E _ 3 4 4 f4') _ = _; rw [o3]; rfl) a b1 b2 b3
          · rw [fu_fu]
            exact kf h8 q (by rw [e0, o1]; show bS (pOpt T E _ 0 20 1 f3') _ = _; rw [o2]; show bS (pOpt T E _ 3 4 4 f4') _ = _; rw [o3]; rfl) a b1 b2
        · rw [fu_fu]
          exact kf h8 q (by rw [e0, o1]; show bS (pOpt T E _ 0 20 1 f3') _ = _; rw [o2]; rfl) a b1 b2
      · rw [fu_fu]
        exact kf h8 q (by rw [e0, o1]; rfl) a b1 b2
    · rw [(f_sw (ws := [119, 101, 105, 103, 104, 116]) (by decide +kernel)).2, hsk] at p1
      rw [hsk] at hc
      refine fx_si 2 26 (by decide +kernel) (Or.inr (fI_n4 _)) rfl ?_
      dsimp only [List.set]
      refine sp_pl_fA (by rw [fu_eq]; omega) ?_
      subst hc
      exact kf h8 _ (by unfold pPerson; rw [cif_t p1, cif_f p2]) a q1 q2
  · refine fx_la 0 12 (v := 1186) (by decide +kernel) rfl (by decide +kernel) ?_
    refine fx_li 1 13 (by decide +kernel) rfl ?_
    refine fx_c2 272 21 16 0 [] (by decide +kernel) (by decide) (by decide) (fI_n4 _) rfl (by first | decide | omega) ?_
    refine sp_wrong hf (by unfold fR; omega) (fK0 ?_)
    refine fx_la 0 17 (v := 1186) (by decide +kernel) rfl (by decide +kernel) ?_
    refine fx_lds 493 19 (by decide +kernel) ?_
    refine fx_ci (1) 20 (by decide +kernel) ?_
    refine fx_ci (99) 22 (by decide +kernel) ?_
    refine fx_c4 286 21 25 5 [] (by decide +kernel) (by decide) (by decide) (by decide) (fI_n4 _) (fI_n4 _) rfl (by first | decide | omega) ?_
    refine sp_after_f (f_sw (ws := [119, 101, 105, 103, 104, 116]) (by decide +kernel)).1 (by rw [fu_eq]; omega) (fK1 ?_)
    refine fx_si 2 26 (by decide +kernel) (Or.inr (fI_n4 _)) rfl ?_
    dsimp only [List.set]
    refine sp_pl_fA (by rw [fu_eq]; omega) ?_
    have k8 := k8 h8 (g 148 11) h0 h4
    rw [fu_self] at k8
    exact k8
end FXM
end
section
/-! fx: dishes, roads, promises, numbers told, as the reference reads them -/
/-- a dish's figures -/
def dshR (T : Int → Int) (f d : Int) : Nat → (Nat → Nat → Int) → Nat → Nat → Int
  | 0, g => g
  | k + 1, g => fu (dshR T f d k g) 149 (68 + 8 * d + k).toNat (T (f + k) - 48)
def apD (T : Int → Int) (f : Int) (g : Nat → Nat → Int) : Nat → Nat → Int := fu (dshR T f (g 149 4) 8 g) 149 4 (g 149 4 + 1)
theorem dshR_ne {T : Int → Int} {f d : Int} {g : Nat → Nat → Int} {c j : Nat} (hd : 0 ≤ d) (h : c ≠ 149 ∨ j < 68) : ∀ k : Nat, dshR T f d k g c j = g c j
  | 0 => rfl
  | k + 1 => by
    show fu (dshR T f d k g) 149 (68 + 8 * d + k).toNat _ c j = _
    rw [fu_ne (by omega), dshR_ne hd h k]
theorem dshR_fu {T : Int → Int} {f d z : Int} {g : Nat → Nat → Int} {c j : Nat} (h : c ≠ 149) : ∀ k : Nat, fu (dshR T f d k g) c j z = dshR T f d k (fu g c j z)
  | 0 => rfl
  | k + 1 => by
    show fu (fu (dshR T f d k g) 149 (68 + 8 * d + k).toNat _) c j z = fu (dshR T f d k (fu g c j z)) 149 (68 + 8 * d + k).toNat _
    rw [← dshR_fu h k, fu_sw _ _ _ (fun t => h t.1.symm)]
noncomputable def pDish (T : Int → Int) (E f : Int) : Int ⊕ (Int × List Int) := cif (pDg T E f - f = 8) (Sum.inr (pSk T E (f + 8), [1, f])) (Sum.inl f)
/-- two numbers, not alike -/
noncomputable def pTwo (T : Int → Int) (E hi f : Int) : Int ⊕ (Int × Int × Int) := cif (pN T E 0 hi f) (cif (pN T E 0 hi (pSk T E (pDg T E f)) ∧ pNu T E (pSk T E (pDg T E f)) ≠ pNu T E f) (Sum.inr (pSk T E (pDg T E (pSk T E (pDg T E f))), pNu T E f, pNu T E (pSk T E (pDg T E f)))) (Sum.inl (pSk T E (pDg T E f)))) (Sum.inl f)
section FXN
variable {W : ax_W} {r : Nat} {g : Nat → Nat → Int} {Q : Nat → Nat → (Nat → Nat → Int) → Prop} {T : Int → Int} {E : Int}
theorem RT_dsh {f d : Int} (hb : g 148 9 = -1) (h : RT T E g) (hd : 0 ≤ d) (k : Nat) : RT T E (dshR T f d k g) := by
  induction k with
  | zero => exact h
  | succ k ih => exact RT_m (by rw [dshR_ne hd (Or.inl (by decide))]; exact hb) ih
theorem sp_dl_1 {b f : Int} (h : RT T E g) (h0 : 0 ≤ f) (kq : fx W r 3 288 65 [1186, fI b, fI f, fI (pDg T E f - f), 7] [] g Q) :
    ∀ (n : Nat) (k : Int), (E - (f + k)).toNat = n → 0 ≤ k → f + k ≤ E → (∀ j, f ≤ j → j < f + k → isDi T j = true) → fx W r 3 288 32 [1186, fI b, fI f, fI k, 7] [] g Q
  | n, k, hn, hk, hE, hd => by
    have a1 := h.1
    have aE := h.2.1
    have a3 := h.2.2.1
    refine fx_rg (fun hg => ?_)
    refine fx_li 2 33 (by decide +kernel) rfl ?_
    refine fx_li 3 34 (by decide +kernel) rfl ?_
    refine fx_add 35 (by decide +kernel) rfl ?_
    refine fx_la 0 36 (v := 1186) (by decide +kernel) rfl (by decide +kernel) ?_
    refine fx_gi 1186 148 10 39 (by decide +kernel) ?_
    refine fx_ige 65 42 (by decide +kernel) (by unfold fR; omega) (by first | exact hg 148 10 (by decide) (by decide +kernel) (by decide +kernel) | (unfold fR; omega)) (fun h39 => ?_) (fun h39 => ?_)
    · have e : pDg T E f = f + k := prun_char (by omega) hE hd (by
        first
          | exact Or.inl (by omega)
          | exact Or.inr (by unfold isDi; exact decide_eq_false b53))
      rw [e, show f + k - f = k by omega] at kq
      exact kq
    · have tv := RT_t h (k := f + k) (by omega) (by omega)
      refine fx_la 0 43 (v := 1186) (by decide +kernel) rfl (by decide +kernel) ?_
      refine fx_li 2 44 (by decide +kernel) rfl ?_
      refine fx_li 3 45 (by decide +kernel) rfl ?_
      refine fx_add 46 (by decide +kernel) rfl ?_
      refine fx_c2 271 21 49 0 [] (by decide +kernel) (by decide) (by decide) (fI_n4 _) rfl (by first | decide | omega) ?_
      refine sp_letterT h (by omega) (by omega) (fK1 ?_)
      refine fx_ci (48) 51 (by decide +kernel) ?_
      refine fx_ci (57) 53 (by decide +kernel) ?_
      refine fx_c3 265 22 56 0 [] (f_q22 (by decide +kernel)) (by decide) (fI_n4 _) (fI_n4 _) (fI_n4 _) rfl (by first | decide | omega) ?_
      refine sp_isIn (by unfold fR; omega) (by unfold fR; omega) (by unfold fR; omega) (fun b53 => fK1 ?_) (fun b53 => fK1 ?_)
      · refine fx_zeq 65 59 (by decide +kernel) (by unfold fR; omega) (fun hc => absurd hc (by decide)) (fun _ => ?_)
        refine fx_inc 3 62 (1) (by decide +kernel) rfl (Or.inr (fI_n4 _)) rfl ?_
        dsimp only [List.set]
        refine fx_go 32 (by decide +kernel) ?_
        match n, hn with
        | 0, hn => exfalso; omega
        | n + 1, hn =>
          refine sp_dl_1 h h0 kq n (k + 1) (by omega) (by omega) (by omega) (fun j j1 j2 => ?_)
          by_cases e : j = f + k
          · rw [e]; unfold isDi; exact decide_eq_true b53
          · exact hd j j1 (by omega)
      · refine fx_zeq 65 59 (by decide +kernel) (by unfold fR; omega) (fun _ => ?_) (fun hc => absurd hc (by decide))
        have e : pDg T E f = f + k := prun_char (by omega) hE hd (by
          first
            | exact Or.inl (by omega)
            | exact Or.inr (by unfold isDi; exact decide_eq_false b53))
        rw [e, show f + k - f = k by omega] at kq
        exact kq
theorem sp_dl_2 {b f : Int} (hb : g 148 9 = -1) (h : RT T E g) (h0 : 0 ≤ f) (hE : f + 8 ≤ E) (hd0 : 0 ≤ g 149 4) (hd1 : g 149 4 ≤ 5) (kq : fx W r 3 288 132 [1186, fI b, fI f, fI 8, fI 8] [] (dshR T f (g 149 4) 8 g) Q) :
    ∀ (n k : Nat), k + n = 8 → fx W r 3 288 88 [1186, fI b, fI f, fI 8, fI (k : Int)] [] (dshR T f (g 149 4) k g) Q
  | n, k, hn => by
    have aE := h.2.1
    have a3 := h.2.2.1
    have h' := RT_dsh (f := f) hb h hd0 k
    have e4 : dshR T f (g 149 4) k g 149 4 = g 149 4 := dshR_ne hd0 (Or.inr (by decide)) k
    refine fx_li 4 90 (by decide +kernel) rfl ?_
    refine fx_ci (8) 92 (by decide +kernel) ?_
    refine fx_ige 132 95 (by decide +kernel) (by unfold fR; omega) (by unfold fR; omega) (fun h92 => ?_) (fun h92 => ?_)
    · have e : k = 8 := by omega
      subst e
      exact kq
    · refine fx_la 0 96 (v := 1186) (by decide +kernel) rfl (by decide +kernel) ?_
      refine fx_gp 1186 148 1 1194 99 (by decide +kernel) ?_
      refine fx_ci (68) 101 (by decide +kernel) ?_
      refine fx_ci (8) 103 (by decide +kernel) ?_
      refine fx_la 0 104 (v := 1186) (by decide +kernel) rfl (by decide +kernel) ?_
      refine fx_gp 1186 148 1 1194 107 (by decide +kernel) ?_
      refine fx_ci (4) 108 (by decide +kernel) ?_
      refine fx_al 1194 149 764 109 (by decide +kernel) rfl (by omega) (by omega) rfl ?_
      try simp only [fu_app, fcy_app, Nat.reduceEqDiff, and_true, and_false, false_and, true_and, if_true, if_false, ite_true, ite_false, reduceIte, Int.reduceToNat, fx_simp0]
      rw [e4]
      refine fx_mul 110 (by decide +kernel) rfl ?_
      refine fx_add 111 (by decide +kernel) rfl ?_
      refine fx_li 4 113 (by decide +kernel) rfl ?_
      refine fx_add 114 (by decide +kernel) rfl ?_
      have tv := RT_t h (k := f + k) (by omega) (by omega)
      refine fx_la 0 115 (v := 1186) (by decide +kernel) rfl (by decide +kernel) ?_
      refine fx_li 2 116 (by decide +kernel) rfl ?_
      refine fx_li 4 118 (by decide +kernel) rfl ?_
      refine fx_add 119 (by decide +kernel) rfl ?_
      refine fx_c2 271 21 122 0 [] (by decide +kernel) (by decide) (by decide) (fI_n4 _) rfl (by first | decide | omega) ?_
      refine sp_letterT h' (by omega) (by omega) (fK1 ?_)
      refine fx_ci (48) 124 (by decide +kernel) ?_
      refine fx_sub 125 (by decide +kernel) rfl ?_
      refine fx_as 1194 149 764 126 (by decide +kernel) rfl (by omega) (by omega) rfl (by unfold fR; omega) ?_
      refine fx_inc 4 129 (1) (by decide +kernel) rfl (Or.inr (fI_n4 _)) rfl ?_
      dsimp only [List.set]
      refine fx_go 88 (by decide +kernel) ?_
      match n, hn with
      | 0, hn => exfalso; omega
      | n + 1, hn => exact sp_dl_2 hb h h0 hE hd0 hd1 kq n (k + 1) (by omega)
theorem sp_dishLine {b f : Int} (hb : g 148 9 = -1) (h : RT T E g) (hf : g 148 12 = -1) (h0 : 0 ≤ g 148 11) (h4 : g 148 11 ≤ E) (hsk : pSk T E (g 148 11) = f) (hp0 : 0 ≤ g 149 4) (hp1 : g 149 4 ≤ 6) (hb0 : 0 ≤ b) (hb1 : b ≤ 400)
    (k8 : g 149 4 = 6 → ∀ a, 0 ≤ a → a ≤ E → Q 0 0 (fu (fu g 148 11 a) 148 12 b))
    (kq : g 149 4 ≠ 6 → ∀ f', pDish T E f = Sum.inr (f', [1, f]) → ∀ a, 0 ≤ a → a ≤ E → pSk T E a = f' → Q 0 0 (apD T f (fu g 148 11 a)))
    (kf : g 149 4 ≠ 6 → ∀ q, pDish T E f = Sum.inl q → ∀ a, 0 ≤ a → a ≤ E → Q 0 0 (fu (fu g 148 11 a) 148 12 q)) : fx W r 3 288 0 [1186, fI b, 7, 7, 7] [] g Q := by
  have aE := h.2.1
  have a3 := h.2.2.1
  refine fx_rg (fun hg => ?_)
  have f0 := pSk_ge T E (g 148 11)
  have f1 := pSk_le (T := T) h4
  have f2 : 0 ≤ f ∧ f ≤ E ∧ pSk T E f = f := by subst hsk; exact ⟨by omega, f1, pSk_id h4⟩
  obtain ⟨f2, f3, f4⟩ := f2
  have d0 := pDg_ge T E f
  have d1 := pDg_le (T := T) f3
  refine fx_la 0 1 (v := 1186) (by decide +kernel) rfl (by decide +kernel) ?_
  refine fx_gp 1186 148 1 1194 4 (by decide +kernel) ?_
  refine fx_ci (4) 5 (by decide +kernel) ?_
  refine fx_al 1194 149 764 6 (by decide +kernel) rfl (by omega) (by omega) rfl ?_
  try simp only [fu_app, fcy_app, Nat.reduceEqDiff, and_true, and_false, false_and, true_and, if_true, if_false, ite_true, ite_false, reduceIte, Int.reduceToNat, fx_simp0]
  refine fx_ci (6) 8 (by decide +kernel) ?_
  refine fx_ine 16 11 (by decide +kernel) (by unfold fR; omega) (by unfold fR; omega) (fun h8 => ?_) (fun h8 => ?_)
  · refine fx_la 0 17 (v := 1186) (by decide +kernel) rfl (by decide +kernel) ?_
    refine fx_gi 1186 148 12 20 (by decide +kernel) ?_
    refine fx_ci (-1) 21 (by decide +kernel) ?_
    refine fx_ieq 25 24 (by decide +kernel) (by first | exact hg 148 12 (by decide) (by decide +kernel) (by decide +kernel) | (unfold fR; omega)) (by unfold fR; omega) (fun h21 => ?_) (fun h21 => ?_)
    · have h25 := h8
      refine fx_la 0 26 (v := 1186) (by decide +kernel) rfl (by decide +kernel) ?_
      refine fx_c1 276 21 29 2 [] (by decide +kernel) (by decide) rfl (by first | decide | omega) ?_
      refine sp_here h h0 (fK1 ?_)
      rw [hsk]
      refine fx_si 2 30 (by decide +kernel) (Or.inr (fI_n4 _)) rfl ?_
      dsimp only [List.set]
      refine fx_ci (0) 31 (by decide +kernel) ?_
      refine fx_si 3 32 (by decide +kernel) (Or.inr (fI_n4 _)) rfl ?_
      dsimp only [List.set]
      have hR : ∀ a, RT T E (fu g 148 11 a) := fun a => RT_fu h (by decide) (by decide)
      refine sp_dl_1 (hR _) f2 ?_ _ 0 rfl (Int.le_refl 0) (by omega) (fun j j1 j2 => by omega)
      refine fx_li 3 66 (by decide +kernel) rfl ?_
      refine fx_ci (8) 68 (by decide +kernel) ?_
      refine fx_ieq 76 71 (by decide +kernel) (by unfold fR; omega) (by unfold fR; omega) (fun h68 => ?_) (fun h68 => ?_)
      · refine fx_la 0 77 (v := 1186) (by decide +kernel) rfl (by decide +kernel) ?_
        refine fx_gi 1186 148 12 80 (by decide +kernel) ?_
        try simp only [fu_app, fcy_app, Nat.reduceEqDiff, and_true, and_false, false_and, true_and, if_true, if_false, ite_true, ite_false, reduceIte, Int.reduceToNat, fx_simp0]
        refine fx_ci (-1) 81 (by decide +kernel) ?_
        refine fx_ieq 85 84 (by decide +kernel) (by unfold fR; omega) (by unfold fR; omega) (fun h81 => ?_) (fun h81 => ?_)
        · refine fx_ci (0) 86 (by decide +kernel) ?_
          refine fx_si 4 88 (by decide +kernel) (Or.inr (fI_n4 _)) rfl ?_
          dsimp only [List.set]
          rw [h68]
          refine sp_dl_2 (g := fu g 148 11 f) (by rw [fu_nj (by decide)]; exact hb) (hR _) f2 (by omega) (by rw [fu_nc (by decide)]; omega) (by rw [fu_nc (by decide)]; omega) ?_ 8 0 rfl
          rw [fu_nc (by decide)]
          have e4 : ∀ z, fu (dshR T f (g 149 4) 8 (fu g 148 11 f)) 148 11 z 149 4 = g 149 4 := fun z => by rw [fu_nc (by decide), dshR_ne hp0 (Or.inr (by decide)), fu_nc (by decide)]
          refine fx_la 0 133 (v := 1186) (by decide +kernel) rfl (by decide +kernel) ?_
          refine fx_li 2 134 (by decide +kernel) rfl ?_
          refine fx_li 3 135 (by decide +kernel) rfl ?_
          refine fx_add 136 (by decide +kernel) rfl ?_
          refine fx_pi 1186 148 11 139 (by decide +kernel) (by unfold fR; omega) ?_
          refine fx_la 0 140 (v := 1186) (by decide +kernel) rfl (by decide +kernel) ?_
          refine fx_gp 1186 148 1 1194 143 (by decide +kernel) ?_
          refine fx_ci (4) 144 (by decide +kernel) ?_
          refine fx_dup2 145 (by decide +kernel) rfl (fI_n4 _) (by decide) ?_
          refine fx_al 1194 149 764 146 (by decide +kernel) rfl (by omega) (by omega) rfl ?_
          try simp only [fu_app, fcy_app, Nat.reduceEqDiff, and_true, and_false, false_and, true_and, if_true, if_false, ite_true, ite_false, reduceIte, Int.reduceToNat, fx_simp0]
          rw [dshR_ne hp0 (Or.inr (by decide)), fu_nc (by decide)]
          refine fx_ci (1) 147 (by decide +kernel) ?_
          refine fx_add 148 (by decide +kernel) rfl ?_
          refine fx_as 1194 149 764 149 (by decide +kernel) rfl (by omega) (by omega) rfl (by unfold fR; omega) ?_
          refine fx_vret (by decide +kernel) ?_
          have kq := kq h8 (pSk T E (f + 8)) (by unfold pDish; rw [cif_t h68]) (f + 8) (by omega) (by omega) rfl
          unfold apD at kq
          rw [fu_nc (by decide)] at kq
          rw [dshR_fu (by decide), fu_fu, show (4 : Int).toNat = 4 from rfl]
          exact kq
        · refine fx_vret (by decide +kernel) ?_
          exact absurd hf h81
      · refine fx_la 0 72 (v := 1186) (by decide +kernel) rfl (by decide +kernel) ?_
        refine fx_li 2 73 (by decide +kernel) rfl ?_
        refine fx_c2 272 21 76 0 [] (by decide +kernel) (by decide) (by decide) (fI_n4 _) rfl (by first | decide | omega) ?_
        refine sp_wrong (by rw [fu_nj (by decide)]; exact hf) (by unfold fR; omega) (fK0 ?_)
        refine fx_la 0 77 (v := 1186) (by decide +kernel) rfl (by decide +kernel) ?_
        refine fx_gi 1186 148 12 80 (by decide +kernel) ?_
        try simp only [fu_app, fcy_app, Nat.reduceEqDiff, and_true, and_false, false_and, true_and, if_true, if_false, ite_true, ite_false, reduceIte, Int.reduceToNat, fx_simp0]
        refine fx_ci (-1) 81 (by decide +kernel) ?_
        refine fx_ieq 85 84 (by decide +kernel) (by unfold fR; omega) (by unfold fR; omega) (fun h81 => ?_) (fun h81 => ?_)
        · exfalso; omega
        · refine fx_vret (by decide +kernel) ?_
          exact kf h8 _ (by unfold pDish; rw [cif_f h68]) f f2 f3
    · refine fx_vret (by decide +kernel) ?_
      exact absurd hf h21
  · refine fx_la 0 12 (v := 1186) (by decide +kernel) rfl (by decide +kernel) ?_
    refine fx_li 1 13 (by decide +kernel) rfl ?_
    refine fx_c2 272 21 16 0 [] (by decide +kernel) (by decide) (by decide) (fI_n4 _) rfl (by first | decide | omega) ?_
    refine sp_wrong hf (by unfold fR; omega) (fK0 ?_)
    refine fx_la 0 17 (v := 1186) (by decide +kernel) rfl (by decide +kernel) ?_
    refine fx_gi 1186 148 12 20 (by decide +kernel) ?_
    try simp only [fu_app, fcy_app, Nat.reduceEqDiff, and_true, and_false, false_and, true_and, if_true, if_false, ite_true, ite_false, reduceIte, Int.reduceToNat, fx_simp0]
    refine fx_ci (-1) 21 (by decide +kernel) ?_
    refine fx_ieq 25 24 (by decide +kernel) (by unfold fR; omega) (by unfold fR; omega) (fun h21 => ?_) (fun h21 => ?_)
    · exfalso; omega
    · refine fx_vret (by decide +kernel) ?_
      have k8 := k8 h8 (g 148 11) h0 h4
      rw [fu_self] at k8
      exact k8
theorem sp_another_f {one bd : Int} (h : RT T E g) (hf : g 148 12 ≠ -1) (h0 : 0 ≤ g 148 11) (h4 : g 148 11 ≤ E) (kq : ∀ a, 0 ≤ a → a ≤ E → Q 1 (fI 0) (fu g 148 11 a)) : fx W r 4 290 0 [1186, fI one, fI bd, 7, 7] [] g Q := by
  refine fx_rg (fun hg => ?_)
  have f0 := pSk_ge T E (g 148 11)
  have f1 := pSk_le (T := T) h4
  have hgf := hg 148 12 (by decide) (by decide +kernel) (by decide +kernel)
  unfold fR at hgf
  refine fx_la 0 1 (v := 1186) (by decide +kernel) rfl (by decide +kernel) ?_
  refine fx_c1 276 21 4 2 [] (by decide +kernel) (by decide) rfl (by first | decide | omega) ?_
  refine sp_here h h0 (fK1 ?_)
  refine fx_si 3 5 (by decide +kernel) (Or.inr (fI_n4 _)) rfl ?_
  dsimp only [List.set]
  refine fx_la 0 6 (v := 1186) (by decide +kernel) rfl (by decide +kernel) ?_
  refine fx_ci (0) 7 (by decide +kernel) ?_
  refine fx_li 2 8 (by decide +kernel) rfl ?_
  refine fx_ci (1) 9 (by decide +kernel) ?_
  refine fx_sub 10 (by decide +kernel) rfl ?_
  refine fx_c3 275 21 13 3 [7, 7] (by decide +kernel) (by decide) (by decide) (fI_n4 _) (fI_n4 _) rfl (by first | decide | omega) ?_
  refine sp_figures_f (by rw [fu_nj (by decide)]; exact hf) (fK1 ?_)
  refine fx_si 4 15 (by decide +kernel) (Or.inr (fI_n4 _)) rfl ?_
  dsimp only [List.set]
  refine fx_la 0 16 (v := 1186) (by decide +kernel) rfl (by decide +kernel) ?_
  refine fx_gi 1186 148 12 19 (by decide +kernel) ?_
  try simp only [fu_app, fcy_app, Nat.reduceEqDiff, and_true, and_false, false_and, true_and, if_true, if_false, ite_true, ite_false, reduceIte, Int.reduceToNat, fx_simp0]
  refine fx_ci (-1) 20 (by decide +kernel) ?_
  refine fx_ine 34 23 (by decide +kernel) (by unfold fR; omega) (by unfold fR; omega) (fun h20 => ?_) (fun h20 => ?_)
  · refine fx_li 4 36 (by decide +kernel) rfl ?_
    refine fx_ret (by decide +kernel) ?_
    exact kq _ (by omega) f1
  · exact absurd h20 hf
theorem sp_another {one bd f : Int} (h : RT T E g) (hf : g 148 12 = -1) (h0 : 0 ≤ g 148 11) (h4 : g 148 11 ≤ E) (hsk : pSk T E (g 148 11) = f) (h1 : fR one) (hb0 : 0 ≤ bd) (hb1 : bd ≤ 100)
    (k1 : pN T E 0 (bd - 1) f → pNu T E f ≠ one → Q 1 (fI (pNu T E f)) (fu g 148 11 (pDg T E f)))
    (k2 : ¬ (pN T E 0 (bd - 1) f ∧ pNu T E f ≠ one) → ∀ a v, 0 ≤ a → a ≤ E → fR v → Q 1 (fI v) (fu (fu g 148 11 a) 148 12 f)) : fx W r 4 290 0 [1186, fI one, fI bd, 7, 7] [] g Q := by
  have aE := h.2.1
  have a3 := h.2.2.1
  refine fx_rg (fun hg => ?_)
  have f0 := pSk_ge T E (g 148 11)
  have f1 := pSk_le (T := T) h4
  have f2 : 0 ≤ f ∧ f ≤ E ∧ pSk T E f = f := by subst hsk; exact ⟨by omega, f1, pSk_id h4⟩
  obtain ⟨f2, f3, f4⟩ := f2
  have d0 := pDg_ge T E f
  have d1 := pDg_le (T := T) f3
  unfold fR at h1
  refine fx_la 0 1 (v := 1186) (by decide +kernel) rfl (by decide +kernel) ?_
  refine fx_c1 276 21 4 2 [] (by decide +kernel) (by decide) rfl (by first | decide | omega) ?_
  refine sp_here h h0 (fK1 ?_)
  rw [hsk]
  refine fx_si 3 5 (by decide +kernel) (Or.inr (fI_n4 _)) rfl ?_
  dsimp only [List.set]
  refine fx_la 0 6 (v := 1186) (by decide +kernel) rfl (by decide +kernel) ?_
  refine fx_ci (0) 7 (by decide +kernel) ?_
  refine fx_li 2 8 (by decide +kernel) rfl ?_
  refine fx_ci (1) 9 (by decide +kernel) ?_
  refine fx_sub 10 (by decide +kernel) rfl ?_
  refine fx_c3 275 21 13 3 [7, 7] (by decide +kernel) (by decide) (by decide) (fI_n4 _) (fI_n4 _) rfl (by first | decide | omega) ?_
  refine sp_figures (RT_fu h (by decide) (by decide)) (by rw [fu_nj (by decide)]; exact hf) (by rw [fu_eq]; omega) (by rw [fu_eq]; omega) (by unfold fR; omega) (by unfold fR; omega) (fun p => fK1 ?_) (fun p a v q1 q2 q3 => fK1 ?_)
  · rw [fu_eq, f4] at p
    simp only [fu_eq, fu_fu, f4]
    have pn := p.2.2
    refine fx_si 4 15 (by decide +kernel) (Or.inr (fI_n4 _)) rfl ?_
    dsimp only [List.set]
    refine fx_la 0 16 (v := 1186) (by decide +kernel) rfl (by decide +kernel) ?_
    refine fx_gi 1186 148 12 19 (by decide +kernel) ?_
    try simp only [fu_app, fcy_app, Nat.reduceEqDiff, and_true, and_false, false_and, true_and, if_true, if_false, ite_true, ite_false, reduceIte, Int.reduceToNat, fx_simp0]
    refine fx_ci (-1) 20 (by decide +kernel) ?_
    rw [hf]
    refine fx_ine 34 23 (by decide +kernel) (by unfold fR; omega) (by unfold fR; omega) (fun h20 => ?_) (fun h20 => ?_)
    · refine fx_li 4 36 (by decide +kernel) rfl ?_
      refine fx_ret (by decide +kernel) ?_
      exact absurd rfl h20
    · refine fx_li 4 25 (by decide +kernel) rfl ?_
      refine fx_li 1 26 (by decide +kernel) rfl ?_
      refine fx_ine 34 29 (by decide +kernel) (by unfold fR; omega) (by unfold fR; omega) (fun h26 => ?_) (fun h26 => ?_)
      · refine fx_li 4 36 (by decide +kernel) rfl ?_
        refine fx_ret (by decide +kernel) ?_
        exact k1 p h26
      · refine fx_la 0 30 (v := 1186) (by decide +kernel) rfl (by decide +kernel) ?_
        refine fx_li 3 31 (by decide +kernel) rfl ?_
        refine fx_c2 272 21 34 0 [] (by decide +kernel) (by decide) (by decide) (fI_n4 _) rfl (by first | decide | omega) ?_
        refine sp_wrong (by rw [fu_nj (by decide)]; exact hf) (by unfold fR; omega) (fK0 ?_)
        refine fx_li 4 36 (by decide +kernel) rfl ?_
        refine fx_ret (by decide +kernel) ?_
        exact k2 (fun t => t.2 h26) _ _ (by omega) d1 (by unfold fR; omega)
  · rw [fu_eq, f4] at p
    simp only [fu_eq, fu_fu, f4]
    unfold fR at q3
    refine fx_si 4 15 (by decide +kernel) (Or.inr (fI_n4 _)) rfl ?_
    dsimp only [List.set]
    refine fx_la 0 16 (v := 1186) (by decide +kernel) rfl (by decide +kernel) ?_
    refine fx_gi 1186 148 12 19 (by decide +kernel) ?_
    try simp only [fu_app, fcy_app, Nat.reduceEqDiff, and_true, and_false, false_and, true_and, if_true, if_false, ite_true, ite_false, reduceIte, Int.reduceToNat, fx_simp0]
    refine fx_ci (-1) 20 (by decide +kernel) ?_
    refine fx_ine 34 23 (by decide +kernel) (by unfold fR; omega) (by unfold fR; omega) (fun h20 => ?_) (fun h20 => ?_)
    · refine fx_li 4 36 (by decide +kernel) rfl ?_
      refine fx_ret (by decide +kernel) ?_
      exact k2 (fun t => p t.1) a v q1 q2 (by unfold fR; omega)
    · exfalso; omega
/-- what a road's line does -/
noncomputable def apR (one other : Int) (g : Nat → Nat → Int) : Nat → Nat → Int := fu (fu g 149 (116 + one).toNat (fop 4 (g 149 (116 + one).toNat) (fop 6 1 other))) 149 (116 + other).toNat (fop 4 (fu g 149 (116 + one).toNat (fop 4 (g 149 (116 + one).toNat) (fop 6 1 other)) 149 (116 + other).toNat) (fop 6 1 one))
theorem sp_roadLine {f : Int} (h : RT T E g) (hf : g 148 12 = -1) (h0 : 0 ≤ g 148 11) (h4 : g 148 11 ≤ E) (hsk : pSk T E (g 148 11) = f)
    (kq : ∀ f' x y, pTwo T E 7 f = Sum.inr (f', x, y) → 0 ≤ x → x ≤ 7 → 0 ≤ y → y ≤ 7 → ∀ a, 0 ≤ a → a ≤ E → pSk T E a = f' → Q 0 0 (apR x y (fu g 148 11 a)))
    (kf : ∀ q, pTwo T E 7 f = Sum.inl q → ∀ a, 0 ≤ a → a ≤ E → Q 0 0 (fu (fu g 148 11 a) 148 12 q)) : fx W r 5 289 0 [1186, 7, 7] [] g Q := by
  have aE := h.2.1
  have a3 := h.2.2.1
  refine fx_rg (fun hg => ?_)
  have f0 := pSk_ge T E (g 148 11)
  have f1 := pSk_le (T := T) h4
  have f2 : 0 ≤ f ∧ f ≤ E ∧ pSk T E f = f := by subst hsk; exact ⟨by omega, f1, pSk_id h4⟩
  obtain ⟨f2, f3, f4⟩ := f2
  have d0 := pDg_ge T E f
  have d1 := pDg_le (T := T) f3
  have s0 := pSk_ge T E (pDg T E f)
  have s1 := pSk_le (T := T) d1
  have d2 := pDg_ge T E (pSk T E (pDg T E f))
  have d3 := pDg_le (T := T) s1
  have hgf := hg 148 12 (by decide) (by decide +kernel) (by decide +kernel)
  unfold pTwo at kq kf
  refine fx_la 0 1 (v := 1186) (by decide +kernel) rfl (by decide +kernel) ?_
  refine fx_ci (0) 2 (by decide +kernel) ?_
  refine fx_ci (7) 4 (by decide +kernel) ?_
  refine fx_c3 275 21 7 3 [7, 7] (by decide +kernel) (by decide) (by decide) (fI_n4 _) (fI_n4 _) rfl (by first | decide | omega) ?_
  refine sp_figures h hf h0 h4 (by unfold fR; omega) (by unfold fR; omega) (fun p => fK1 ?_) (fun p a v q1 q2 q3 => fK1 ?_)
  · rw [hsk] at p
    simp only [hsk]
    have pn := p.2.2
    refine fx_si 1 8 (by decide +kernel) (Or.inr (f_n4p (v := 1186) rfl (by decide))) rfl ?_
    dsimp only [List.set]
    refine fx_la 0 9 (v := 1186) (by decide +kernel) rfl (by decide +kernel) ?_
    refine fx_li 1 10 (by decide +kernel) rfl ?_
    refine fx_ci (8) 12 (by decide +kernel) ?_
    refine fx_c3 290 21 15 4 [7, 7] (by decide +kernel) (by decide) (by decide) (fI_n4 _) (fI_n4 _) rfl (by first | decide | omega) ?_
    refine sp_another (f := pSk T E (pDg T E f)) (RT_fu h (by decide) (by decide)) (by rw [fu_nj (by decide)]; exact hf) (by rw [fu_eq]; omega) (by rw [fu_eq]; omega) (by rw [fu_eq]) (by unfold fR; omega) (by decide) (by decide) (fun p1 p2 => fK1 ?_) (fun p1 a v q1 q2 q3 => fK1 ?_)
    · rw [fu_fu]
      have pm : _ ≤ pNu T E (pSk T E (pDg T E f)) ∧ pNu T E (pSk T E (pDg T E f)) ≤ _ := p1.2.2
      refine fx_si 2 16 (by decide +kernel) (Or.inr (fI_n4 _)) rfl ?_
      dsimp only [List.set]
      refine fx_la 0 17 (v := 1186) (by decide +kernel) rfl (by decide +kernel) ?_
      refine fx_gi 1186 148 12 20 (by decide +kernel) ?_
      try simp only [fu_app, fcy_app, Nat.reduceEqDiff, and_true, and_false, false_and, true_and, if_true, if_false, ite_true, ite_false, reduceIte, Int.reduceToNat, fx_simp0]
      refine fx_ci (-1) 21 (by decide +kernel) ?_
      refine fx_ieq 25 24 (by decide +kernel) (by unfold fR; omega) (by unfold fR; omega) (fun h21 => ?_) (fun h21 => ?_)
      · refine fx_la 0 26 (v := 1186) (by decide +kernel) rfl (by decide +kernel) ?_
        refine fx_gp 1186 148 1 1194 29 (by decide +kernel) ?_
        refine fx_ci (116) 31 (by decide +kernel) ?_
        refine fx_li 1 32 (by decide +kernel) rfl ?_
        refine fx_add 33 (by decide +kernel) rfl ?_
        refine fx_dup2 34 (by decide +kernel) rfl (fI_n4 _) (by decide) ?_
        refine fx_al 1194 149 764 35 (by decide +kernel) rfl (by omega) (by omega) rfl ?_
        try simp only [fu_app, fcy_app, Nat.reduceEqDiff, and_true, and_false, false_and, true_and, if_true, if_false, ite_true, ite_false, reduceIte, Int.reduceToNat, fx_simp0]
        refine fx_ci (1) 36 (by decide +kernel) ?_
        refine fx_li 2 37 (by decide +kernel) rfl ?_
        refine fx_bin 6 38 (by decide +kernel) rfl (fun h => absurd h (by decide)) ?_
        refine fx_bin 4 39 (by decide +kernel) rfl (fun h => absurd h (by decide)) ?_
        refine fx_as 1194 149 764 40 (by decide +kernel) rfl (by omega) (by omega) rfl (by first | exact fop_R _ _ _ | (unfold fR; omega)) ?_
        refine fx_la 0 41 (v := 1186) (by decide +kernel) rfl (by decide +kernel) ?_
        refine fx_gp 1186 148 1 1194 44 (by decide +kernel) ?_
        refine fx_ci (116) 46 (by decide +kernel) ?_
        refine fx_li 2 47 (by decide +kernel) rfl ?_
        refine fx_add 48 (by decide +kernel) rfl ?_
        refine fx_dup2 49 (by decide +kernel) rfl (fI_n4 _) (by decide) ?_
        refine fx_al 1194 149 764 50 (by decide +kernel) rfl (by omega) (by omega) rfl ?_
        try simp only [fu_app, fcy_app, Nat.reduceEqDiff, and_true, and_false, false_and, true_and, if_true, if_false, ite_true, ite_false, reduceIte, Int.reduceToNat, fx_simp0]
        refine fx_ci (1) 51 (by decide +kernel) ?_
        refine fx_li 1 52 (by decide +kernel) rfl ?_
        refine fx_bin 6 53 (by decide +kernel) rfl (fun h => absurd h (by decide)) ?_
        refine fx_bin 4 54 (by decide +kernel) rfl (fun h => absurd h (by decide)) ?_
        refine fx_as 1194 149 764 55 (by decide +kernel) rfl (by omega) (by omega) rfl (by first | exact fop_R _ _ _ | (unfold fR; omega)) ?_
        refine fx_vret (by decide +kernel) ?_
        have := kq _ _ _ (by rw [cif_t p]; exact cif_t ⟨p1, p2⟩) pn.1 pn.2 pm.1 pm.2 _ (by omega) (by omega) rfl
        unfold apR at this
        simp only [fu_app, Nat.reduceEqDiff, and_true, and_false, false_and, true_and, if_true, if_false, ite_true, ite_false, reduceIte] at this
        exact this
      · refine fx_vret (by decide +kernel) ?_
        exact absurd hf h21
    · rw [fu_fu]
      refine fx_si 2 16 (by decide +kernel) (Or.inr (fI_n4 _)) rfl ?_
      dsimp only [List.set]
      refine fx_la 0 17 (v := 1186) (by decide +kernel) rfl (by decide +kernel) ?_
      refine fx_gi 1186 148 12 20 (by decide +kernel) ?_
      try simp only [fu_app, fcy_app, Nat.reduceEqDiff, and_true, and_false, false_and, true_and, if_true, if_false, ite_true, ite_false, reduceIte, Int.reduceToNat, fx_simp0]
      refine fx_ci (-1) 21 (by decide +kernel) ?_
      refine fx_ieq 25 24 (by decide +kernel) (by unfold fR; omega) (by unfold fR; omega) (fun h21 => ?_) (fun h21 => ?_)
      · exfalso; omega
      · refine fx_vret (by decide +kernel) ?_
        exact kf _ (by rw [cif_t p]; exact cif_f p1) a q1 q2
  · rw [hsk] at p
    simp only [hsk]
    refine fx_si 1 8 (by decide +kernel) (Or.inr (f_n4p (v := 1186) rfl (by decide))) rfl ?_
    dsimp only [List.set]
    refine fx_la 0 9 (v := 1186) (by decide +kernel) rfl (by decide +kernel) ?_
    refine fx_li 1 10 (by decide +kernel) rfl ?_
    refine fx_ci (8) 12 (by decide +kernel) ?_
    refine fx_c3 290 21 15 4 [7, 7] (by decide +kernel) (by decide) (by decide) (fI_n4 _) (fI_n4 _) rfl (by first | decide | omega) ?_
    refine sp_another_f (RT_fu (RT_fu h (by decide) (by decide)) (by decide) (by decide)) (by rw [fu_eq]; omega) (by rw [fu_nj (by decide), fu_eq]; omega) (by rw [fu_nj (by decide), fu_eq]; omega) (fun a' p1 p2 => fK1 ?_)
    refine fx_si 2 16 (by decide +kernel) (Or.inr (fI_n4 _)) rfl ?_
    dsimp only [List.set]
    refine fx_la 0 17 (v := 1186) (by decide +kernel) rfl (by decide +kernel) ?_
    refine fx_gi 1186 148 12 20 (by decide +kernel) ?_
    try simp only [fu_app, fcy_app, Nat.reduceEqDiff, and_true, and_false, false_and, true_and, if_true, if_false, ite_true, ite_false, reduceIte, Int.reduceToNat, fx_simp0]
    refine fx_ci (-1) 21 (by decide +kernel) ?_
    refine fx_ieq 25 24 (by decide +kernel) (by unfold fR; omega) (by unfold fR; omega) (fun h21 => ?_) (fun h21 => ?_)
    · exfalso; omega
    · refine fx_vret (by decide +kernel) ?_
      have := kf f (by rw [cif_f p]) a' p1 p2
      rw [fu_sw _ _ _ (by decide), fu_fu]
      exact this
/-- what a promise's line does -/
def apV (one other : Int) (g : Nat → Nat → Int) : Nat → Nat → Int := fu g 149 (12 + 7 * one + 4).toNat other
theorem sp_promiseLine {f : Int} (h : RT T E g) (hf : g 148 12 = -1) (h0 : 0 ≤ g 148 11) (h4 : g 148 11 ≤ E) (hsk : pSk T E (g 148 11) = f) (hp0 : 0 ≤ g 149 3) (hp1 : g 149 3 ≤ 8)
    (kq : ∀ f' x y, pTwo T E (g 149 3 - 1) f = Sum.inr (f', x, y) → 0 ≤ x → x < g 149 3 → 0 ≤ y → y < g 149 3 → ∀ a, 0 ≤ a → a ≤ E → pSk T E a = f' → Q 0 0 (apV x y (fu g 148 11 a)))
    (kf : ∀ q, pTwo T E (g 149 3 - 1) f = Sum.inl q → ∀ a, 0 ≤ a → a ≤ E → Q 0 0 (fu (fu g 148 11 a) 148 12 q)) : fx W r 5 292 0 [1186, 7, 7] [] g Q := by
  have aE := h.2.1
  have a3 := h.2.2.1
  refine fx_rg (fun hg => ?_)
  have f0 := pSk_ge T E (g 148 11)
  have f1 := pSk_le (T := T) h4
  have f2 : 0 ≤ f ∧ f ≤ E ∧ pSk T E f = f := by subst hsk; exact ⟨by omega, f1, pSk_id h4⟩
  obtain ⟨f2, f3, f4⟩ := f2
  have d0 := pDg_ge T E f
  have d1 := pDg_le (T := T) f3
  have s0 := pSk_ge T E (pDg T E f)
  have s1 := pSk_le (T := T) d1
  have d2 := pDg_ge T E (pSk T E (pDg T E f))
  have d3 := pDg_le (T := T) s1
  unfold pTwo at kq kf
  refine fx_la 0 1 (v := 1186) (by decide +kernel) rfl (by decide +kernel) ?_
  refine fx_ci (0) 2 (by decide +kernel) ?_
  refine fx_la 0 3 (v := 1186) (by decide +kernel) rfl (by decide +kernel) ?_
  refine fx_gp 1186 148 1 1194 6 (by decide +kernel) ?_
  refine fx_ci (3) 7 (by decide +kernel) ?_
  refine fx_al 1194 149 764 8 (by decide +kernel) rfl (by omega) (by omega) rfl ?_
  try simp only [fu_app, fcy_app, Nat.reduceEqDiff, and_true, and_false, false_and, true_and, if_true, if_false, ite_true, ite_false, reduceIte, Int.reduceToNat, fx_simp0]
  refine fx_ci (1) 9 (by decide +kernel) ?_
  refine fx_sub 10 (by decide +kernel) rfl ?_
  refine fx_c3 275 21 13 3 [7, 7] (by decide +kernel) (by decide) (by decide) (fI_n4 _) (fI_n4 _) rfl (by first | decide | omega) ?_
  refine sp_figures h hf h0 h4 (by unfold fR; omega) (by unfold fR; omega) (fun p => fK1 ?_) (fun p a v q1 q2 q3 => fK1 ?_)
  · rw [hsk] at p
    simp only [hsk]
    have pn := p.2.2
    refine fx_si 1 14 (by decide +kernel) (Or.inr (f_n4p (v := 1186) rfl (by decide))) rfl ?_
    dsimp only [List.set]
    refine fx_la 0 15 (v := 1186) (by decide +kernel) rfl (by decide +kernel) ?_
    refine fx_li 1 16 (by decide +kernel) rfl ?_
    refine fx_la 0 17 (v := 1186) (by decide +kernel) rfl (by decide +kernel) ?_
    refine fx_gp 1186 148 1 1194 20 (by decide +kernel) ?_
    refine fx_ci (3) 21 (by decide +kernel) ?_
    refine fx_al 1194 149 764 22 (by decide +kernel) rfl (by omega) (by omega) rfl ?_
    try simp only [fu_app, fcy_app, Nat.reduceEqDiff, and_true, and_false, false_and, true_and, if_true, if_false, ite_true, ite_false, reduceIte, Int.reduceToNat, fx_simp0]
    refine fx_c3 290 21 25 4 [7, 7] (by decide +kernel) (by decide) (by decide) (fI_n4 _) (fI_n4 _) rfl (by first | decide | omega) ?_
    refine sp_another (f := pSk T E (pDg T E f)) (RT_fu h (by decide) (by decide)) (by rw [fu_nj (by decide)]; exact hf) (by rw [fu_eq]; omega) (by rw [fu_eq]; omega) (by rw [fu_eq]) (by unfold fR; omega) (by omega) (by omega) (fun p1 p2 => fK1 ?_) (fun p1 a v q1 q2 q3 => fK1 ?_)
    · rw [fu_fu]
      have pm : _ ≤ pNu T E (pSk T E (pDg T E f)) ∧ pNu T E (pSk T E (pDg T E f)) ≤ _ := p1.2.2
      refine fx_si 2 26 (by decide +kernel) (Or.inr (fI_n4 _)) rfl ?_
      dsimp only [List.set]
      refine fx_la 0 27 (v := 1186) (by decide +kernel) rfl (by decide +kernel) ?_
      refine fx_gi 1186 148 12 30 (by decide +kernel) ?_
      try simp only [fu_app, fcy_app, Nat.reduceEqDiff, and_true, and_false, false_and, true_and, if_true, if_false, ite_true, ite_false, reduceIte, Int.reduceToNat, fx_simp0]
      refine fx_ci (-1) 31 (by decide +kernel) ?_
      refine fx_ine 41 34 (by decide +kernel) (by unfold fR; omega) (by unfold fR; omega) (fun h31 => ?_) (fun h31 => ?_)
      · refine fx_vret (by decide +kernel) ?_
        exact absurd hf h31
      · refine fx_la 0 35 (v := 1186) (by decide +kernel) rfl (by decide +kernel) ?_
        refine fx_li 1 36 (by decide +kernel) rfl ?_
        refine fx_ci (4) 37 (by decide +kernel) ?_
        refine fx_li 2 38 (by decide +kernel) rfl ?_
        refine fx_c4 287 21 41 0 [] (by decide +kernel) (by decide) (by decide) (fI_n4 _) (fI_n4 _) (fI_n4 _) rfl (by first | decide | omega) ?_
        refine sp_put (by omega) (by omega) (by decide) (by decide) (by unfold fR; omega) (fK0 ?_)
        refine fx_vret (by decide +kernel) ?_
        exact kq _ _ _ (by rw [cif_t p]; exact cif_t ⟨p1, p2⟩) pn.1 (by omega) pm.1 (by omega) _ (by omega) (by omega) rfl
    · rw [fu_fu]
      refine fx_si 2 26 (by decide +kernel) (Or.inr (fI_n4 _)) rfl ?_
      dsimp only [List.set]
      refine fx_la 0 27 (v := 1186) (by decide +kernel) rfl (by decide +kernel) ?_
      refine fx_gi 1186 148 12 30 (by decide +kernel) ?_
      try simp only [fu_app, fcy_app, Nat.reduceEqDiff, and_true, and_false, false_and, true_and, if_true, if_false, ite_true, ite_false, reduceIte, Int.reduceToNat, fx_simp0]
      refine fx_ci (-1) 31 (by decide +kernel) ?_
      refine fx_ine 41 34 (by decide +kernel) (by unfold fR; omega) (by unfold fR; omega) (fun h31 => ?_) (fun h31 => ?_)
      · refine fx_vret (by decide +kernel) ?_
        exact kf _ (by rw [cif_t p]; exact cif_f p1) a q1 q2
      · exfalso; omega
  · rw [hsk] at p
    simp only [hsk]
    refine fx_si 1 14 (by decide +kernel) (Or.inr (f_n4p (v := 1186) rfl (by decide))) rfl ?_
    dsimp only [List.set]
    refine fx_la 0 15 (v := 1186) (by decide +kernel) rfl (by decide +kernel) ?_
    refine fx_li 1 16 (by decide +kernel) rfl ?_
    refine fx_la 0 17 (v := 1186) (by decide +kernel) rfl (by decide +kernel) ?_
    refine fx_gp 1186 148 1 1194 20 (by decide +kernel) ?_
    refine fx_ci (3) 21 (by decide +kernel) ?_
    refine fx_al 1194 149 764 22 (by decide +kernel) rfl (by omega) (by omega) rfl ?_
    try simp only [fu_app, fcy_app, Nat.reduceEqDiff, and_true, and_false, false_and, true_and, if_true, if_false, ite_true, ite_false, reduceIte, Int.reduceToNat, fx_simp0]
    refine fx_c3 290 21 25 4 [7, 7] (by decide +kernel) (by decide) (by decide) (fI_n4 _) (fI_n4 _) rfl (by first | decide | omega) ?_
    refine sp_another_f (RT_fu (RT_fu h (by decide) (by decide)) (by decide) (by decide)) (by rw [fu_eq]; omega) (by rw [fu_nj (by decide), fu_eq]; omega) (by rw [fu_nj (by decide), fu_eq]; omega) (fun a' p1 p2 => fK1 ?_)
    refine fx_si 2 26 (by decide +kernel) (Or.inr (fI_n4 _)) rfl ?_
    dsimp only [List.set]
    refine fx_la 0 27 (v := 1186) (by decide +kernel) rfl (by decide +kernel) ?_
    refine fx_gi 1186 148 12 30 (by decide +kernel) ?_
    try simp only [fu_app, fcy_app, Nat.reduceEqDiff, and_true, and_false, false_and, true_and, if_true, if_false, ite_true, ite_false, reduceIte, Int.reduceToNat, fx_simp0]
    refine fx_ci (-1) 31 (by decide +kernel) ?_
    refine fx_ine 41 34 (by decide +kernel) (by unfold fR; omega) (by unfold fR; omega) (fun h31 => ?_) (fun h31 => ?_)
    · refine fx_vret (by decide +kernel) ?_
      have := kf f (by rw [cif_f p]) a' p1 p2
      rw [fu_sw _ _ _ (by decide), fu_fu]
      exact this
    · exfalso; omega
theorem sp_tells {x lo hi f : Int} (h : RT T E g) (hf : g 148 12 = -1) (h0 : 0 ≤ g 148 11) (h4 : g 148 11 ≤ E) (hsk : pSk T E (g 148 11) = f) (hx0 : 0 ≤ x) (hx1 : x ≤ 11) (hl : fR lo) (hh : fR hi)
    (kq : pN T E lo hi f → ∀ a, 0 ≤ a → a ≤ E → pSk T E a = pSk T E (pDg T E f) → Q 0 0 (fu (fu g 148 11 a) 149 x.toNat (pNu T E f)))
    (kf : ¬ pN T E lo hi f → ∀ a, 0 ≤ a → a ≤ E → Q 0 0 (fu (fu g 148 11 a) 148 12 f)) : fx W r 4 291 0 [1186, fI x, fI lo, fI hi, 7] [] g Q := by
  have aE := h.2.1
  have a3 := h.2.2.1
  have f0 := pSk_ge T E (g 148 11)
  have f1 := pSk_le (T := T) h4
  have f2 : 0 ≤ f ∧ f ≤ E ∧ pSk T E f = f := by subst hsk; exact ⟨by omega, f1, pSk_id h4⟩
  obtain ⟨f2, f3, f4⟩ := f2
  have d0 := pDg_ge T E f
  have d1 := pDg_le (T := T) f3
  refine fx_la 0 1 (v := 1186) (by decide +kernel) rfl (by decide +kernel) ?_
  refine fx_li 2 2 (by decide +kernel) rfl ?_
  refine fx_li 3 3 (by decide +kernel) rfl ?_
  refine fx_c3 275 21 6 3 [7, 7] (by decide +kernel) (by decide) (by decide) (fI_n4 _) (fI_n4 _) rfl (by first | decide | omega) ?_
  refine sp_figures h hf h0 h4 hl hh (fun p => fK1 ?_) (fun p a v q1 q2 q3 => fK1 ?_)
  · rw [hsk] at p
    simp only [hsk]
    unfold fR at hl hh
    have pn := p.2.2
    refine fx_si 4 8 (by decide +kernel) (Or.inr (fI_n4 _)) rfl ?_
    dsimp only [List.set]
    refine fx_la 0 9 (v := 1186) (by decide +kernel) rfl (by decide +kernel) ?_
    refine fx_gi 1186 148 12 12 (by decide +kernel) ?_
    try simp only [fu_app, fcy_app, Nat.reduceEqDiff, and_true, and_false, false_and, true_and, if_true, if_false, ite_true, ite_false, reduceIte, Int.reduceToNat, fx_simp0]
    refine fx_ci (-1) 13 (by decide +kernel) ?_
    rw [hf]
    refine fx_ine 24 16 (by decide +kernel) (by unfold fR; omega) (by unfold fR; omega) (fun h13 => ?_) (fun h13 => ?_)
    · refine fx_vret (by decide +kernel) ?_
      exact absurd rfl h13
    · refine fx_la 0 17 (v := 1186) (by decide +kernel) rfl (by decide +kernel) ?_
      refine fx_gp 1186 148 1 1194 20 (by decide +kernel) ?_
      refine fx_li 1 21 (by decide +kernel) rfl ?_
      refine fx_li 4 23 (by decide +kernel) rfl ?_
      refine fx_as 1194 149 764 24 (by decide +kernel) rfl (by omega) (by omega) rfl (by unfold fR; omega) ?_
      refine fx_vret (by decide +kernel) ?_
      exact kq p _ (by omega) d1 rfl
  · rw [hsk] at p
    simp only [hsk]
    refine fx_si 4 8 (by decide +kernel) (Or.inr (fI_n4 _)) rfl ?_
    dsimp only [List.set]
    refine fx_la 0 9 (v := 1186) (by decide +kernel) rfl (by decide +kernel) ?_
    refine fx_gi 1186 148 12 12 (by decide +kernel) ?_
    try simp only [fu_app, fcy_app, Nat.reduceEqDiff, and_true, and_false, false_and, true_and, if_true, if_false, ite_true, ite_false, reduceIte, Int.reduceToNat, fx_simp0]
    refine fx_ci (-1) 13 (by decide +kernel) ?_
    refine fx_ine 24 16 (by decide +kernel) (by unfold fR; omega) (by unfold fR; omega) (fun h13 => ?_) (fun h13 => ?_)
    · refine fx_vret (by decide +kernel) ?_
      exact kf p a q1 q2
    · exfalso; omega
end FXN
end
section
/-! fx: a line of the house as the reference reads it -/
noncomputable def pSet (T : Int → Int) (E x lo hi f : Int) : Int ⊕ (Int × List Int) := cif (pN T E lo hi f) (Sum.inr (pSk T E (pDg T E f), [3, x, pNu T E f])) (Sum.inl f)
noncomputable def pLine (T : Int → Int) (E pp dd f : Int) : Int ⊕ (Int × List Int) :=
  cif (pWd T E [112, 101, 114, 115, 111, 110] f) (if pp = 8 then Sum.inl f else pPerson T E (pSk T E (pWe T E f)))
  (cif (pWd T E [100, 105, 115, 104] f) (if dd = 6 then Sum.inl f else pDish T E (pSk T E (pWe T E f)))
  (cif (pWd T E [114, 111, 97, 100] f) (bS (pTwo T E 7 (pSk T E (pWe T E f))) (fun a => Sum.inr (a.1, [2, a.2.1, a.2.2])))
  (cif (pWd T E [113, 117, 111, 116, 97] f) (pSet T E 5 0 160 (pSk T E (pWe T E f)))
  (cif (pWd T E [119, 97, 108, 107] f) (pSet T E 6 0 100 (pSk T E (pWe T E f)))
  (cif (pWd T E [108, 105, 109, 105, 116] f) (pSet T E 7 1 99 (pSk T E (pWe T E f)))
  (cif (pWd T E [105, 114, 111, 110] f) (pSet T E 8 0 999 (pSk T E (pWe T E f)))
  (cif (pWd T E [110, 105, 103, 104, 116] f) (pSet T E 9 0 999 (pSk T E (pWe T E f)))
  (cif (pWd T E [112, 114, 111, 109, 105, 115, 101] f) (bS (pTwo T E (pp - 1) (pSk T E (pWe T E f))) (fun a => Sum.inr (a.1, [4, a.2.1, a.2.2])))
  (Sum.inl f)))))))))
/-- what a line does to the reference's row -/
noncomputable def apL (T : Int → Int) (u : List Int) (g : Nat → Nat → Int) : Nat → Nat → Int :=
  if u.getD 0 0 = 0 then apP g (u.getD 1 0) (u.getD 2 0) (u.getD 3 0) (u.getD 4 0) else if u.getD 0 0 = 1 then apD T (u.getD 1 0) g else if u.getD 0 0 = 2 then apR (u.getD 1 0) (u.getD 2 0) g else if u.getD 0 0 = 3 then fu g 149 (u.getD 1 0).toNat (u.getD 2 0) else apV (u.getD 1 0) (u.getD 2 0) g
theorem apL_0 (T : Int → Int) (g : Nat → Nat → Int) (w pl v l : Int) : apL T [0, w, pl, v, l] g = apP g w pl v l := by unfold apL; simp
theorem apL_1 (T : Int → Int) (g : Nat → Nat → Int) (f : Int) : apL T [1, f] g = apD T f g := by unfold apL; simp
theorem apL_2 (T : Int → Int) (g : Nat → Nat → Int) (x y : Int) : apL T [2, x, y] g = apR x y g := by unfold apL; simp
theorem apL_3 (T : Int → Int) (g : Nat → Nat → Int) (x y : Int) : apL T [3, x, y] g = fu g 149 x.toNat y := by unfold apL; simp
theorem apL_4 (T : Int → Int) (g : Nat → Nat → Int) (x y : Int) : apL T [4, x, y] g = apV x y g := by unfold apL; simp
section FXO
variable {W : ax_W} {r : Nat} {g : Nat → Nat → Int} {Q : Nat → Nat → (Nat → Nat → Int) → Prop} {T : Int → Int} {E : Int}
theorem sp_houseLine {f : Int} (hb : g 148 9 = -1) (h : RT T E g) (hf : g 148 12 = -1) (h0 : 0 ≤ g 148 11) (h4 : g 148 11 ≤ E) (hsk : pSk T E (g 148 11) = f) (hp0 : 0 ≤ g 149 3) (hp1 : g 149 3 ≤ 8) (hd0 : 0 ≤ g 149 4) (hd1 : g 149 4 ≤ 6)
    (kq : ∀ f' u, pLine T E (g 149 3) (g 149 4) f = Sum.inr (f', u) → ∀ a, 0 ≤ a → a ≤ E → pSk T E a = f' → Q 0 0 (apL T u (fu g 148 11 a)))
    (kf : ∀ q, pLine T E (g 149 3) (g 149 4) f = Sum.inl q → ∀ a, 0 ≤ a → a ≤ E → Q 0 0 (fu (fu g 148 11 a) 148 12 q)) : fx W r 7 284 0 [1186, 7] [] g Q := by
  have aE := h.2.1
  have a3 := h.2.2.1
  have f0 := pSk_ge T E (g 148 11)
  have f1 := pSk_le (T := T) h4
  have f2 : 0 ≤ f ∧ f ≤ E ∧ pSk T E f = f := by subst hsk; exact ⟨by omega, f1, pSk_id h4⟩
  obtain ⟨f2, f3, f4⟩ := f2
  have w0 := pWe_ge T E f
  have w1 := pWe_le (T := T) f3
  have hR : ∀ a, RT T E (fu g 148 11 a) := fun a => RT_fu h (by decide) (by decide)
  have hF : ∀ a, fu g 148 11 a 148 12 = -1 := fun a => by rw [fu_nj (by decide)]; exact hf
  have hB : ∀ a, fu g 148 11 a 148 9 = -1 := fun a => by rw [fu_nj (by decide)]; exact hb
  have hA : ∀ a, fu g 148 11 a 148 11 = a := fun a => fu_eq _ _ _ _
  have hM : ∀ a j, fu g 148 11 a 149 j = g 149 j := fun a j => fu_nc (by decide)
  unfold pLine at kq kf
  refine fx_la 0 1 (v := 1186) (by decide +kernel) rfl (by decide +kernel) ?_
  refine fx_c1 276 21 4 2 [] (by decide +kernel) (by decide) rfl (by first | decide | omega) ?_
  refine sp_here h h0 (fK1 ?_)
  rw [hsk]
  refine fx_si 1 5 (by decide +kernel) (Or.inr (f_n4p (v := 1186) rfl (by decide))) rfl ?_
  dsimp only [List.set]
  refine fx_la 0 6 (v := 1186) (by decide +kernel) rfl (by decide +kernel) ?_
  refine fx_lds 453 8 (by decide +kernel) ?_
  refine fx_c2 274 21 11 4 [7, 7] (by decide +kernel) (by decide) (by decide) (by decide) rfl (by first | decide | omega) ?_
  refine sp_hasW (f := f) [112, 101, 114, 115, 111, 110] (by decide +kernel) (hR _) (by rw [hA]; omega) (by rw [hA]; omega) (by rw [hA]; exact f4) (fun b8 => fK1 ?_) (fun b8 => fK1 ?_)
  all_goals rw [fu_fu]
  · refine fx_zeq 22 14 (by decide +kernel) (by unfold fR; omega) (fun hc => absurd hc (by decide)) (fun _ => ?_)
    refine fx_la 0 15 (v := 1186) (by decide +kernel) rfl (by decide +kernel) ?_
    refine fx_li 1 16 (by decide +kernel) rfl ?_
    refine fx_c2 285 21 19 6 [7, 7, 7, 7, 7] (by decide +kernel) (by decide) (by decide) (fI_n4 _) rfl (by first | decide | omega) ?_
    refine sp_personLine (f := pSk T E (pWe T E f)) (hR _) (hF _) (by rw [hA]; omega) (by rw [hA]; omega) (by rw [hA]) (by rw [hM]; exact hp0) (by rw [hM]; exact hp1) f2 (by omega) (fun e a q1 q2 => fK0 ?_) (fun e f' w pl v l e2 a q1 q2 q3 => fK0 ?_) (fun e q e2 a q1 q2 => fK0 ?_)
    · rw [hM] at e
      rw [fu_fu]
      exact fx_go 186 (by decide +kernel) (fx_vret (by decide +kernel) (kf f (by rw [cif_t b8, if_pos e]) a q1 q2))
    · rw [hM] at e
      rw [fu_fu]
      exact fx_go 186 (by decide +kernel) (fx_vret (by decide +kernel) (by have t := kq f' [0, w, pl, v, l] (by rw [cif_t b8, if_neg e]; exact e2) a q1 q2 q3; rw [apL_0] at t; exact t))
    · rw [hM] at e
      rw [fu_fu]
      exact fx_go 186 (by decide +kernel) (fx_vret (by decide +kernel) (kf q (by rw [cif_t b8, if_neg e]; exact e2) a q1 q2))
  · refine fx_zeq 22 14 (by decide +kernel) (by unfold fR; omega) (fun _ => ?_) (fun hc => absurd hc (by decide))
    refine fx_la 0 23 (v := 1186) (by decide +kernel) rfl (by decide +kernel) ?_
    refine fx_lds 469 25 (by decide +kernel) ?_
    refine fx_c2 274 21 28 4 [7, 7] (by decide +kernel) (by decide) (by decide) (by decide) rfl (by first | decide | omega) ?_
    refine sp_hasW (f := f) [100, 105, 115, 104] (by decide +kernel) (hR _) (by rw [hA]; omega) (by rw [hA]; omega) (by rw [hA]; exact f4) (fun b25 => fK1 ?_) (fun b25 => fK1 ?_)
    all_goals rw [fu_fu]
    · refine fx_zeq 39 31 (by decide +kernel) (by unfold fR; omega) (fun hc => absurd hc (by decide)) (fun _ => ?_)
      refine fx_la 0 32 (v := 1186) (by decide +kernel) rfl (by decide +kernel) ?_
      refine fx_li 1 33 (by decide +kernel) rfl ?_
      refine fx_c2 288 21 36 3 [7, 7, 7] (by decide +kernel) (by decide) (by decide) (fI_n4 _) rfl (by first | decide | omega) ?_
      refine sp_dishLine (f := pSk T E (pWe T E f)) (hB _) (hR _) (hF _) (by rw [hA]; omega) (by rw [hA]; omega) (by rw [hA]) (by rw [hM]; exact hd0) (by rw [hM]; exact hd1) f2 (by omega) (fun e a q1 q2 => fK0 ?_) (fun e f' e2 a q1 q2 q3 => fK0 ?_) (fun e q e2 a q1 q2 => fK0 ?_)
      · rw [hM] at e
        rw [fu_fu]
        exact fx_go 186 (by decide +kernel) (fx_vret (by decide +kernel) (kf f (by rw [cif_f b8, cif_t b25, if_pos e]) a q1 q2))
      · rw [hM] at e
        rw [fu_fu]
        exact fx_go 186 (by decide +kernel) (fx_vret (by decide +kernel) (by have t := kq f' [1, pSk T E (pWe T E f)] (by rw [cif_f b8, cif_t b25, if_neg e]; exact e2) a q1 q2 q3; rw [apL_1] at t; exact t))
      · rw [hM] at e
        rw [fu_fu]
        exact fx_go 186 (by decide +kernel) (fx_vret (by decide +kernel) (kf q (by rw [cif_f b8, cif_t b25, if_neg e]; exact e2) a q1 q2))
    · refine fx_zeq 39 31 (by decide +kernel) (by unfold fR; omega) (fun _ => ?_) (fun hc => absurd hc (by decide))
      refine fx_la 0 40 (v := 1186) (by decide +kernel) rfl (by decide +kernel) ?_
      refine fx_lds 541 42 (by decide +kernel) ?_
      refine fx_c2 274 21 45 4 [7, 7] (by decide +kernel) (by decide) (by decide) (by decide) rfl (by first | decide | omega) ?_
      refine sp_hasW (f := f) [114, 111, 97, 100] (by decide +kernel) (hR _) (by rw [hA]; omega) (by rw [hA]; omega) (by rw [hA]; exact f4) (fun b42 => fK1 ?_) (fun b42 => fK1 ?_)
      all_goals rw [fu_fu]
      · refine fx_zeq 55 48 (by decide +kernel) (by unfold fR; omega) (fun hc => absurd hc (by decide)) (fun _ => ?_)
        refine fx_la 0 49 (v := 1186) (by decide +kernel) rfl (by decide +kernel) ?_
        refine fx_c1 289 21 52 5 [7, 7] (by decide +kernel) (by decide) rfl (by first | decide | omega) ?_
        refine sp_roadLine (f := pSk T E (pWe T E f)) (hR _) (hF _) (by rw [hA]; omega) (by rw [hA]; omega) (by rw [hA]) (fun f' x y e2 x0 x1 y0 y1 a q1 q2 q3 => fK0 ?_) (fun q e2 a q1 q2 => fK0 ?_)
        · rw [fu_fu]
          exact fx_go 186 (by decide +kernel) (fx_vret (by decide +kernel) (by have t := kq f' [2, x, y] (by rw [cif_f b8, cif_f b25, cif_t b42, e2]; rfl) a q1 q2 q3; rw [apL_2] at t; exact t))
        · rw [fu_fu]
          exact fx_go 186 (by decide +kernel) (fx_vret (by decide +kernel) (kf q (by rw [cif_f b8, cif_f b25, cif_t b42, e2]; rfl) a q1 q2))
      · refine fx_zeq 55 48 (by decide +kernel) (by unfold fR; omega) (fun _ => ?_) (fun hc => absurd hc (by decide))
        refine fx_la 0 56 (v := 1186) (by decide +kernel) rfl (by decide +kernel) ?_
        refine fx_lds 549 58 (by decide +kernel) ?_
        refine fx_c2 274 21 61 4 [7, 7] (by decide +kernel) (by decide) (by decide) (by decide) rfl (by first | decide | omega) ?_
        refine sp_hasW (f := f) [113, 117, 111, 116, 97] (by decide +kernel) (hR _) (by rw [hA]; omega) (by rw [hA]; omega) (by rw [hA]; exact f4) (fun b58 => fK1 ?_) (fun b58 => fK1 ?_)
        all_goals rw [fu_fu]
        · refine fx_zeq 76 64 (by decide +kernel) (by unfold fR; omega) (fun hc => absurd hc (by decide)) (fun _ => ?_)
          refine fx_la 0 65 (v := 1186) (by decide +kernel) rfl (by decide +kernel) ?_
          refine fx_ci (5) 66 (by decide +kernel) ?_
          refine fx_ci (0) 67 (by decide +kernel) ?_
          refine fx_ci (160) 70 (by decide +kernel) ?_
          refine fx_c4 291 21 73 4 [7] (by decide +kernel) (by decide) (by decide) (fI_n4 _) (fI_n4 _) (fI_n4 _) rfl (by first | decide | omega) ?_
          refine sp_tells (f := pSk T E (pWe T E f)) (hR _) (hF _) (by rw [hA]; omega) (by rw [hA]; omega) (by rw [hA]) (by decide) (by decide) (by unfold fR; omega) (by unfold fR; omega) (fun p a q1 q2 q3 => fK0 ?_) (fun p a q1 q2 => fK0 ?_)
          · rw [fu_fu]
            exact fx_go 186 (by decide +kernel) (fx_vret (by decide +kernel) (by have t := kq _ [3, 5, pNu T E (pSk T E (pWe T E f))] (by rw [cif_f b8, cif_f b25, cif_f b42, cif_t b58]; unfold pSet; rw [cif_t p]) a q1 q2 q3; rw [apL_3] at t; exact t))
          · rw [fu_fu]
            exact fx_go 186 (by decide +kernel) (fx_vret (by decide +kernel) (kf _ (by rw [cif_f b8, cif_f b25, cif_f b42, cif_t b58]; unfold pSet; rw [cif_f p]) a q1 q2))
        · refine fx_zeq 76 64 (by decide +kernel) (by unfold fR; omega) (fun _ => ?_) (fun hc => absurd hc (by decide))
          refine fx_la 0 77 (v := 1186) (by decide +kernel) rfl (by decide +kernel) ?_
          refine fx_lds 557 79 (by decide +kernel) ?_
          refine fx_c2 274 21 82 4 [7, 7] (by decide +kernel) (by decide) (by decide) (by decide) rfl (by first | decide | omega) ?_
          refine sp_hasW (f := f) [119, 97, 108, 107] (by decide +kernel) (hR _) (by rw [hA]; omega) (by rw [hA]; omega) (by rw [hA]; exact f4) (fun b79 => fK1 ?_) (fun b79 => fK1 ?_)
          all_goals rw [fu_fu]
          · refine fx_zeq 97 85 (by decide +kernel) (by unfold fR; omega) (fun hc => absurd hc (by decide)) (fun _ => ?_)
            refine fx_la 0 86 (v := 1186) (by decide +kernel) rfl (by decide +kernel) ?_
            refine fx_ci (6) 88 (by decide +kernel) ?_
            refine fx_ci (0) 89 (by decide +kernel) ?_
            refine fx_ci (100) 91 (by decide +kernel) ?_
            refine fx_c4 291 21 94 4 [7] (by decide +kernel) (by decide) (by decide) (fI_n4 _) (fI_n4 _) (fI_n4 _) rfl (by first | decide | omega) ?_
            refine sp_tells (f := pSk T E (pWe T E f)) (hR _) (hF _) (by rw [hA]; omega) (by rw [hA]; omega) (by rw [hA]) (by decide) (by decide) (by unfold fR; omega) (by unfold fR; omega) (fun p a q1 q2 q3 => fK0 ?_) (fun p a q1 q2 => fK0 ?_)
            · rw [fu_fu]
              exact fx_go 186 (by decide +kernel) (fx_vret (by decide +kernel) (by have t := kq _ [3, 6, pNu T E (pSk T E (pWe T E f))] (by rw [cif_f b8, cif_f b25, cif_f b42, cif_f b58, cif_t b79]; unfold pSet; rw [cif_t p]) a q1 q2 q3; rw [apL_3] at t; exact t))
            · rw [fu_fu]
              exact fx_go 186 (by decide +kernel) (fx_vret (by decide +kernel) (kf _ (by rw [cif_f b8, cif_f b25, cif_f b42, cif_f b58, cif_t b79]; unfold pSet; rw [cif_f p]) a q1 q2))
          · refine fx_zeq 97 85 (by decide +kernel) (by unfold fR; omega) (fun _ => ?_) (fun hc => absurd hc (by decide))
            refine fx_la 0 98 (v := 1186) (by decide +kernel) rfl (by decide +kernel) ?_
            refine fx_lds 565 100 (by decide +kernel) ?_
            refine fx_c2 274 21 103 4 [7, 7] (by decide +kernel) (by decide) (by decide) (by decide) rfl (by first | decide | omega) ?_
            refine sp_hasW (f := f) [108, 105, 109, 105, 116] (by decide +kernel) (hR _) (by rw [hA]; omega) (by rw [hA]; omega) (by rw [hA]; exact f4) (fun b100 => fK1 ?_) (fun b100 => fK1 ?_)
            all_goals rw [fu_fu]
            · refine fx_zeq 118 106 (by decide +kernel) (by unfold fR; omega) (fun hc => absurd hc (by decide)) (fun _ => ?_)
              refine fx_la 0 107 (v := 1186) (by decide +kernel) rfl (by decide +kernel) ?_
              refine fx_ci (7) 109 (by decide +kernel) ?_
              refine fx_ci (1) 110 (by decide +kernel) ?_
              refine fx_ci (99) 112 (by decide +kernel) ?_
              refine fx_c4 291 21 115 4 [7] (by decide +kernel) (by decide) (by decide) (fI_n4 _) (fI_n4 _) (fI_n4 _) rfl (by first | decide | omega) ?_
              refine sp_tells (f := pSk T E (pWe T E f)) (hR _) (hF _) (by rw [hA]; omega) (by rw [hA]; omega) (by rw [hA]) (by decide) (by decide) (by unfold fR; omega) (by unfold fR; omega) (fun p a q1 q2 q3 => fK0 ?_) (fun p a q1 q2 => fK0 ?_)
              · rw [fu_fu]
                exact fx_go 186 (by decide +kernel) (fx_vret (by decide +kernel) (by have t := kq _ [3, 7, pNu T E (pSk T E (pWe T E f))] (by rw [cif_f b8, cif_f b25, cif_f b42, cif_f b58, cif_f b79, cif_t b100]; unfold pSet; rw [cif_t p]) a q1 q2 q3; rw [apL_3] at t; exact t))
              · rw [fu_fu]
                exact fx_go 186 (by decide +kernel) (fx_vret (by decide +kernel) (kf _ (by rw [cif_f b8, cif_f b25, cif_f b42, cif_f b58, cif_f b79, cif_t b100]; unfold pSet; rw [cif_f p]) a q1 q2))
            · refine fx_zeq 118 106 (by decide +kernel) (by unfold fR; omega) (fun _ => ?_) (fun hc => absurd hc (by decide))
              refine fx_la 0 119 (v := 1186) (by decide +kernel) rfl (by decide +kernel) ?_
              refine fx_lds 573 121 (by decide +kernel) ?_
              refine fx_c2 274 21 124 4 [7, 7] (by decide +kernel) (by decide) (by decide) (by decide) rfl (by first | decide | omega) ?_
              refine sp_hasW (f := f) [105, 114, 111, 110] (by decide +kernel) (hR _) (by rw [hA]; omega) (by rw [hA]; omega) (by rw [hA]; exact f4) (fun b121 => fK1 ?_) (fun b121 => fK1 ?_)
              all_goals rw [fu_fu]
              · refine fx_zeq 140 127 (by decide +kernel) (by unfold fR; omega) (fun hc => absurd hc (by decide)) (fun _ => ?_)
                refine fx_la 0 128 (v := 1186) (by decide +kernel) rfl (by decide +kernel) ?_
                refine fx_ci (8) 130 (by decide +kernel) ?_
                refine fx_ci (0) 131 (by decide +kernel) ?_
                refine fx_ci (999) 134 (by decide +kernel) ?_
                refine fx_c4 291 21 137 4 [7] (by decide +kernel) (by decide) (by decide) (fI_n4 _) (fI_n4 _) (fI_n4 _) rfl (by first | decide | omega) ?_
                refine sp_tells (f := pSk T E (pWe T E f)) (hR _) (hF _) (by rw [hA]; omega) (by rw [hA]; omega) (by rw [hA]) (by decide) (by decide) (by unfold fR; omega) (by unfold fR; omega) (fun p a q1 q2 q3 => fK0 ?_) (fun p a q1 q2 => fK0 ?_)
                · rw [fu_fu]
                  exact fx_go 186 (by decide +kernel) (fx_vret (by decide +kernel) (by have t := kq _ [3, 8, pNu T E (pSk T E (pWe T E f))] (by rw [cif_f b8, cif_f b25, cif_f b42, cif_f b58, cif_f b79, cif_f b100, cif_t b121]; unfold pSet; rw [cif_t p]) a q1 q2 q3; rw [apL_3] at t; exact t))
                · rw [fu_fu]
                  exact fx_go 186 (by decide +kernel) (fx_vret (by decide +kernel) (kf _ (by rw [cif_f b8, cif_f b25, cif_f b42, cif_f b58, cif_f b79, cif_f b100, cif_t b121]; unfold pSet; rw [cif_f p]) a q1 q2))
              · refine fx_zeq 140 127 (by decide +kernel) (by unfold fR; omega) (fun _ => ?_) (fun hc => absurd hc (by decide))
                refine fx_la 0 141 (v := 1186) (by decide +kernel) rfl (by decide +kernel) ?_
                refine fx_lds 501 143 (by decide +kernel) ?_
                refine fx_c2 274 21 146 4 [7, 7] (by decide +kernel) (by decide) (by decide) (by decide) rfl (by first | decide | omega) ?_
                refine sp_hasW (f := f) [110, 105, 103, 104, 116] (by decide +kernel) (hR _) (by rw [hA]; omega) (by rw [hA]; omega) (by rw [hA]; exact f4) (fun b143 => fK1 ?_) (fun b143 => fK1 ?_)
                all_goals rw [fu_fu]
                · refine fx_zeq 162 149 (by decide +kernel) (by unfold fR; omega) (fun hc => absurd hc (by decide)) (fun _ => ?_)
                  refine fx_la 0 150 (v := 1186) (by decide +kernel) rfl (by decide +kernel) ?_
                  refine fx_ci (9) 152 (by decide +kernel) ?_
                  refine fx_ci (0) 153 (by decide +kernel) ?_
                  refine fx_ci (999) 156 (by decide +kernel) ?_
                  refine fx_c4 291 21 159 4 [7] (by decide +kernel) (by decide) (by decide) (fI_n4 _) (fI_n4 _) (fI_n4 _) rfl (by first | decide | omega) ?_
                  refine sp_tells (f := pSk T E (pWe T E f)) (hR _) (hF _) (by rw [hA]; omega) (by rw [hA]; omega) (by rw [hA]) (by decide) (by decide) (by unfold fR; omega) (by unfold fR; omega) (fun p a q1 q2 q3 => fK0 ?_) (fun p a q1 q2 => fK0 ?_)
                  · rw [fu_fu]
                    exact fx_go 186 (by decide +kernel) (fx_vret (by decide +kernel) (by have t := kq _ [3, 9, pNu T E (pSk T E (pWe T E f))] (by rw [cif_f b8, cif_f b25, cif_f b42, cif_f b58, cif_f b79, cif_f b100, cif_f b121, cif_t b143]; unfold pSet; rw [cif_t p]) a q1 q2 q3; rw [apL_3] at t; exact t))
                  · rw [fu_fu]
                    exact fx_go 186 (by decide +kernel) (fx_vret (by decide +kernel) (kf _ (by rw [cif_f b8, cif_f b25, cif_f b42, cif_f b58, cif_f b79, cif_f b100, cif_f b121, cif_t b143]; unfold pSet; rw [cif_f p]) a q1 q2))
                · refine fx_zeq 162 149 (by decide +kernel) (by unfold fR; omega) (fun _ => ?_) (fun hc => absurd hc (by decide))
                  refine fx_la 0 163 (v := 1186) (by decide +kernel) rfl (by decide +kernel) ?_
                  refine fx_lds 581 165 (by decide +kernel) ?_
                  refine fx_c2 274 21 168 4 [7, 7] (by decide +kernel) (by decide) (by decide) (by decide) rfl (by first | decide | omega) ?_
                  refine sp_hasW (f := f) [112, 114, 111, 109, 105, 115, 101] (by decide +kernel) (hR _) (by rw [hA]; omega) (by rw [hA]; omega) (by rw [hA]; exact f4) (fun b165 => fK1 ?_) (fun b165 => fK1 ?_)
                  all_goals rw [fu_fu]
                  · refine fx_zeq 178 171 (by decide +kernel) (by unfold fR; omega) (fun hc => absurd hc (by decide)) (fun _ => ?_)
                    refine fx_la 0 172 (v := 1186) (by decide +kernel) rfl (by decide +kernel) ?_
                    refine fx_c1 292 21 175 5 [7, 7] (by decide +kernel) (by decide) rfl (by first | decide | omega) ?_
                    refine sp_promiseLine (f := pSk T E (pWe T E f)) (hR _) (hF _) (by rw [hA]; omega) (by rw [hA]; omega) (by rw [hA]) (by rw [hM]; exact hp0) (by rw [hM]; exact hp1) (fun f' x y e2 x0 x1 y0 y1 a q1 q2 q3 => fK0 ?_) (fun q e2 a q1 q2 => fK0 ?_)
                    · rw [fu_fu]
                      rw [hM] at e2
                      exact fx_go 186 (by decide +kernel) (fx_vret (by decide +kernel) (by have t := kq f' [4, x, y] (by rw [cif_f b8, cif_f b25, cif_f b42, cif_f b58, cif_f b79, cif_f b100, cif_f b121, cif_f b143, cif_t b165, e2]; rfl) a q1 q2 q3; rw [apL_4] at t; exact t))
                    · rw [fu_fu]
                      rw [hM] at e2
                      exact fx_go 186 (by decide +kernel) (fx_vret (by decide +kernel) (kf q (by rw [cif_f b8, cif_f b25, cif_f b42, cif_f b58, cif_f b79, cif_f b100, cif_f b121, cif_f b143, cif_t b165, e2]; rfl) a q1 q2))
                  · refine fx_zeq 178 171 (by decide +kernel) (by unfold fR; omega) (fun _ => ?_) (fun hc => absurd hc (by decide))
                    refine fx_la 0 179 (v := 1186) (by decide +kernel) rfl (by decide +kernel) ?_
                    refine fx_la 0 180 (v := 1186) (by decide +kernel) rfl (by decide +kernel) ?_
                    refine fx_gi 1186 148 11 183 (by decide +kernel) ?_
                    try simp only [fu_app, fcy_app, Nat.reduceEqDiff, and_true, and_false, false_and, true_and, if_true, if_false, ite_true, ite_false, reduceIte, Int.reduceToNat, fx_simp0]
                    refine fx_c2 272 21 186 0 [] (by decide +kernel) (by decide) (by decide) (fI_n4 _) rfl (by first | decide | omega) ?_
                    refine sp_wrong (hF _) (by unfold fR; omega) (fK0 ?_)
                    refine fx_vret (by decide +kernel) ?_
                    exact kf f (by rw [cif_f b8, cif_f b25, cif_f b42, cif_f b58, cif_f b79, cif_f b100, cif_f b121, cif_f b143, cif_f b165]) f f2 f3
end FXO
end
section
/-! fx: the reference reads the house's text -/
def k0 (u : List Int) : Int := if u.getD 0 0 = 0 then 1 else 0
def k1 (u : List Int) : Int := if u.getD 0 0 = 1 then 1 else 0
/-- all lines, n at most -/
noncomputable def pAll (T : Int → Int) (E : Int) : Nat → Int → Int → Int → Int ⊕ List (List Int)
  | 0, _, _, f => Sum.inl f
  | n + 1, pp, dd, f => bS (pLine T E pp dd f) (fun a => if a.1 = E then Sum.inr [a.2] else if T a.1 = 59 then bS (pAll T E n (pp + k0 a.2) (dd + k1 a.2) (pSk T E (a.1 + 1))) (fun us => Sum.inr (a.2 :: us)) else Sum.inl a.1)
noncomputable def apLs (T : Int → Int) (us : List (List Int)) (g : Nat → Nat → Int) : Nat → Nat → Int := us.foldl (fun g u => apL T u g) g
/-- nothing but the first 364 places of the row, at, fault -/
def eqx (g g' : Nat → Nat → Int) : Prop := ∀ c j, ¬ (c = 149 ∧ j < 364) → ¬ (c = 148 ∧ (j = 11 ∨ j = 12)) → g' c j = g c j
theorem eqx_refl (g : Nat → Nat → Int) : eqx g g := fun _ _ _ _ => rfl
theorem eqx_tr {g g' g'' : Nat → Nat → Int} (h : eqx g g') (h2 : eqx g' g'') : eqx g g'' := fun c j a b => (h2 c j a b).trans (h c j a b)
theorem eqx_at (g : Nat → Nat → Int) (z : Int) : eqx g (fu g 148 11 z) := fun c j _ b => fu_ne (fun t => b ⟨t.1, Or.inl t.2⟩)
theorem eqx_fault (g : Nat → Nat → Int) (z : Int) : eqx g (fu g 148 12 z) := fun c j _ b => fu_ne (fun t => b ⟨t.1, Or.inr t.2⟩)
theorem eqx_m (g : Nat → Nat → Int) {k : Nat} (z : Int) (hk : k < 364) : eqx g (fu g 149 k z) := fun c j a _ => fu_ne (fun t => a ⟨t.1, by omega⟩)
section FXP
variable {W : ax_W} {r : Nat} {g : Nat → Nat → Int} {Q : Nat → Nat → (Nat → Nat → Int) → Prop} {T : Int → Int} {E : Int}
theorem fu_apP {c j : Nat} {z w pl v l : Int} (h : c ≠ 149) : apP (fu g c j z) w pl v l = fu (apP g w pl v l) c j z := by
  have s : ∀ (g : Nat → Nat → Int) k y, fu (fu g c j z) 149 k y = fu (fu g 149 k y) c j z := fun g k y => fu_sw _ _ _ (fun t => h t.1)
  unfold apP
  rw [fu_nc (Ne.symm h)]
  simp only [s]
theorem fu_apD {c j : Nat} {z f : Int} (h : c ≠ 149) : apD T f (fu g c j z) = fu (apD T f g) c j z := by
  unfold apD
  rw [fu_nc (Ne.symm h), ← dshR_fu h, fu_sw _ _ _ (fun t => h t.1)]
theorem fu_apR {c j : Nat} {z x y : Int} (h : c ≠ 149) : apR x y (fu g c j z) = fu (apR x y g) c j z := by
  have s : ∀ (g : Nat → Nat → Int) k y, fu (fu g c j z) 149 k y = fu (fu g 149 k y) c j z := fun g k y => fu_sw _ _ _ (fun t => h t.1)
  unfold apR
  rw [fu_nc (Ne.symm h)]
  rw [s, fu_nc (Ne.symm h), s]
theorem fu_apL {c j : Nat} {z : Int} {u : List Int} (h : c ≠ 149) : apL T u (fu g c j z) = fu (apL T u g) c j z := by
  unfold apL
  split
  · exact fu_apP h
  · split
    · exact fu_apD h
    · split
      · exact fu_apR h
      · split
        · exact fu_sw _ _ _ (fun t => h t.1)
        · exact fu_sw _ _ _ (fun t => h t.1)
end FXP
theorem bS_inr {α β : Type} {x : Int ⊕ α} {k : α → Int ⊕ β} {y : β} (h : bS x k = Sum.inr y) : ∃ a, x = Sum.inr a ∧ k a = Sum.inr y := by
  cases x with
  | inl q => cases h
  | inr a => exact ⟨a, rfl, h⟩
/-- a place behind which no space is skipped -/
def pOk (T : Int → Int) (E f : Int) : Prop := 0 ≤ f ∧ f ≤ E ∧ pSk T E f = f
theorem pOk_sk {T : Int → Int} {E i : Int} (h0 : 0 ≤ i) (h : i ≤ E) : pOk T E (pSk T E i) := ⟨by have := pSk_ge T E i; omega, pSk_le h, pSk_id h⟩
theorem pOk_we {T : Int → Int} {E f : Int} (h : pOk T E f) : pOk T E (pSk T E (pWe T E f)) := pOk_sk (by have := pWe_ge T E f; have := h.1; omega) (pWe_le h.2.1)
theorem pOk_dg {T : Int → Int} {E f : Int} (h : pOk T E f) : pOk T E (pSk T E (pDg T E f)) := pOk_sk (by have := pDg_ge T E f; have := h.1; omega) (pDg_le h.2.1)
/-- what a line says is such -/
def uOk (E pp dd : Int) (u : List Int) : Prop := (∃ w pl v l, u = [0, w, pl, v, l] ∧ pp ≤ 7 ∧ 1 ≤ w ∧ w ≤ 99 ∧ -1 ≤ pl ∧ pl ≤ 7 ∧ 0 ≤ v ∧ v ≤ 20 ∧ 3 ≤ l ∧ l ≤ 4) ∨ (∃ b, u = [1, b] ∧ dd ≤ 5 ∧ 0 ≤ b ∧ b + 8 ≤ E) ∨ (∃ x y, u = [2, x, y] ∧ 0 ≤ x ∧ x ≤ 7 ∧ 0 ≤ y ∧ y ≤ 7) ∨ (∃ x y, u = [3, x, y] ∧ 5 ≤ x ∧ x ≤ 9 ∧ 0 ≤ y ∧ y ≤ 999) ∨ (∃ x y, u = [4, x, y] ∧ 0 ≤ x ∧ x < pp ∧ 0 ≤ y ∧ y < pp)
theorem pOpt_ok {T : Int → Int} {E : Int} {ws : List Nat} {lo hi df f f' v : Int} (h : pOpt T E ws lo hi df f = Sum.inr (f', v)) (hf : pOk T E f) : pOk T E f' ∧ ((lo ≤ v ∧ v ≤ hi) ∨ v = df) := by
  unfold pOpt at h
  by_cases c : pWd T E ws f
  · rw [cif_t c] at h
    by_cases c2 : pN T E lo hi (pSk T E (pWe T E f))
    · rw [cif_t c2] at h
      cases h
      exact ⟨pOk_dg (pOk_we hf), Or.inl c2.2.2⟩
    · rw [cif_f c2] at h
      cases h
  · rw [cif_f c] at h
    cases h
    exact ⟨hf, Or.inr rfl⟩
theorem pTwo_ok {T : Int → Int} {E hi f f' x y : Int} (h : pTwo T E hi f = Sum.inr (f', x, y)) (hf : pOk T E f) : pOk T E f' ∧ 0 ≤ x ∧ x ≤ hi ∧ 0 ≤ y ∧ y ≤ hi := by
  unfold pTwo at h
  by_cases c : pN T E 0 hi f
  · rw [cif_t c] at h
    by_cases c2 : pN T E 0 hi (pSk T E (pDg T E f)) ∧ pNu T E (pSk T E (pDg T E f)) ≠ pNu T E f
    · rw [cif_t c2] at h
      cases h
      exact ⟨pOk_dg (pOk_dg hf), c.2.2.1, c.2.2.2, c2.1.2.2.1, c2.1.2.2.2⟩
    · rw [cif_f c2] at h
      cases h
  · rw [cif_f c] at h
    cases h
theorem pSet_ok {T : Int → Int} {E x lo hi f f' : Int} {u : List Int} (h : pSet T E x lo hi f = Sum.inr (f', u)) (hf : pOk T E f) : pOk T E f' ∧ ∃ y, u = [3, x, y] ∧ lo ≤ y ∧ y ≤ hi := by
  unfold pSet at h
  by_cases c : pN T E lo hi f
  · rw [cif_t c] at h
    cases h
    exact ⟨pOk_dg hf, _, rfl, c.2.2⟩
  · rw [cif_f c] at h
    cases h
theorem pPerson_ok {T : Int → Int} {E f f' : Int} {u : List Int} (h : pPerson T E f = Sum.inr (f', u)) (hf : pOk T E f) : pOk T E f' ∧ ∃ w pl v l, u = [0, w, pl, v, l] ∧ 1 ≤ w ∧ w ≤ 99 ∧ -1 ≤ pl ∧ pl ≤ 7 ∧ 0 ≤ v ∧ v ≤ 20 ∧ 3 ≤ l ∧ l ≤ 4 := by
  unfold pPerson at h
  by_cases c : pWd T E [119, 101, 105, 103, 104, 116] f
  · rw [cif_t c] at h
    by_cases c2 : pN T E 1 99 (pSk T E (pWe T E f))
    · rw [cif_t c2] at h
      obtain ⟨⟨f1, pl⟩, e1, h⟩ := bS_inr h
      obtain ⟨⟨f2, v⟩, e2, h⟩ := bS_inr h
      obtain ⟨⟨f3, l⟩, e3, h⟩ := bS_inr h
      cases h
      obtain ⟨o1, p1⟩ := pOpt_ok e1 (pOk_dg (pOk_we hf))
      obtain ⟨o2, p2⟩ := pOpt_ok e2 o1
      obtain ⟨o3, p3⟩ := pOpt_ok e3 o2
      refine ⟨o3, _, pl, v, l, rfl, c2.2.2.1, c2.2.2.2, by omega, by omega, by omega, by omega, by omega, by omega⟩
    · rw [cif_f c2] at h
      cases h
  · rw [cif_f c] at h
    cases h
theorem pDish_ok {T : Int → Int} {E f f' : Int} {u : List Int} (h : pDish T E f = Sum.inr (f', u)) (hf : pOk T E f) : pOk T E f' ∧ u = [1, f] ∧ f + 8 ≤ E := by
  unfold pDish at h
  have := pDg_le (T := T) hf.2.1
  by_cases c : pDg T E f - f = 8
  · rw [cif_t c] at h
    cases h
    exact ⟨pOk_sk (by have := hf.1; omega) (by omega), rfl, by omega⟩
  · rw [cif_f c] at h
    cases h
theorem pLine_ok {T : Int → Int} {E pp dd f f' : Int} {u : List Int} (h : pLine T E pp dd f = Sum.inr (f', u)) (hf : pOk T E f) (hp : pp ≤ 8) (hd : dd ≤ 6) : pOk T E f' ∧ uOk E pp dd u := by
  have hw := pOk_we hf
  unfold pLine at h
  by_cases c : pWd T E [112, 101, 114, 115, 111, 110] f
  · rw [cif_t c] at h
    by_cases e : pp = 8
    · rw [if_pos e] at h; cases h
    · rw [if_neg e] at h
      obtain ⟨o, w, pl, v, l, e1, e2⟩ := pPerson_ok h hw
      exact ⟨o, Or.inl ⟨w, pl, v, l, e1, by omega, e2⟩⟩
  rw [cif_f c] at h
  by_cases c : pWd T E [100, 105, 115, 104] f
  · rw [cif_t c] at h
    by_cases e : dd = 6
    · rw [if_pos e] at h; cases h
    · rw [if_neg e] at h
      obtain ⟨o, e1, e2⟩ := pDish_ok h hw
      exact ⟨o, Or.inr (Or.inl ⟨_, e1, by omega, hw.1, e2⟩)⟩
  rw [cif_f c] at h
  by_cases c : pWd T E [114, 111, 97, 100] f
  · rw [cif_t c] at h
    obtain ⟨⟨f1, x, y⟩, e1, h⟩ := bS_inr h
    cases h
    obtain ⟨o, e2⟩ := pTwo_ok e1 hw
    exact ⟨o, Or.inr (Or.inr (Or.inl ⟨x, y, rfl, e2⟩))⟩
  rw [cif_f c] at h
  have st : ∀ x lo hi, 5 ≤ x → x ≤ 9 → 0 ≤ lo → hi ≤ 999 → pSet T E x lo hi (pSk T E (pWe T E f)) = Sum.inr (f', u) → pOk T E f' ∧ uOk E pp dd u := fun x lo hi h1 h2 h3 h4 t => by
    obtain ⟨o, y, e1, e2, e3⟩ := pSet_ok t hw
    exact ⟨o, Or.inr (Or.inr (Or.inr (Or.inl ⟨x, y, e1, h1, h2, by omega, by omega⟩)))⟩
  by_cases c : pWd T E [113, 117, 111, 116, 97] f
  · rw [cif_t c] at h; exact st 5 0 160 (by decide) (by decide) (by decide) (by decide) h
  rw [cif_f c] at h
  by_cases c : pWd T E [119, 97, 108, 107] f
  · rw [cif_t c] at h; exact st 6 0 100 (by decide) (by decide) (by decide) (by decide) h
  rw [cif_f c] at h
  by_cases c : pWd T E [108, 105, 109, 105, 116] f
  · rw [cif_t c] at h; exact st 7 1 99 (by decide) (by decide) (by decide) (by decide) h
  rw [cif_f c] at h
  by_cases c : pWd T E [105, 114, 111, 110] f
  · rw [cif_t c] at h; exact st 8 0 999 (by decide) (by decide) (by decide) (by decide) h
  rw [cif_f c] at h
  by_cases c : pWd T E [110, 105, 103, 104, 116] f
  · rw [cif_t c] at h; exact st 9 0 999 (by decide) (by decide) (by decide) (by decide) h
  rw [cif_f c] at h
  by_cases c : pWd T E [112, 114, 111, 109, 105, 115, 101] f
  · rw [cif_t c] at h
    obtain ⟨⟨f1, x, y⟩, e1, h⟩ := bS_inr h
    cases h
    obtain ⟨o, e2⟩ := pTwo_ok e1 hw
    exact ⟨o, Or.inr (Or.inr (Or.inr (Or.inr ⟨x, y, rfl, by omega, by omega, by omega, by omega⟩)))⟩
  rw [cif_f c] at h
  cases h
/-- what a line does: counts, nothing else -/
theorem apL_ok {T : Int → Int} {E : Int} {g : Nat → Nat → Int} {u : List Int} (hu : uOk E (g 149 3) (g 149 4) u) (hp0 : 0 ≤ g 149 3) (hp1 : g 149 3 ≤ 8) (hd0 : 0 ≤ g 149 4) (hd1 : g 149 4 ≤ 6) :
    apL T u g 149 3 = g 149 3 + k0 u ∧ apL T u g 149 4 = g 149 4 + k1 u ∧ (∀ c j, ¬ (c = 149 ∧ j < 364) → apL T u g c j = g c j) ∧ 0 ≤ k0 u ∧ g 149 3 + k0 u ≤ 8 ∧ 0 ≤ k1 u ∧ g 149 4 + k1 u ≤ 6 := by
  rcases hu with ⟨w, pl, v, l, rfl, hu⟩ | ⟨b, rfl, hu⟩ | ⟨x, y, rfl, hu⟩ | ⟨x, y, rfl, hu⟩ | ⟨x, y, rfl, hu⟩
  · have e0 : k0 [0, w, pl, v, l] = 1 := rfl
    have e1 : k1 [0, w, pl, v, l] = 0 := rfl
    rw [apL_0, e0, e1]
    unfold apP
    refine ⟨fu_eq _ _ _ _, ?_, fun c j h => ?_, by decide, by omega, by decide, by omega⟩
    · rw [fu_nj (by decide), fu_nj (by omega), fu_nj (by omega), fu_nj (by omega), fu_nj (by omega), fu_nj (by omega), fu_nj (by omega), fu_nj (by omega)]
      omega
    · rw [fu_ne (by omega), fu_ne (by omega), fu_ne (by omega), fu_ne (by omega), fu_ne (by omega), fu_ne (by omega), fu_ne (by omega), fu_ne (by omega)]
  · have e0 : k0 [1, b] = 0 := rfl
    have e1 : k1 [1, b] = 1 := rfl
    rw [apL_1, e0, e1]
    unfold apD
    refine ⟨?_, fu_eq _ _ _ _, fun c j h => ?_, by decide, by omega, by decide, by omega⟩
    · rw [fu_nj (by decide), dshR_ne hd0 (Or.inr (by decide))]; omega
    · rw [fu_ne (by omega)]
      have st : ∀ k : Nat, k ≤ 8 → dshR T b (g 149 4) k g c j = g c j := by
        intro k
        induction k with
        | zero => intro _; rfl
        | succ k ih =>
          intro hk
          show fu (dshR T b (g 149 4) k g) 149 (68 + 8 * g 149 4 + k).toNat _ c j = _
          rw [fu_ne (by omega), ih (by omega)]
      exact st 8 (by decide)
  · have e0 : k0 [2, x, y] = 0 := rfl
    have e1 : k1 [2, x, y] = 0 := rfl
    rw [apL_2, e0, e1]
    unfold apR
    refine ⟨?_, ?_, fun c j h => ?_, by decide, by omega, by decide, by omega⟩
    · rw [fu_nj (by omega), fu_nj (by omega)]; omega
    · rw [fu_nj (by omega), fu_nj (by omega)]; omega
    · rw [fu_ne (by omega), fu_ne (by omega)]
  · have e0 : k0 [3, x, y] = 0 := rfl
    have e1 : k1 [3, x, y] = 0 := rfl
    rw [apL_3, e0, e1]
    refine ⟨?_, ?_, fun c j h => ?_, by decide, by omega, by decide, by omega⟩
    · rw [fu_nj (by omega)]; omega
    · rw [fu_nj (by omega)]; omega
    · rw [fu_ne (by omega)]
  · have e0 : k0 [4, x, y] = 0 := rfl
    have e1 : k1 [4, x, y] = 0 := rfl
    rw [apL_4, e0, e1]
    unfold apV
    refine ⟨?_, ?_, fun c j h => ?_, by decide, by omega, by decide, by omega⟩
    · rw [fu_nj (by omega)]; omega
    · rw [fu_nj (by omega)]; omega
    · rw [fu_ne (by omega)]
theorem bS_inl {α β : Type} {x : Int ⊕ α} {k : α → Int ⊕ β} {q : Int} (h : bS x k = Sum.inl q) : x = Sum.inl q ∨ ∃ a, x = Sum.inr a ∧ k a = Sum.inl q := by
  cases x with
  | inl q' => exact Or.inl (by cases h; rfl)
  | inr a => exact Or.inr ⟨a, rfl, h⟩
theorem pOpt_bad {T : Int → Int} {E : Int} {ws : List Nat} {lo hi df f q : Int} (h : pOpt T E ws lo hi df f = Sum.inl q) (hf : pOk T E f) : 0 ≤ q ∧ q ≤ E := by
  unfold pOpt at h
  have hw := pOk_we hf
  by_cases c : pWd T E ws f
  · rw [cif_t c] at h
    by_cases c2 : pN T E lo hi (pSk T E (pWe T E f))
    · rw [cif_t c2] at h; cases h
    · rw [cif_f c2] at h; cases h; exact ⟨hw.1, hw.2.1⟩
  · rw [cif_f c] at h; cases h
theorem pTwo_bad {T : Int → Int} {E hi f q : Int} (h : pTwo T E hi f = Sum.inl q) (hf : pOk T E f) : 0 ≤ q ∧ q ≤ E := by
  unfold pTwo at h
  have hw := pOk_dg hf
  by_cases c : pN T E 0 hi f
  · rw [cif_t c] at h
    by_cases c2 : pN T E 0 hi (pSk T E (pDg T E f)) ∧ pNu T E (pSk T E (pDg T E f)) ≠ pNu T E f
    · rw [cif_t c2] at h; cases h
    · rw [cif_f c2] at h; cases h; exact ⟨hw.1, hw.2.1⟩
  · rw [cif_f c] at h; cases h; exact ⟨hf.1, hf.2.1⟩
theorem pSet_bad {T : Int → Int} {E x lo hi f q : Int} (h : pSet T E x lo hi f = Sum.inl q) (hf : pOk T E f) : 0 ≤ q ∧ q ≤ E := by
  unfold pSet at h
  by_cases c : pN T E lo hi f
  · rw [cif_t c] at h; cases h
  · rw [cif_f c] at h; cases h; exact ⟨hf.1, hf.2.1⟩
theorem pPerson_bad {T : Int → Int} {E f q : Int} (h : pPerson T E f = Sum.inl q) (hf : pOk T E f) : 0 ≤ q ∧ q ≤ E := by
  unfold pPerson at h
  have hw := pOk_we hf
  by_cases c : pWd T E [119, 101, 105, 103, 104, 116] f
  · rw [cif_t c] at h
    by_cases c2 : pN T E 1 99 (pSk T E (pWe T E f))
    · rw [cif_t c2] at h
      rcases bS_inl h with h | ⟨⟨f1, pl⟩, e1, h⟩
      · exact pOpt_bad h (pOk_dg hw)
      · have o1 := (pOpt_ok e1 (pOk_dg hw)).1
        rcases bS_inl h with h | ⟨⟨f2, v⟩, e2, h⟩
        · exact pOpt_bad h o1
        · have o2 := (pOpt_ok e2 o1).1
          rcases bS_inl h with h | ⟨⟨f3, l⟩, e3, h⟩
          · exact pOpt_bad h o2
          · cases h
    · rw [cif_f c2] at h; cases h; exact ⟨hw.1, hw.2.1⟩
  · rw [cif_f c] at h; cases h; exact ⟨hf.1, hf.2.1⟩
theorem pLine_bad {T : Int → Int} {E pp dd f q : Int} (h : pLine T E pp dd f = Sum.inl q) (hf : pOk T E f) : 0 ≤ q ∧ q ≤ E := by
  have hw := pOk_we hf
  have hq : f = q → 0 ≤ q ∧ q ≤ E := fun t => by subst t; exact ⟨hf.1, hf.2.1⟩
  unfold pLine at h
  by_cases c : pWd T E [112, 101, 114, 115, 111, 110] f
  · rw [cif_t c] at h
    by_cases e : pp = 8
    · rw [if_pos e] at h; cases h; exact hq rfl
    · rw [if_neg e] at h; exact pPerson_bad h hw
  rw [cif_f c] at h
  by_cases c : pWd T E [100, 105, 115, 104] f
  · rw [cif_t c] at h
    by_cases e : dd = 6
    · rw [if_pos e] at h; cases h; exact hq rfl
    · rw [if_neg e] at h
      unfold pDish at h
      by_cases e2 : pDg T E (pSk T E (pWe T E f)) - pSk T E (pWe T E f) = 8
      · rw [cif_t e2] at h; cases h
      · rw [cif_f e2] at h; cases h; exact ⟨hw.1, hw.2.1⟩
  rw [cif_f c] at h
  by_cases c : pWd T E [114, 111, 97, 100] f
  · rw [cif_t c] at h
    rcases bS_inl h with h | ⟨a, e, h⟩
    · exact pTwo_bad h hw
    · cases h
  rw [cif_f c] at h
  by_cases c : pWd T E [113, 117, 111, 116, 97] f
  · rw [cif_t c] at h; exact pSet_bad h hw
  rw [cif_f c] at h
  by_cases c : pWd T E [119, 97, 108, 107] f
  · rw [cif_t c] at h; exact pSet_bad h hw
  rw [cif_f c] at h
  by_cases c : pWd T E [108, 105, 109, 105, 116] f
  · rw [cif_t c] at h; exact pSet_bad h hw
  rw [cif_f c] at h
  by_cases c : pWd T E [105, 114, 111, 110] f
  · rw [cif_t c] at h; exact pSet_bad h hw
  rw [cif_f c] at h
  by_cases c : pWd T E [110, 105, 103, 104, 116] f
  · rw [cif_t c] at h; exact pSet_bad h hw
  rw [cif_f c] at h
  by_cases c : pWd T E [112, 114, 111, 109, 105, 115, 101] f
  · rw [cif_t c] at h
    rcases bS_inl h with h | ⟨a, e, h⟩
    · exact pTwo_bad h hw
    · cases h
  rw [cif_f c] at h
  cases h
  exact hq rfl
theorem uOk_cnt {E pp dd : Int} {u : List Int} (hu : uOk E pp dd u) (hp : pp ≤ 8) (hd : dd ≤ 6) : 0 ≤ k0 u ∧ pp + k0 u ≤ 8 ∧ 0 ≤ k1 u ∧ dd + k1 u ≤ 6 := by
  rcases hu with ⟨w, pl, v, l, rfl, hu⟩ | ⟨b, rfl, hu⟩ | ⟨x, y, rfl, hu⟩ | ⟨x, y, rfl, hu⟩ | ⟨x, y, rfl, hu⟩
  · have e0 : k0 [0, w, pl, v, l] = 1 := rfl
    have e1 : k1 [0, w, pl, v, l] = 0 := rfl
    omega
  · have e0 : k0 [1, b] = 0 := rfl
    have e1 : k1 [1, b] = 1 := rfl
    omega
  · have e0 : k0 [2, x, y] = 0 := rfl
    have e1 : k1 [2, x, y] = 0 := rfl
    omega
  · have e0 : k0 [3, x, y] = 0 := rfl
    have e1 : k1 [3, x, y] = 0 := rfl
    omega
  · have e0 : k0 [4, x, y] = 0 := rfl
    have e1 : k1 [4, x, y] = 0 := rfl
    omega
end
section
/-! fx: the reference reads the house's text, line by line -/
section FXQ
variable {W : ax_W} {r : Nat} {Q : Nat → Nat → (Nat → Nat → Int) → Prop} {T : Int → Int} {E : Int}
theorem RT_eq {g g' : Nat → Nat → Int} (hb : g 148 9 = -1) (h : RT T E g) (he : ∀ c j, ¬ (c = 149 ∧ j < 364) → g' c j = g c j) : RT T E g' := by
  obtain ⟨a1, a2, a3, a4, a5⟩ := h
  have e1 : g' 148 9 = -1 := by rw [he _ _ (by decide)]; exact hb
  refine ⟨by rw [he _ _ (by decide)]; exact a1, a2, a3, Or.inl e1, fun k k0 k1 => ?_⟩
  have e : flt g' k = flt g k := by
    unfold flt
    rw [if_pos e1, if_pos hb, he _ _ (fun t => absurd t.1 (by decide))]
  rw [e]
  exact a5 k k0 k1
theorem apLs_fu {c j : Nat} {z : Int} (h : c ≠ 149) : ∀ {us : List (List Int)} {g : Nat → Nat → Int}, apLs T us (fu g c j z) = fu (apLs T us g) c j z
  | [], g => rfl
  | u :: us, g => by
    show apLs T us (apL T u (fu g c j z)) = fu (apLs T us (apL T u g)) c j z
    rw [fu_apL h, apLs_fu h]
theorem sp_rd_x {g : Nat → Nat → Int} {n : Int} (kq : Q 1 (fI n) g) : fx W r 8 269 23 [1186, fI 0, fI 0, fI n] [] g Q := by
  refine fx_li 2 24 (by decide +kernel) rfl ?_
  refine fx_zeq 144 27 (by decide +kernel) (by unfold fR; omega) (fun _ => ?_) (fun hc => absurd hc (by decide))
  refine fx_li 3 145 (by decide +kernel) rfl ?_
  refine fx_ret (by decide +kernel) ?_
  exact kq
theorem sp_rd_y {g : Nat → Nat → Int} {n : Int} (hf : g 148 12 ≠ -1) (kq : Q 1 (fI n) g) : fx W r 8 269 23 [1186, fI 0, fI 1, fI n] [] g Q := by
  refine fx_rg (fun hg => ?_)
  refine fx_li 2 24 (by decide +kernel) rfl ?_
  refine fx_zeq 144 27 (by decide +kernel) (by unfold fR; omega) (fun hc => absurd hc (by decide)) (fun _ => ?_)
  refine fx_la 0 28 (v := 1186) (by decide +kernel) rfl (by decide +kernel) ?_
  refine fx_gi 1186 148 12 31 (by decide +kernel) ?_
  refine fx_ci (-1) 32 (by decide +kernel) ?_
  refine fx_ine 144 35 (by decide +kernel) (by first | exact hg 148 12 (by decide) (by decide +kernel) (by decide +kernel) | (unfold fR; omega)) (by unfold fR; omega) (fun h32 => ?_) (fun h32 => ?_)
  · refine fx_li 3 145 (by decide +kernel) rfl ?_
    refine fx_ret (by decide +kernel) ?_
    exact kq
  · exact absurd h32 hf
theorem sp_rd : ∀ (left : Nat) (n : Int) (g : Nat → Nat → Int) (f : Int), n = 14 - left → left ≤ 14 → g 148 9 = -1 → RT T E g → g 148 12 = -1 → 0 ≤ g 148 11 → g 148 11 ≤ E → pSk T E (g 148 11) = f → 0 ≤ g 149 3 → g 149 3 ≤ 8 → 0 ≤ g 149 4 → g 149 4 ≤ 6 →
    (∀ us, pAll T E left (g 149 3) (g 149 4) f = Sum.inr us → ∀ a v, 0 ≤ a → a ≤ E → fR v → Q 1 (fI v) (fu (apLs T us g) 148 11 a)) →
    (∀ q, pAll T E left (g 149 3) (g 149 4) f = Sum.inl q → ∀ g' v, eqx g g' → g' 148 12 = q → 0 ≤ q → q ≤ E → 0 ≤ g' 148 11 → g' 148 11 ≤ E → fR v → Q 1 (fI v) g') →
    fx W r 8 269 23 [1186, fI 0, fI 1, fI n] [] g Q
  | left, n, g, f, hn, hl, hb, h, hf, h0, h4, hsk, hp0, hp1, hd0, hd1, kq, kf => by
    have aN := h.1
    have aE := h.2.1
    have a3 := h.2.2.1
    refine fx_rg (fun hg => ?_)
    have f0 := pSk_ge T E (g 148 11)
    have f1 := pSk_le (T := T) h4
    have fo : pOk T E f := by subst hsk; exact pOk_sk h0 h4
    obtain ⟨f2, f3, f4⟩ := fo
    have hR : ∀ a, RT T E (fu g 148 11 a) := fun a => RT_fu h (by decide) (by decide)
    have hF : ∀ a, fu g 148 11 a 148 12 = -1 := fun a => by rw [fu_nj (by decide)]; exact hf
    have hB : ∀ a, fu g 148 11 a 148 9 = -1 := fun a => by rw [fu_nj (by decide)]; exact hb
    have hA : ∀ a, fu g 148 11 a 148 11 = a := fun a => fu_eq _ _ _ _
    have hM : ∀ a j, fu g 148 11 a 149 j = g 149 j := fun a j => fu_nc (by decide)
    match left, hn, hl, kq, kf with
    | 0, hn, hl, kq, kf =>
      refine fx_li 2 24 (by decide +kernel) rfl ?_
      refine fx_zeq 144 27 (by decide +kernel) (by unfold fR; omega) (fun hc => absurd hc (by decide)) (fun _ => ?_)
      refine fx_la 0 28 (v := 1186) (by decide +kernel) rfl (by decide +kernel) ?_
      refine fx_gi 1186 148 12 31 (by decide +kernel) ?_
      refine fx_ci (-1) 32 (by decide +kernel) ?_
      refine fx_ine 144 35 (by decide +kernel) (by first | exact hg 148 12 (by decide) (by decide +kernel) (by decide +kernel) | (unfold fR; omega)) (by unfold fR; omega) (fun h32 => ?_) (fun h32 => ?_)
      · exact absurd hf h32
      · refine fx_la 0 36 (v := 1186) (by decide +kernel) rfl (by decide +kernel) ?_
        refine fx_c1 270 21 39 1 [] (by decide +kernel) (by decide) rfl (by first | decide | omega) ?_
        refine sp_skip h h0 (fK0 ?_)
        rw [hsk]
        refine fx_li 3 40 (by decide +kernel) rfl ?_
        refine fx_li 1 41 (by decide +kernel) rfl ?_
        refine fx_zeq 49 44 (by decide +kernel) (by unfold fR; omega) (fun _ => ?_) (fun hc => absurd hc (by decide))
        refine fx_ci (14) 51 (by decide +kernel) ?_
        refine fx_ine 65 54 (by decide +kernel) (by unfold fR; omega) (by unfold fR; omega) (fun h51 => ?_) (fun h51 => ?_)
        · exfalso; omega
        · refine fx_la 0 55 (v := 1186) (by decide +kernel) rfl (by decide +kernel) ?_
          refine fx_la 0 56 (v := 1186) (by decide +kernel) rfl (by decide +kernel) ?_
          refine fx_gi 1186 148 11 59 (by decide +kernel) ?_
          try simp only [fu_app, fcy_app, Nat.reduceEqDiff, and_true, and_false, false_and, true_and, if_true, if_false, ite_true, ite_false, reduceIte, Int.reduceToNat, fx_simp0]
          refine fx_c2 272 21 62 0 [] (by decide +kernel) (by decide) (by decide) (fI_n4 _) rfl (by first | decide | omega) ?_
          refine sp_wrong (hF _) (by unfold fR; omega) (fK0 ?_)
          refine fx_go 80 (by decide +kernel) ?_
          refine fx_inc 3 83 (1) (by decide +kernel) rfl (Or.inr (fI_n4 _)) rfl ?_
          dsimp only [List.set]
          refine fx_la 0 84 (v := 1186) (by decide +kernel) rfl (by decide +kernel) ?_
          refine fx_c1 270 21 87 1 [] (by decide +kernel) (by decide) rfl (by first | decide | omega) ?_
          refine sp_skip (RT_fu (hR _) (by decide) (by decide)) (by rw [fu_nj (by decide), hA]; omega) (fK0 ?_)
          rw [fu_nj (by decide), hA, f4]
          refine fx_la 0 88 (v := 1186) (by decide +kernel) rfl (by decide +kernel) ?_
          refine fx_gi 1186 148 12 91 (by decide +kernel) ?_
          try simp only [fu_app, fcy_app, Nat.reduceEqDiff, and_true, and_false, false_and, true_and, if_true, if_false, ite_true, ite_false, reduceIte, Int.reduceToNat, fx_simp0]
          refine fx_ci (-1) 92 (by decide +kernel) ?_
          refine fx_ine 106 95 (by decide +kernel) (by unfold fR; omega) (by unfold fR; omega) (fun h92 => ?_) (fun h92 => ?_)
          · refine fx_ci (0) 107 (by decide +kernel) ?_
            refine fx_si 2 108 (by decide +kernel) (Or.inr (fI_n4 _)) rfl ?_
            dsimp only [List.set]
            refine fx_go 23 (by decide +kernel) ?_
            refine sp_rd_x (kf f rfl _ _ (eqx_tr (eqx_tr (eqx_at _ _) (eqx_fault _ _)) (eqx_at _ _)) ?_ f2 f3 ?_ ?_ ?_)
            · rw [fu_nj (by decide), fu_eq]
            · rw [fu_eq]; exact f2
            · rw [fu_eq]; exact f3
            · unfold fR; omega
          · exfalso; omega
    | left + 1, hn, hl, kq, kf =>
      have eP : ∀ x, pLine T E (g 149 3) (g 149 4) f = x → pAll T E (left + 1) (g 149 3) (g 149 4) f = bS x (fun a => if a.1 = E then Sum.inr [a.2] else if T a.1 = 59 then bS (pAll T E left (g 149 3 + k0 a.2) (g 149 4 + k1 a.2) (pSk T E (a.1 + 1))) (fun us => Sum.inr (a.2 :: us)) else Sum.inl a.1) := fun x hx => by rw [← hx]; rfl
      refine fx_li 2 24 (by decide +kernel) rfl ?_
      refine fx_zeq 144 27 (by decide +kernel) (by unfold fR; omega) (fun hc => absurd hc (by decide)) (fun _ => ?_)
      refine fx_la 0 28 (v := 1186) (by decide +kernel) rfl (by decide +kernel) ?_
      refine fx_gi 1186 148 12 31 (by decide +kernel) ?_
      refine fx_ci (-1) 32 (by decide +kernel) ?_
      refine fx_ine 144 35 (by decide +kernel) (by first | exact hg 148 12 (by decide) (by decide +kernel) (by decide +kernel) | (unfold fR; omega)) (by unfold fR; omega) (fun h32 => ?_) (fun h32 => ?_)
      · exact absurd hf h32
      · refine fx_la 0 36 (v := 1186) (by decide +kernel) rfl (by decide +kernel) ?_
        refine fx_c1 270 21 39 1 [] (by decide +kernel) (by decide) rfl (by first | decide | omega) ?_
        refine sp_skip h h0 (fK0 ?_)
        rw [hsk]
        refine fx_li 3 40 (by decide +kernel) rfl ?_
        refine fx_li 1 41 (by decide +kernel) rfl ?_
        refine fx_zeq 49 44 (by decide +kernel) (by unfold fR; omega) (fun _ => ?_) (fun hc => absurd hc (by decide))
        refine fx_ci (14) 51 (by decide +kernel) ?_
        refine fx_ine 65 54 (by decide +kernel) (by unfold fR; omega) (by unfold fR; omega) (fun h51 => ?_) (fun h51 => ?_)
        · refine fx_li 1 66 (by decide +kernel) rfl ?_
          refine fx_zeq 76 69 (by decide +kernel) (by unfold fR; omega) (fun _ => ?_) (fun hc => absurd hc (by decide))
          refine fx_la 0 77 (v := 1186) (by decide +kernel) rfl (by decide +kernel) ?_
          refine fx_c1 284 21 80 7 [7] (by decide +kernel) (by decide) rfl (by first | decide | omega) ?_
          refine sp_houseLine (f := f) (hB _) (hR _) (hF _) (by rw [hA]; omega) (by rw [hA]; omega) (by rw [hA]; exact f4) (by rw [hM]; exact hp0) (by rw [hM]; exact hp1) (by rw [hM]; exact hd0) (by rw [hM]; exact hd1) (fun f' u e a q1 q2 q3 => fK0 ?_) (fun q e a q1 q2 => fK0 ?_)
          · rw [fu_fu, fu_apL (by decide)]
            rw [hM, hM] at e
            obtain ⟨fo', hu⟩ := pLine_ok e ⟨f2, f3, f4⟩ hp1 hd1
            obtain ⟨g1, g2, g3, g4, g5, g6, g7⟩ := apL_ok (T := T) hu hp0 hp1 hd0 hd1
            have eq := eP _ e
            have eq : pAll T E (left + 1) (g 149 3) (g 149 4) f = (if f' = E then Sum.inr [u] else if T f' = 59 then bS (pAll T E left (g 149 3 + k0 u) (g 149 4 + k1 u) (pSk T E (f' + 1))) (fun us => Sum.inr (u :: us)) else Sum.inl f') := eq
            have gR : RT T E (apL T u g) := RT_eq hb h g3
            have gF : apL T u g 148 12 = -1 := by rw [g3 _ _ (by decide)]; exact hf
            have gB : apL T u g 148 9 = -1 := by rw [g3 _ _ (by decide)]; exact hb
            have gX : eqx g (apL T u g) := fun c j a b => g3 c j a
            have kq : ∀ us, pAll T E (left + 1) (g 149 3) (g 149 4) f = Sum.inr (u :: us) → ∀ a v, 0 ≤ a → a ≤ E → fR v → Q 1 (fI v) (fu (apLs T us (apL T u g)) 148 11 a) := fun us t => kq (u :: us) t
            obtain ⟨p0, p1, p2⟩ := fo'
            have gE := gR.1
            generalize apL T u g = G at *
            have GR : ∀ a, RT T E (fu G 148 11 a) := fun a => RT_fu gR (by decide) (by decide)
            have GF : ∀ a, fu G 148 11 a 148 12 = -1 := fun a => by rw [fu_nj (by decide)]; exact gF
            have GB : ∀ a, fu G 148 11 a 148 9 = -1 := fun a => by rw [fu_nj (by decide)]; exact gB
            have GA : ∀ a, fu G 148 11 a 148 11 = a := fun a => fu_eq _ _ _ _
            have GM : ∀ a j, fu G 148 11 a 149 j = G 149 j := fun a j => fu_nc (by decide)
            refine fx_inc 3 83 (1) (by decide +kernel) rfl (Or.inr (fI_n4 _)) rfl ?_
            dsimp only [List.set]
            refine fx_la 0 84 (v := 1186) (by decide +kernel) rfl (by decide +kernel) ?_
            refine fx_c1 270 21 87 1 [] (by decide +kernel) (by decide) rfl (by first | decide | omega) ?_
            refine sp_skip (GR _) (by rw [GA]; omega) (fK0 ?_)
            rw [GA, q3, fu_fu]
            refine fx_la 0 88 (v := 1186) (by decide +kernel) rfl (by decide +kernel) ?_
            refine fx_gi 1186 148 12 91 (by decide +kernel) ?_
            try simp only [fu_app, fcy_app, Nat.reduceEqDiff, and_true, and_false, false_and, true_and, if_true, if_false, ite_true, ite_false, reduceIte, Int.reduceToNat, fx_simp0]
            refine fx_ci (-1) 92 (by decide +kernel) ?_
            refine fx_ine 106 95 (by decide +kernel) (by unfold fR; omega) (by unfold fR; omega) (fun h92 => ?_) (fun h92 => ?_)
            · refine fx_ci (0) 107 (by decide +kernel) ?_
              refine fx_si 2 108 (by decide +kernel) (Or.inr (fI_n4 _)) rfl ?_
              dsimp only [List.set]
              refine fx_go 23 (by decide +kernel) ?_
              exfalso; omega
            · refine fx_la 0 96 (v := 1186) (by decide +kernel) rfl (by decide +kernel) ?_
              refine fx_gi 1186 148 11 99 (by decide +kernel) ?_
              try simp only [fu_app, fcy_app, Nat.reduceEqDiff, and_true, and_false, false_and, true_and, if_true, if_false, ite_true, ite_false, reduceIte, Int.reduceToNat, fx_simp0]
              refine fx_la 0 100 (v := 1186) (by decide +kernel) rfl (by decide +kernel) ?_
              refine fx_gi 1186 148 10 103 (by decide +kernel) ?_
              try simp only [fu_app, fcy_app, Nat.reduceEqDiff, and_true, and_false, false_and, true_and, if_true, if_false, ite_true, ite_false, reduceIte, Int.reduceToNat, fx_simp0]
              refine fx_ine 111 106 (by decide +kernel) (by unfold fR; omega) (by unfold fR; omega) (fun h103 => ?_) (fun h103 => ?_)
              · refine fx_la 0 112 (v := 1186) (by decide +kernel) rfl (by decide +kernel) ?_
                refine fx_ci (59) 114 (by decide +kernel) ?_
                refine fx_c2 280 21 117 2 [] (by decide +kernel) (by decide) (by decide) (fI_n4 _) rfl (by first | decide | omega) ?_
                refine sp_isSign (c := 59) (GR _) (by rw [GA]; omega) (by rw [GA]; omega) (by unfold fR; omega) (fun b => fK1 ?_) (fun b => fK1 ?_)
                all_goals rw [GA, p2] at b
                all_goals rw [GA, p2, fu_fu]
                · refine fx_zeq 133 120 (by decide +kernel) (by unfold fR; omega) (fun hc => absurd hc (by decide)) (fun _ => ?_)
                  refine fx_la 0 121 (v := 1186) (by decide +kernel) rfl (by decide +kernel) ?_
                  refine fx_dup 122 (by decide +kernel) rfl (by decide) ?_
                  refine fx_gi 1186 148 11 125 (by decide +kernel) ?_
                  try simp only [fu_app, fcy_app, Nat.reduceEqDiff, and_true, and_false, false_and, true_and, if_true, if_false, ite_true, ite_false, reduceIte, Int.reduceToNat, fx_simp0]
                  refine fx_ci (1) 126 (by decide +kernel) ?_
                  refine fx_add 127 (by decide +kernel) rfl ?_
                  refine fx_pi 1186 148 11 130 (by decide +kernel) (by unfold fR; omega) ?_
                  refine fx_go 23 (by decide +kernel) ?_
                  rw [if_neg (by omega), if_pos b.2] at eq
                  rw [fu_fu]
                  refine sp_rd left (n + 1) (fu G 148 11 (f' + 1)) (pSk T E (f' + 1)) (by omega) (by omega) (GB _) (GR _) (GF _) (by rw [GA]; omega) (by rw [GA]; omega) (by rw [GA]) (by rw [GM]; omega) (by rw [GM]; omega) (by rw [GM]; omega) (by rw [GM]; omega) (fun us t a v t1 t2 t3 => ?_) (fun q t g' v t1 t2 t3 t4 t5 t6 t7 => ?_)
                  · rw [GM, GM, g1, g2] at t
                    rw [t] at eq
                    rw [apLs_fu (by decide), fu_fu]
                    exact kq us eq a v t1 t2 t3
                  · rw [GM, GM, g1, g2] at t
                    rw [t] at eq
                    exact kf q eq g' v (eqx_tr gX (eqx_tr (eqx_at _ _) t1)) t2 t3 t4 t5 t6 t7
                · refine fx_zeq 133 120 (by decide +kernel) (by unfold fR; omega) (fun _ => ?_) (fun hc => absurd hc (by decide))
                  refine fx_la 0 134 (v := 1186) (by decide +kernel) rfl (by decide +kernel) ?_
                  refine fx_la 0 135 (v := 1186) (by decide +kernel) rfl (by decide +kernel) ?_
                  refine fx_gi 1186 148 11 138 (by decide +kernel) ?_
                  try simp only [fu_app, fcy_app, Nat.reduceEqDiff, and_true, and_false, false_and, true_and, if_true, if_false, ite_true, ite_false, reduceIte, Int.reduceToNat, fx_simp0]
                  refine fx_c2 272 21 141 0 [] (by decide +kernel) (by decide) (by decide) (fI_n4 _) rfl (by first | decide | omega) ?_
                  refine sp_wrong (GF _) (by unfold fR; omega) (fK0 ?_)
                  refine fx_go 23 (by decide +kernel) ?_
                  rw [if_neg (by omega), if_neg (by omega)] at eq
                  refine sp_rd_y (by rw [fu_eq]; omega) (kf f' eq _ _ (eqx_tr gX (eqx_tr (eqx_at _ _) (eqx_fault _ _))) ?_ p0 p1 ?_ ?_ ?_)
                  · rw [fu_eq]
                  · rw [fu_nj (by decide), fu_eq]; exact p0
                  · rw [fu_nj (by decide), fu_eq]; exact p1
                  · unfold fR; omega
              · refine fx_ci (0) 107 (by decide +kernel) ?_
                refine fx_si 2 108 (by decide +kernel) (Or.inr (fI_n4 _)) rfl ?_
                dsimp only [List.set]
                refine fx_go 23 (by decide +kernel) ?_
                have t : f' = E := by omega
                rw [if_pos t] at eq
                exact sp_rd_x (kq [] eq _ _ p0 p1 (by unfold fR; omega))
          · rw [fu_fu]
            rw [hM, hM] at e
            have eq := eP _ e
            have eq : pAll T E (left + 1) (g 149 3) (g 149 4) f = Sum.inl q := eq
            have qb := pLine_bad e ⟨f2, f3, f4⟩
            have s0 := pSk_ge T E a
            have s1 := pSk_le (T := T) q2
            refine fx_inc 3 83 (1) (by decide +kernel) rfl (Or.inr (fI_n4 _)) rfl ?_
            dsimp only [List.set]
            refine fx_la 0 84 (v := 1186) (by decide +kernel) rfl (by decide +kernel) ?_
            refine fx_c1 270 21 87 1 [] (by decide +kernel) (by decide) rfl (by first | decide | omega) ?_
            refine sp_skip (RT_fu (hR _) (by decide) (by decide)) (by rw [fu_nj (by decide), hA]; omega) (fK0 ?_)
            rw [fu_nj (by decide), hA]
            refine fx_la 0 88 (v := 1186) (by decide +kernel) rfl (by decide +kernel) ?_
            refine fx_gi 1186 148 12 91 (by decide +kernel) ?_
            try simp only [fu_app, fcy_app, Nat.reduceEqDiff, and_true, and_false, false_and, true_and, if_true, if_false, ite_true, ite_false, reduceIte, Int.reduceToNat, fx_simp0]
            refine fx_ci (-1) 92 (by decide +kernel) ?_
            refine fx_ine 106 95 (by decide +kernel) (by unfold fR; omega) (by unfold fR; omega) (fun h92 => ?_) (fun h92 => ?_)
            · refine fx_ci (0) 107 (by decide +kernel) ?_
              refine fx_si 2 108 (by decide +kernel) (Or.inr (fI_n4 _)) rfl ?_
              dsimp only [List.set]
              refine fx_go 23 (by decide +kernel) ?_
              refine sp_rd_x (kf q eq _ _ (eqx_tr (eqx_tr (eqx_at _ _) (eqx_fault _ _)) (eqx_at _ _)) ?_ qb.1 qb.2 ?_ ?_ ?_)
              · rw [fu_nj (by decide), fu_eq]
              · rw [fu_eq]; omega
              · rw [fu_eq]; exact s1
              · unfold fR; omega
            · exfalso; omega
        · exfalso; omega
/-- all lines of a text, none too -/
noncomputable def pText (T : Int → Int) (E pp dd : Int) : Int ⊕ List (List Int) := if pSk T E 0 = E then Sum.inr [] else pAll T E 14 pp dd (pSk T E 0)
theorem sp_read {g : Nat → Nat → Int} (hb : g 148 9 = -1) (h : RT T E g) (hf : g 148 12 = -1) (h0 : g 148 11 = 0) (hp0 : 0 ≤ g 149 3) (hp1 : g 149 3 ≤ 8) (hd0 : 0 ≤ g 149 4) (hd1 : g 149 4 ≤ 6)
    (kq : ∀ us, pText T E (g 149 3) (g 149 4) = Sum.inr us → ∀ a v, 0 ≤ a → a ≤ E → fR v → Q 1 (fI v) (fu (apLs T us g) 148 11 a))
    (kf : ∀ q, pText T E (g 149 3) (g 149 4) = Sum.inl q → ∀ g' v, eqx g g' → g' 148 12 = q → 0 ≤ q → q ≤ E → fR v → Q 1 (fI v) g') : fx W r 8 269 0 [1186, fI 0, 7, 7] [] g Q := by
  have aN := h.1
  have aE := h.2.1
  have a3 := h.2.2.1
  have f0 := pSk_ge T E 0
  have f1 := pSk_le (T := T) aE
  have f4 := pSk_id (T := T) aE
  have hR : ∀ a, RT T E (fu g 148 11 a) := fun a => RT_fu h (by decide) (by decide)
  have hF : ∀ a, fu g 148 11 a 148 12 = -1 := fun a => by rw [fu_nj (by decide)]; exact hf
  have hB : ∀ a, fu g 148 11 a 148 9 = -1 := fun a => by rw [fu_nj (by decide)]; exact hb
  have hA : ∀ a, fu g 148 11 a 148 11 = a := fun a => fu_eq _ _ _ _
  have hM : ∀ a j, fu g 148 11 a 149 j = g 149 j := fun a j => fu_nc (by decide)
  unfold pText at kq kf
  refine fx_la 0 1 (v := 1186) (by decide +kernel) rfl (by decide +kernel) ?_
  refine fx_c1 270 21 4 1 [] (by decide +kernel) (by decide) rfl (by first | decide | omega) ?_
  refine sp_skip h (by omega) (fK0 ?_)
  rw [h0]
  refine fx_la 0 5 (v := 1186) (by decide +kernel) rfl (by decide +kernel) ?_
  refine fx_gi 1186 148 11 8 (by decide +kernel) ?_
  try simp only [fu_app, fcy_app, Nat.reduceEqDiff, and_true, and_false, false_and, true_and, if_true, if_false, ite_true, ite_false, reduceIte, Int.reduceToNat, fx_simp0]
  refine fx_la 0 9 (v := 1186) (by decide +kernel) rfl (by decide +kernel) ?_
  refine fx_gi 1186 148 10 12 (by decide +kernel) ?_
  try simp only [fu_app, fcy_app, Nat.reduceEqDiff, and_true, and_false, false_and, true_and, if_true, if_false, ite_true, ite_false, reduceIte, Int.reduceToNat, fx_simp0]
  refine fx_ige 19 15 (by decide +kernel) (by unfold fR; omega) (by unfold fR; omega) (fun h12 => ?_) (fun h12 => ?_)
  · refine fx_ci (0) 20 (by decide +kernel) ?_
    refine fx_si 2 21 (by decide +kernel) (Or.inr (fI_n4 _)) rfl ?_
    dsimp only [List.set]
    refine fx_ci (0) 22 (by decide +kernel) ?_
    refine fx_si 3 23 (by decide +kernel) (Or.inr (fI_n4 _)) rfl ?_
    dsimp only [List.set]
    rw [if_pos (by omega)] at kq
    exact sp_rd_x (kq [] rfl _ _ (by omega) f1 (by unfold fR; omega))
  · refine fx_ci (1) 16 (by decide +kernel) ?_
    refine fx_go 20 (by decide +kernel) ?_
    refine fx_si 2 21 (by decide +kernel) (Or.inr (fI_n4 _)) rfl ?_
    dsimp only [List.set]
    refine fx_ci (0) 22 (by decide +kernel) ?_
    refine fx_si 3 23 (by decide +kernel) (Or.inr (fI_n4 _)) rfl ?_
    dsimp only [List.set]
    rw [if_neg (by omega)] at kq kf
    refine sp_rd 14 0 _ (pSk T E 0) rfl (by decide) (hB _) (hR _) (hF _) (by rw [hA]; omega) (by rw [hA]; omega) (by rw [hA]; exact f4) (by rw [hM]; omega) (by rw [hM]; omega) (by rw [hM]; omega) (by rw [hM]; omega) (fun us t a v t1 t2 t3 => ?_) (fun q t g' v t1 t2 t3 t4 t5 t6 t7 => ?_)
    · rw [hM, hM] at t
      rw [apLs_fu (by decide), fu_fu]
      exact kq us t a v t1 t2 t3
    · rw [hM, hM] at t
      exact kf q t g' v (eqx_tr (eqx_at _ _) t1) t2 t3 t4 t7
end FXQ
end
