/-! fx: who lives, and the votes of a side, on both sides -/
/-- the bits below n that D hasn't -/
noncomputable def evB (D : Int) : Nat → Int
  | 0 => 0
  | n + 1 => evB D n + (if fbt D (n : Int) = 0 then ((2 ^ n : Nat) : Int) else 0)
theorem ev_all : (List.range 9).all (fun n => (List.range 256).all (fun D => decide (fop 3 (fop 6 1 ((n : Nat) : Int) - 1) (fop 5 ((D : Nat) : Int) (-1)) = evB ((D : Nat) : Int) n))) = true := by decide +kernel
theorem sh_all : ∀ n : Nat, n < 9 → fop 6 1 (n : Int) = ((2 ^ n : Nat) : Int) := by decide +kernel
theorem or_all : (List.range 8).all (fun n => (List.range 256).all (fun a => decide (a < 2 ^ n → fop 4 ((a : Nat) : Int) (fop 6 1 ((n : Nat) : Int)) = ((a + 2 ^ n : Nat) : Int)))) = true := by decide +kernel
/-- the living of a row, below n -/
def lvN (t : Nat → Int) : Nat → Nat
  | 0 => 0
  | n + 1 => lvN t n + (if t (17 + 7 * n) = 1 then 0 else 2 ^ n)
theorem lvN_lt (t : Nat → Int) : ∀ n, lvN t n < 2 ^ n
  | 0 => Nat.zero_lt_one
  | n + 1 => by
    have := lvN_lt t n
    show lvN t n + (if t (17 + 7 * n) = 1 then 0 else 2 ^ n) < 2 ^ (n + 1)
    rw [Nat.pow_succ]
    split <;> omega
theorem evB_lv {D : Int} {t : Nat → Int} (h : ∀ p : Nat, p < 8 → fbt D (p : Int) = t (17 + 7 * p)) : ∀ n, n ≤ 8 → evB D n = ((lvN t n : Nat) : Int)
  | 0, _ => rfl
  | n + 1, hn => by
    have e := h n (by omega)
    have h01 := fbt_01 D n
    show evB D n + (if fbt D (n : Int) = 0 then ((2 ^ n : Nat) : Int) else 0) = ((lvN t n + (if t (17 + 7 * n) = 1 then 0 else 2 ^ n) : Nat) : Int)
    rw [evB_lv h n (by omega)]
    by_cases c : t (17 + 7 * n) = 1
    · rw [if_pos c, if_neg (by omega)]
      omega
    · rw [if_neg c, if_pos (by omega)]
      omega
/-- the votes of a side's members below n, and of its living members -/
noncomputable def vsC (v : Nat → Int) (s : Int) : Nat → Int
  | 0 => 0
  | n + 1 => vsC v s n + (if fbt s (n : Int) = 0 then 0 else v n)
noncomputable def vsM (t : Nat → Int) (s : Int) : Nat → Int
  | 0 => 0
  | n + 1 => vsM t s n + (if fbt s (n : Int) = 0 ∨ t (17 + 7 * n) = 1 then 0 else t (13 + 7 * n))
theorem vsC_b {v : Nat → Int} {s : Int} (h : ∀ p : Nat, p < 8 → 0 ≤ v p ∧ v p ≤ 20) : ∀ n : Nat, n ≤ 8 → 0 ≤ vsC v s n ∧ vsC v s n ≤ 20 * (n : Int)
  | 0, _ => ⟨Int.le_refl 0, by show (0 : Int) ≤ 20 * ((0 : Nat) : Int); omega⟩
  | n + 1, hn => by
    have := vsC_b (s := s) h n (by omega)
    have := h n (by omega)
    show 0 ≤ vsC v s n + (if fbt s (n : Int) = 0 then 0 else v n) ∧ vsC v s n + (if fbt s (n : Int) = 0 then 0 else v n) ≤ 20 * ((n + 1 : Nat) : Int)
    split <;> omega
theorem vsM_b {t : Nat → Int} {s : Int} (h : ∀ p : Nat, p < 8 → 0 ≤ t (13 + 7 * p) ∧ t (13 + 7 * p) ≤ 20) : ∀ n : Nat, n ≤ 8 → 0 ≤ vsM t s n ∧ vsM t s n ≤ 20 * (n : Int)
  | 0, _ => ⟨Int.le_refl 0, by show (0 : Int) ≤ 20 * ((0 : Nat) : Int); omega⟩
  | n + 1, hn => by
    have := vsM_b (s := s) h n (by omega)
    have := h n (by omega)
    show 0 ≤ vsM t s n + (if fbt s (n : Int) = 0 ∨ t (17 + 7 * n) = 1 then 0 else t (13 + 7 * n)) ∧ vsM t s n + (if fbt s (n : Int) = 0 ∨ t (17 + 7 * n) = 1 then 0 else t (13 + 7 * n)) ≤ 20 * ((n + 1 : Nat) : Int)
    split <;> omega
theorem lv_bit : (List.range 256).all (fun s => (List.range 8).all (fun p => decide (fbt ((s : Nat) : Int) ((p : Nat) : Int) = ((s / 2 ^ p % 2 : Nat) : Int)))) = true := by decide +kernel
section FIV
variable {W : ax_W} {r : Nat} {g : Nat → Nat → Int} {Q : Nat → Nat → (Nat → Nat → Int) → Prop}
theorem sp_ceveryone {n D : Nat} (hn : g 3 4 = (n : Int)) (h8 : n ≤ 8) (hD : g 16 7 = (D : Int)) (hD8 : D < 256) (kq : Q 1 (fI (evB (D : Int) n)) g) : fx W r 0 27 0 [354] [] g Q := by
  have es := sh_all n (by omega)
  have ev := List.all_eq_true.mp (List.all_eq_true.mp ev_all n (List.mem_range.mpr (by omega))) D (List.mem_range.mpr hD8)
  have ev := of_decide_eq_true ev
  have hp : 1 ≤ 2 ^ n ∧ 2 ^ n ≤ 256 := ⟨Nat.one_le_two_pow, by have : 2 ^ n ≤ 2 ^ 8 := Nat.pow_le_pow_right (by decide) h8; exact this⟩
  have e1 : 1 ≤ fop 6 1 (n : Int) ∧ fop 6 1 (n : Int) ≤ 256 := by rw [es]; omega
  refine fx_rg (fun hg => ?_)
  refine fx_ci (1) 1 (by decide +kernel) ?_
  refine fx_la 0 2 (v := 354) (by decide +kernel) rfl (by decide +kernel) ?_
  refine fx_gp 354 44 0 26 5 (by decide +kernel) ?_
  refine fx_gi 26 3 4 8 (by decide +kernel) ?_
  rw [hn]
  refine fx_bin 6 9 (by decide +kernel) rfl (fun h => absurd h (by decide)) ?_
  refine fx_ci (1) 10 (by decide +kernel) ?_
  refine fx_sub 11 (by decide +kernel) rfl ?_
  refine fx_la 0 12 (v := 354) (by decide +kernel) rfl (by decide +kernel) ?_
  refine fx_gp 354 44 1 130 15 (by decide +kernel) ?_
  refine fx_gi 130 16 7 18 (by decide +kernel) ?_
  rw [hD]
  refine fx_ci (-1) 19 (by decide +kernel) ?_
  refine fx_bin 5 20 (by decide +kernel) rfl (fun h => absurd h (by decide)) ?_
  refine fx_bin 3 21 (by decide +kernel) rfl (fun h => absurd h (by decide)) ?_
  refine fx_ret (by decide +kernel) ?_
  rw [ev]
  exact kq
theorem sp_cvotesOf_1 {s : Int} {n : Nat} (hs : fR s) (hn : g 3 4 = (n : Int)) (h8 : n ≤ 8) (hv : ∀ p : Nat, p < 8 → 0 ≤ g 18 p ∧ g 18 p ≤ 20) (kq : Q 1 (fI (vsC (g 18) s n)) g) : ∀ (l p : Nat), p + l = n → fx W r 1 28 4 [354, fI s, fI (vsC (g 18) s p), fI (p : Int)] [] g Q
  | l, p, hl => by
    have hb := vsC_b (s := s) hv p (by omega)
    refine fx_li 3 5 (by decide +kernel) rfl ?_
    refine fx_la 0 6 (v := 354) (by decide +kernel) rfl (by decide +kernel) ?_
    refine fx_gp 354 44 0 26 9 (by decide +kernel) ?_
    refine fx_gi 26 3 4 12 (by decide +kernel) ?_
    rw [hn]
    refine fx_ige 41 15 (by decide +kernel) (by unfold fR; omega) (by first | exact hg 3 4 (by decide) (by decide +kernel) (by decide +kernel) | (unfold fR; omega)) (fun h12 => ?_) (fun h12 => ?_)
    · refine fx_li 2 42 (by decide +kernel) rfl ?_
      refine fx_ret (by decide +kernel) ?_
      have e : p = n := by omega
      subst e
      exact kq
    · refine fx_li 1 16 (by decide +kernel) rfl ?_
      refine fx_li 3 17 (by decide +kernel) rfl ?_
      refine fx_c2 23 22 20 0 [] (f_q22 (by decide +kernel)) (by decide) (fI_n4 _) (fI_n4 _) rfl (by first | decide | omega) ?_
      refine sp_chas (fK1 ?_)
      have h01 := fbt_01 s (p : Int)
      have hv1 := hv p (by omega)
      refine fx_zeq 35 23 (by decide +kernel) (by unfold fR; omega) (fun h20 => ?_) (fun h20 => ?_)
      · refine fx_inc 3 38 (1) (by decide +kernel) rfl (Or.inr (fI_n4 _)) rfl ?_
        dsimp only [List.set]
        refine fx_go 4 (by decide +kernel) ?_
        match l, hl with
        | 0, hl => exfalso; omega
        | l + 1, hl =>
          have e : vsC (g 18) s (p + 1) = vsC (g 18) s p := by
            show vsC (g 18) s p + (if fbt s (p : Int) = 0 then 0 else g 18 p) = _
            rw [if_pos (by omega)]
            omega
          rw [← e]
          exact sp_cvotesOf_1 hs hn h8 hv kq l (p + 1) (by omega)
      · refine fx_li 2 24 (by decide +kernel) rfl ?_
        refine fx_la 0 25 (v := 354) (by decide +kernel) rfl (by decide +kernel) ?_
        refine fx_gp 354 44 1 130 28 (by decide +kernel) ?_
        refine fx_gp 130 16 1 146 31 (by decide +kernel) ?_
        refine fx_li 3 32 (by decide +kernel) rfl ?_
        refine fx_al 146 18 8 33 (by decide +kernel) rfl (by omega) (by omega) rfl ?_
        try simp only [fu_app, fcy_app, Nat.reduceEqDiff, and_true, and_false, false_and, true_and, if_true, if_false, ite_true, ite_false, reduceIte, Int.reduceToNat, fx_simp0]
        rw [show ((p : Int)).toNat = p from rfl]
        refine fx_add 34 (by decide +kernel) rfl ?_
        refine fx_si 2 35 (by decide +kernel) (Or.inr (fI_n4 _)) rfl ?_
        dsimp only [List.set]
        refine fx_inc 3 38 (1) (by decide +kernel) rfl (Or.inr (fI_n4 _)) rfl ?_
        dsimp only [List.set]
        refine fx_go 4 (by decide +kernel) ?_
        match l, hl with
        | 0, hl => exfalso; omega
        | l + 1, hl =>
          have e : vsC (g 18) s (p + 1) = vsC (g 18) s p + g 18 p := by
            show vsC (g 18) s p + (if fbt s (p : Int) = 0 then 0 else g 18 p) = _
            rw [if_neg (by omega)]
          rw [← e]
          exact sp_cvotesOf_1 hs hn h8 hv kq l (p + 1) (by omega)
theorem sp_cvotesOf {s : Int} {n : Nat} (hs : fR s) (hn : g 3 4 = (n : Int)) (h8 : n ≤ 8) (hv : ∀ p : Nat, p < 8 → 0 ≤ g 18 p ∧ g 18 p ≤ 20) (kq : Q 1 (fI (vsC (g 18) s n)) g) : fx W r 1 28 0 [354, fI s, 7, 7] [] g Q := by
  refine fx_ci (0) 1 (by decide +kernel) ?_
  refine fx_si 2 2 (by decide +kernel) (Or.inr (fI_n4 _)) rfl ?_
  dsimp only [List.set]
  refine fx_ci (0) 3 (by decide +kernel) ?_
  refine fx_si 3 4 (by decide +kernel) (Or.inr (fI_n4 _)) rfl ?_
  dsimp only [List.set]
  exact sp_cvotesOf_1 hs hn h8 hv kq n 0 (by omega)
theorem sp_mliving_1 {n : Nat} (hn : g 149 3 = (n : Int)) (h8 : n ≤ 8) (kq : Q 1 (fI ((lvN (g 149) n : Nat) : Int)) g) : ∀ (l p : Nat), p + l = n → fx W r 2 304 4 [1186, fI ((lvN (g 149) p : Nat) : Int), fI (p : Int)] [] g Q
  | l, p, hl => by
    have hb := lvN_lt (g 149) p
    have hb2 : 2 ^ p ≤ 256 := by
      have : 2 ^ p ≤ 2 ^ 8 := Nat.pow_le_pow_right (by decide) (by omega)
      exact this
    refine fx_li 2 5 (by decide +kernel) rfl ?_
    refine fx_la 0 6 (v := 1186) (by decide +kernel) rfl (by decide +kernel) ?_
    refine fx_gp 1186 148 1 1194 9 (by decide +kernel) ?_
    refine fx_ci (3) 10 (by decide +kernel) ?_
    refine fx_al 1194 149 764 11 (by decide +kernel) rfl (by omega) (by omega) rfl ?_
    try simp only [fu_app, fcy_app, Nat.reduceEqDiff, and_true, and_false, false_and, true_and, if_true, if_false, ite_true, ite_false, reduceIte, Int.reduceToNat, fx_simp0]
    rw [hn]
    refine fx_ige 38 14 (by decide +kernel) (by unfold fR; omega) (by unfold fR; omega) (fun h11 => ?_) (fun h11 => ?_)
    · refine fx_li 1 39 (by decide +kernel) rfl ?_
      refine fx_ret (by decide +kernel) ?_
      have e : p = n := by omega
      subst e
      exact kq
    · refine fx_li 1 15 (by decide +kernel) rfl ?_
      refine fx_la 0 16 (v := 1186) (by decide +kernel) rfl (by decide +kernel) ?_
      refine fx_li 2 17 (by decide +kernel) rfl ?_
      refine fx_c2 301 21 20 1 [] (by decide +kernel) (by decide) (by decide) (fI_n4 _) rfl (by first | decide | omega) ?_
      refine sp_misDead (p := p) (by omega) (fun d => fK1 ?_) (fun d => fK1 ?_)
      · refine fx_zeq 27 23 (by decide +kernel) (by unfold fR; omega) (fun hc => absurd hc (by decide)) (fun _ => ?_)
        refine fx_ci (0) 24 (by decide +kernel) ?_
        refine fx_go 30 (by decide +kernel) ?_
        refine fx_bin 4 31 (by decide +kernel) rfl (fun h => absurd h (by decide)) ?_
        have z : fop 4 ((lvN (g 149) p : Nat) : Int) 0 = ((lvN (g 149) p : Nat) : Int) := by
          have q := fop_or_n (a := lvN (g 149) p) (b := 0) (by omega) (by decide)
          rw [Nat.or_zero] at q
          exact q
        rw [z]
        refine fx_si 1 32 (by decide +kernel) (Or.inr (f_n4p (v := 1186) rfl (by decide))) rfl ?_
        dsimp only [List.set]
        refine fx_inc 2 35 (1) (by decide +kernel) rfl (Or.inr (fI_n4 _)) rfl ?_
        dsimp only [List.set]
        refine fx_go 4 (by decide +kernel) ?_
        match l, hl with
        | 0, hl => exfalso; omega
        | l + 1, hl =>
          have e : lvN (g 149) (p + 1) = lvN (g 149) p := by
            show lvN (g 149) p + (if g 149 (17 + 7 * p) = 1 then 0 else 2 ^ p) = _
            rw [if_pos d]
            rfl
          rw [← e]
          exact sp_mliving_1 hn h8 kq l (p + 1) (by omega)
      · refine fx_zeq 27 23 (by decide +kernel) (by unfold fR; omega) (fun _ => ?_) (fun hc => absurd hc (by decide))
        refine fx_ci (1) 28 (by decide +kernel) ?_
        refine fx_li 2 29 (by decide +kernel) rfl ?_
        refine fx_bin 6 30 (by decide +kernel) rfl (fun h => absurd h (by decide)) ?_
        refine fx_bin 4 31 (by decide +kernel) rfl (fun h => absurd h (by decide)) ?_
        have q := of_decide_eq_true (List.all_eq_true.mp (List.all_eq_true.mp or_all p (List.mem_range.mpr (by omega))) (lvN (g 149) p) (List.mem_range.mpr (by omega)))
        rw [q hb]
        refine fx_si 1 32 (by decide +kernel) (Or.inr (f_n4p (v := 1186) rfl (by decide))) rfl ?_
        dsimp only [List.set]
        refine fx_inc 2 35 (1) (by decide +kernel) rfl (Or.inr (fI_n4 _)) rfl ?_
        dsimp only [List.set]
        refine fx_go 4 (by decide +kernel) ?_
        match l, hl with
        | 0, hl => exfalso; omega
        | l + 1, hl =>
          have e : lvN (g 149) (p + 1) = lvN (g 149) p + 2 ^ p := by
            show lvN (g 149) p + (if g 149 (17 + 7 * p) = 1 then 0 else 2 ^ p) = _
            rw [if_neg d]
          rw [← e]
          exact sp_mliving_1 hn h8 kq l (p + 1) (by omega)
theorem sp_mliving {n : Nat} (hn : g 149 3 = (n : Int)) (h8 : n ≤ 8) (kq : Q 1 (fI ((lvN (g 149) n : Nat) : Int)) g) : fx W r 2 304 0 [1186, 7, 7] [] g Q := by
  refine fx_ci (0) 1 (by decide +kernel) ?_
  refine fx_si 1 2 (by decide +kernel) (Or.inr (f_n4p (v := 1186) rfl (by decide))) rfl ?_
  dsimp only [List.set]
  refine fx_ci (0) 3 (by decide +kernel) ?_
  refine fx_si 2 4 (by decide +kernel) (Or.inr (fI_n4 _)) rfl ?_
  dsimp only [List.set]
  exact sp_mliving_1 hn h8 kq n 0 (by omega)
theorem sp_mvotesOf_1 {s : Int} {n : Nat} (hs : fR s) (hn : g 149 3 = (n : Int)) (h8 : n ≤ 8) (hv : ∀ p : Nat, p < 8 → 0 ≤ g 149 (13 + 7 * p) ∧ g 149 (13 + 7 * p) ≤ 20) (kq : Q 1 (fI (vsM (g 149) s n)) g) : ∀ (l p : Nat), p + l = n → fx W r 2 305 4 [1186, fI s, fI (vsM (g 149) s p), fI (p : Int)] [] g Q
  | l, p, hl => by
    have hb := vsM_b (s := s) hv p (by omega)
    refine fx_li 3 5 (by decide +kernel) rfl ?_
    refine fx_la 0 6 (v := 1186) (by decide +kernel) rfl (by decide +kernel) ?_
    refine fx_gp 1186 148 1 1194 9 (by decide +kernel) ?_
    refine fx_ci (3) 10 (by decide +kernel) ?_
    refine fx_al 1194 149 764 11 (by decide +kernel) rfl (by omega) (by omega) rfl ?_
    try simp only [fu_app, fcy_app, Nat.reduceEqDiff, and_true, and_false, false_and, true_and, if_true, if_false, ite_true, ite_false, reduceIte, Int.reduceToNat, fx_simp0]
    rw [hn]
    refine fx_ige 49 14 (by decide +kernel) (by unfold fR; omega) (by unfold fR; omega) (fun h11 => ?_) (fun h11 => ?_)
    · refine fx_li 2 50 (by decide +kernel) rfl ?_
      refine fx_ret (by decide +kernel) ?_
      have e : p = n := by omega
      subst e
      exact kq
    · refine fx_li 2 15 (by decide +kernel) rfl ?_
      refine fx_li 1 16 (by decide +kernel) rfl ?_
      refine fx_li 3 17 (by decide +kernel) rfl ?_
      refine fx_c2 306 22 20 0 [] (f_q22 (by decide +kernel)) (by decide) (fI_n4 _) (fI_n4 _) rfl (by first | decide | omega) ?_
      refine sp_misOf (fK1 ?_)
      have h01 := fbt_01 s (p : Int)
      have hv1 := hv p (by omega)
      refine fx_zeq 40 23 (by decide +kernel) (by unfold fR; omega) (fun h20 => ?_) (fun h20 => ?_)
      · refine fx_ci (0) 41 (by decide +kernel) ?_
        refine fx_add 42 (by decide +kernel) rfl ?_
        refine fx_si 2 43 (by decide +kernel) (Or.inr (fI_n4 _)) rfl ?_
        dsimp only [List.set]
        refine fx_inc 3 46 (1) (by decide +kernel) rfl (Or.inr (fI_n4 _)) rfl ?_
        dsimp only [List.set]
        refine fx_go 4 (by decide +kernel) ?_
        match l, hl with
        | 0, hl => exfalso; omega
        | l + 1, hl =>
          have e : vsM (g 149) s (p + 1) = vsM (g 149) s p + 0 := by
            show vsM (g 149) s p + (if fbt s (p : Int) = 0 ∨ g 149 (17 + 7 * p) = 1 then 0 else g 149 (13 + 7 * p)) = _
            rw [if_pos (Or.inl (by omega))]
          rw [← e]
          exact sp_mvotesOf_1 hs hn h8 hv kq l (p + 1) (by omega)
      · refine fx_la 0 24 (v := 1186) (by decide +kernel) rfl (by decide +kernel) ?_
        refine fx_li 3 25 (by decide +kernel) rfl ?_
        refine fx_c2 301 21 28 1 [] (by decide +kernel) (by decide) (by decide) (fI_n4 _) rfl (by first | decide | omega) ?_
        refine sp_misDead (p := p) (by omega) (fun d => fK1 ?_) (fun d => fK1 ?_)
        · refine fx_zne 40 31 (by decide +kernel) (by unfold fR; omega) (fun _ => ?_) (fun hc => absurd hc (by decide))
          refine fx_ci (0) 41 (by decide +kernel) ?_
          refine fx_add 42 (by decide +kernel) rfl ?_
          refine fx_si 2 43 (by decide +kernel) (Or.inr (fI_n4 _)) rfl ?_
          dsimp only [List.set]
          refine fx_inc 3 46 (1) (by decide +kernel) rfl (Or.inr (fI_n4 _)) rfl ?_
          dsimp only [List.set]
          refine fx_go 4 (by decide +kernel) ?_
          match l, hl with
          | 0, hl => exfalso; omega
          | l + 1, hl =>
            have e : vsM (g 149) s (p + 1) = vsM (g 149) s p + 0 := by
              show vsM (g 149) s p + (if fbt s (p : Int) = 0 ∨ g 149 (17 + 7 * p) = 1 then 0 else g 149 (13 + 7 * p)) = _
              rw [if_pos (Or.inr d)]
            rw [← e]
            exact sp_mvotesOf_1 hs hn h8 hv kq l (p + 1) (by omega)
        · refine fx_zne 40 31 (by decide +kernel) (by unfold fR; omega) (fun hc => absurd hc (by decide)) (fun _ => ?_)
          refine fx_la 0 32 (v := 1186) (by decide +kernel) rfl (by decide +kernel) ?_
          refine fx_li 3 33 (by decide +kernel) rfl ?_
          refine fx_ci (1) 34 (by decide +kernel) ?_
          refine fx_c3 298 21 37 0 [] (by decide +kernel) (by decide) (by decide) (fI_n4 _) (fI_n4 _) rfl (by first | decide | omega) ?_
          refine sp_mof (w := 1) (by omega) (by decide) (fK1 ?_)
          rw [show 12 + 7 * p + 1 = 13 + 7 * p by omega]
          refine fx_go 41 (by decide +kernel) ?_
          refine fx_add 42 (by decide +kernel) rfl ?_
          refine fx_si 2 43 (by decide +kernel) (Or.inr (fI_n4 _)) rfl ?_
          dsimp only [List.set]
          refine fx_inc 3 46 (1) (by decide +kernel) rfl (Or.inr (fI_n4 _)) rfl ?_
          dsimp only [List.set]
          refine fx_go 4 (by decide +kernel) ?_
          match l, hl with
          | 0, hl => exfalso; omega
          | l + 1, hl =>
            have e : vsM (g 149) s (p + 1) = vsM (g 149) s p + g 149 (13 + 7 * p) := by
              show vsM (g 149) s p + (if fbt s (p : Int) = 0 ∨ g 149 (17 + 7 * p) = 1 then 0 else g 149 (13 + 7 * p)) = _
              rw [if_neg (by omega)]
            rw [← e]
            exact sp_mvotesOf_1 hs hn h8 hv kq l (p + 1) (by omega)
theorem sp_mvotesOf {s : Int} {n : Nat} (hs : fR s) (hn : g 149 3 = (n : Int)) (h8 : n ≤ 8) (hv : ∀ p : Nat, p < 8 → 0 ≤ g 149 (13 + 7 * p) ∧ g 149 (13 + 7 * p) ≤ 20) (kq : Q 1 (fI (vsM (g 149) s n)) g) : fx W r 2 305 0 [1186, fI s, 7, 7] [] g Q := by
  refine fx_ci (0) 1 (by decide +kernel) ?_
  refine fx_si 2 2 (by decide +kernel) (Or.inr (fI_n4 _)) rfl ?_
  dsimp only [List.set]
  refine fx_ci (0) 3 (by decide +kernel) ?_
  refine fx_si 3 4 (by decide +kernel) (Or.inr (fI_n4 _)) rfl ?_
  dsimp only [List.set]
  exact sp_mvotesOf_1 hs hn h8 hv kq n 0 (by omega)
end FIV
