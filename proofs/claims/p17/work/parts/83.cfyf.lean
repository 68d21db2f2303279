/-! fx: feed -/
noncomputable def fby (v : Int) (i : Nat) : Int := fop 3 (fop 8 v (24 - 8 * (i : Int))) 255
/-- n bytes behind L of them; their number at jl of cl -/
def ffd (g : Nat → Nat → Int) (cb cl jl L : Nat) (bs : Nat → Int) (n : Nat) : Nat → Nat → Int := fun c j => if c = cb ∧ L ≤ j ∧ j < L + n then bs (j - L) else if c = cl ∧ j = jl then (L + n : Nat) else g c j
theorem ffd_s {g : Nat → Nat → Int} {cb cl jl L n : Nat} {bs : Nat → Int} (h : cb ≠ cl) : fu (fu (ffd g cb cl jl L bs n) cb (L + n) (bs n)) cl jl ((L + n : Nat) + 1 : Int) = ffd g cb cl jl L bs (n + 1) := by
  funext c j
  unfold fu ffd
  by_cases h1 : c = cl ∧ j = jl
  · rw [if_pos h1, if_neg (fun t => h (t.1.symm.trans h1.1)), if_pos h1]
    omega
  · rw [if_neg h1, if_neg h1, if_neg h1]
    by_cases h2 : c = cb ∧ j = L + n
    · rw [if_pos h2, if_pos ⟨h2.1, by omega, by omega⟩, h2.2, show L + n - L = n by omega]
    · rw [if_neg h2]
      by_cases h3 : c = cb ∧ L ≤ j ∧ j < L + n
      · rw [if_pos h3, if_pos ⟨h3.1, by omega, by omega⟩]
      · rw [if_neg h3, if_neg (by omega)]
theorem ffd_l {g : Nat → Nat → Int} {cb cl jl L n : Nat} {bs : Nat → Int} (h : cb ≠ cl) : ffd g cb cl jl L bs n cl jl = (L + n : Nat) := by
  unfold ffd
  rw [if_neg (fun t => h t.1.symm), if_pos ⟨rfl, rfl⟩]
theorem ffd_ne {g : Nat → Nat → Int} {cb cl jl L n c j : Nat} {bs : Nat → Int} (h : c ≠ cb) (h2 : ¬ (c = cl ∧ j = jl)) : ffd g cb cl jl L bs n c j = g c j := by
  unfold ffd
  rw [if_neg (fun t => h t.1), if_neg h2]
theorem ffd_0 {g : Nat → Nat → Int} {cb cl jl L : Nat} {bs : Nat → Int} (h : g cl jl = (L : Nat)) : ffd g cb cl jl L bs 0 = g := by
  funext c j
  unfold ffd
  rw [if_neg (by omega)]
  by_cases h1 : c = cl ∧ j = jl
  · rw [if_pos h1, h1.1, h1.2, h]; rfl
  · rw [if_neg h1]
noncomputable def fbs (a b c d e : Int) (k : Nat) : Int := fby (if k < 4 then a else if k < 8 then b else if k < 12 then c else if k < 16 then d else e) (k % 4)
section FYF
variable {W : ax_W} {r : Nat} {g : Nat → Nat → Int} {Q : Nat → Nat → (Nat → Nat → Int) → Prop}
theorem sp_put_1 {v : Int} {L k : Nat} {bs : Nat → Int} (hv : fR v) (hL : L + k + 4 ≤ 400) (hb : ∀ i, i < 4 → bs (k + i) = fby v i) (kq : Q 0 0 (ffd g 2 1 1 L bs (k + 4))) : ∀ (n i : Nat), i + n = 4 → fx W r 0 15 3 [10, fI v, fI (24 - 8 * (i : Int))] [] (ffd g 2 1 1 L bs (k + i)) Q
  | n, i, hn => by
    have el : ffd g 2 1 1 L bs (k + i) 1 1 = ((L + (k + i) : Nat) : Int) := ffd_l (by decide)
    refine fx_li 2 4 (by decide +kernel) rfl ?_
    refine fx_zlt 49 7 (by decide +kernel) (by unfold fR; omega) (fun h4 => ?_) (fun h4 => ?_)
    · refine fx_vret (by decide +kernel) ?_
      have e : i = 4 := by omega
      subst e
      exact kq
    · refine fx_la 0 8 (v := 10) (by decide +kernel) rfl (by decide +kernel) ?_
      refine fx_gi 10 1 1 11 (by decide +kernel) ?_
      try simp only [fu_app, fcy_app, Nat.reduceEqDiff, and_true, and_false, false_and, true_and, if_true, if_false, ite_true, ite_false, reduceIte, Int.reduceToNat, fx_simp0]
      rw [el]
      refine fx_ci (400) 14 (by decide +kernel) ?_
      refine fx_ige 43 17 (by decide +kernel) (by unfold fR; omega) (by unfold fR; omega) (fun h14 => ?_) (fun h14 => ?_)
      · exfalso; omega
      · refine fx_la 0 18 (v := 10) (by decide +kernel) rfl (by decide +kernel) ?_
        refine fx_gp 10 1 0 18 21 (by decide +kernel) ?_
        refine fx_la 0 22 (v := 10) (by decide +kernel) rfl (by decide +kernel) ?_
        refine fx_gi 10 1 1 25 (by decide +kernel) ?_
        try simp only [fu_app, fcy_app, Nat.reduceEqDiff, and_true, and_false, false_and, true_and, if_true, if_false, ite_true, ite_false, reduceIte, Int.reduceToNat, fx_simp0]
        rw [el]
        refine fx_li 1 26 (by decide +kernel) rfl ?_
        refine fx_li 2 27 (by decide +kernel) rfl ?_
        refine fx_bin 8 28 (by decide +kernel) rfl (fun h => absurd h (by decide)) ?_
        refine fx_ci (255) 31 (by decide +kernel) ?_
        refine fx_bin 3 32 (by decide +kernel) rfl (fun h => absurd h (by decide)) ?_
        refine fx_as 18 2 400 33 (by decide +kernel) rfl (by omega) (by omega) rfl (by first | exact fop_R _ _ _ | (unfold fR; omega)) ?_
        refine fx_la 0 34 (v := 10) (by decide +kernel) rfl (by decide +kernel) ?_
        refine fx_dup 35 (by decide +kernel) rfl (by decide) ?_
        refine fx_gi 10 1 1 38 (by decide +kernel) ?_
        try simp only [fu_app, fcy_app, Nat.reduceEqDiff, and_true, and_false, false_and, true_and, if_true, if_false, ite_true, ite_false, reduceIte, Int.reduceToNat, fx_simp0]
        rw [el]
        refine fx_ci (1) 39 (by decide +kernel) ?_
        refine fx_add 40 (by decide +kernel) rfl ?_
        refine fx_pi 10 1 1 43 (by decide +kernel) (by unfold fR; omega) ?_
        rw [show fop 3 (fop 8 v (24 - 8 * (i : Int))) 255 = bs (k + i) from (hb i (by omega)).symm, show (((L + (k + i) : Nat) : Int)).toNat = L + (k + i) from rfl, ffd_s (by decide)]
        refine fx_inc 2 46 (-8) (by decide +kernel) rfl (Or.inr (fI_n4 _)) rfl ?_
        dsimp only [List.set]
        refine fx_go 3 (by decide +kernel) ?_
        match n, hn with
        | 0, hn => exfalso; omega
        | n + 1, hn =>
          rw [show 24 - 8 * (i : Int) + -8 = 24 - 8 * ((i + 1 : Nat) : Int) by omega]
          exact sp_put_1 hv hL hb kq n (i + 1) (by omega)
theorem sp_tput {v : Int} {L k : Nat} {bs : Nat → Int} (hv : fR v) (hL : L + k + 4 ≤ 400) (hb : ∀ i, i < 4 → bs (k + i) = fby v i) (kq : Q 0 0 (ffd g 2 1 1 L bs (k + 4))) : fx W r 0 15 0 [10, fI v, 7] [] (ffd g 2 1 1 L bs k) Q := by
  refine fx_ci (24) 2 (by decide +kernel) ?_
  refine fx_si 2 3 (by decide +kernel) (Or.inr (fI_n4 _)) rfl ?_
  dsimp only [List.set]
  exact sp_put_1 hv hL hb kq 4 0 rfl
theorem sp_cfeed {a b c d e : Int} {L : Nat} (ra : fR a) (rb : fR b) (rc : fR c) (rd : fR d) (re : fR e) (hl : g 1 1 = (L : Nat)) (hL : L ≤ 400) (k0 : 400 < L + 20 → ∀ v, v % 8 ≠ 4 → Q 1 v g) (k1 : L + 20 ≤ 400 → ∀ v, v % 8 ≠ 4 → Q 1 v (ffd g 2 1 1 L (fbs a b c d e) 20)) : fx W r 1 14 0 [2, fI a, fI b, fI c, fI d, fI e] [] g Q := by
  refine fx_rg (fun hg => ?_)
  refine fx_la 0 1 (v := 2) (by decide +kernel) rfl (by decide +kernel) ?_
  refine fx_gp 2 0 0 10 4 (by decide +kernel) ?_
  refine fx_gi 10 1 1 7 (by decide +kernel) ?_
  rw [hl]
  refine fx_ci (20) 9 (by decide +kernel) ?_
  refine fx_add 10 (by decide +kernel) rfl ?_
  refine fx_ci (400) 13 (by decide +kernel) ?_
  refine fx_ile 18 16 (by decide +kernel) (by unfold fR; omega) (by unfold fR; omega) (fun h13 => ?_) (fun h13 => ?_)
  · rw [← ffd_0 (cb := 2) (bs := fbs a b c d e) hl]
    refine fx_la 0 19 (v := 2) (by decide +kernel) rfl (by decide +kernel) ?_
    refine fx_gp 2 0 0 10 22 (by decide +kernel) ?_
    refine fx_li 1 23 (by decide +kernel) rfl ?_
    refine fx_c2 15 21 26 0 [7] (by decide +kernel) (by decide) (by decide) (fI_n4 _) rfl (by first | decide | omega) ?_
    refine sp_tput (k := 0) ra (by omega) (fun i hi => by unfold fbs; rw [if_pos (by omega), show (0 + i) % 4 = i by omega]) (fK0 ?_)
    refine fx_la 0 27 (v := 2) (by decide +kernel) rfl (by decide +kernel) ?_
    refine fx_gp 2 0 0 10 30 (by decide +kernel) ?_
    refine fx_li 2 31 (by decide +kernel) rfl ?_
    refine fx_c2 15 21 34 0 [7] (by decide +kernel) (by decide) (by decide) (fI_n4 _) rfl (by first | decide | omega) ?_
    refine sp_tput (k := 4) rb (by omega) (fun i hi => by unfold fbs; rw [if_neg (by omega), if_pos (by omega), show (4 + i) % 4 = i by omega]) (fK0 ?_)
    refine fx_la 0 35 (v := 2) (by decide +kernel) rfl (by decide +kernel) ?_
    refine fx_gp 2 0 0 10 38 (by decide +kernel) ?_
    refine fx_li 3 39 (by decide +kernel) rfl ?_
    refine fx_c2 15 21 42 0 [7] (by decide +kernel) (by decide) (by decide) (fI_n4 _) rfl (by first | decide | omega) ?_
    refine sp_tput (k := 8) rc (by omega) (fun i hi => by unfold fbs; rw [if_neg (by omega), if_neg (by omega), if_pos (by omega), show (8 + i) % 4 = i by omega]) (fK0 ?_)
    refine fx_la 0 43 (v := 2) (by decide +kernel) rfl (by decide +kernel) ?_
    refine fx_gp 2 0 0 10 46 (by decide +kernel) ?_
    refine fx_li 4 48 (by decide +kernel) rfl ?_
    refine fx_c2 15 21 51 0 [7] (by decide +kernel) (by decide) (by decide) (fI_n4 _) rfl (by first | decide | omega) ?_
    refine sp_tput (k := 12) rd (by omega) (fun i hi => by unfold fbs; rw [if_neg (by omega), if_neg (by omega), if_neg (by omega), if_pos (by omega), show (12 + i) % 4 = i by omega]) (fK0 ?_)
    refine fx_la 0 52 (v := 2) (by decide +kernel) rfl (by decide +kernel) ?_
    refine fx_gp 2 0 0 10 55 (by decide +kernel) ?_
    refine fx_li 5 57 (by decide +kernel) rfl ?_
    refine fx_c2 15 21 60 0 [7] (by decide +kernel) (by decide) (by decide) (fI_n4 _) rfl (by first | decide | omega) ?_
    refine sp_tput (k := 16) re (by omega) (fun i hi => by unfold fbs; rw [if_neg (by omega), if_neg (by omega), if_neg (by omega), if_neg (by omega), show (16 + i) % 4 = i by omega]) (fK0 ?_)
    refine fx_la 0 61 (v := 2) (by decide +kernel) rfl (by decide +kernel) ?_
    refine fx_gp 2 0 0 10 64 (by decide +kernel) ?_
    refine fx_gi 10 1 1 67 (by decide +kernel) ?_
    try simp only [fu_app, fcy_app, Nat.reduceEqDiff, and_true, and_false, false_and, true_and, if_true, if_false, ite_true, ite_false, reduceIte, Int.reduceToNat, fx_simp0]
    refine fx_ret (by decide +kernel) ?_
    exact k1 (by omega) _ (fI_n4 _)
  · refine fx_ci (-1) 17 (by decide +kernel) ?_
    refine fx_ret (by decide +kernel) ?_
    exact k0 (by omega) _ (fI_n4 _)
theorem fop_rem4 : ∀ k : Nat, k < 20 → fop 10 (k : Int) 4 = ((k % 4 : Nat) : Int) := by decide +kernel
theorem sp_mfeed_1 {a b c d e : Int} {L : Nat} {x7 : Int} (ra : fR a) (rb : fR b) (rc : fR c) (rd : fR d) (re : fR e) (hL : L + 20 ≤ 400) (kq : ∀ v, v % 8 ≠ 4 → Q 1 v (ffd g 153 148 8 L (fbs a b c d e) 20)) : ∀ (n k : Nat) (l7 : Nat), k + n = 20 → l7 % 8 ≠ 4 → fx W r 0 264 23 [1186, fI a, fI b, fI c, fI d, fI e, fI (k : Int), l7] [] (ffd g 153 148 8 L (fbs a b c d e) k) Q
  | n, k, l7, hn, h7 => by
    have el : ffd g 153 148 8 L (fbs a b c d e) k 148 8 = ((L + k : Nat) : Int) := ffd_l (by decide)
    have tail : ∀ v, k < 20 → (if k < 4 then a else if k < 8 then b else if k < 12 then c else if k < 16 then d else e) = v → fx W r 0 264 78 [1186, fI a, fI b, fI c, fI d, fI e, fI (k : Int), fI v] [] (ffd g 153 148 8 L (fbs a b c d e) k) Q := by
      intro v hk hv
      refine fx_la 0 79 (v := 1186) (by decide +kernel) rfl (by decide +kernel) ?_
      refine fx_gp 1186 148 7 1226 82 (by decide +kernel) ?_
      refine fx_la 0 83 (v := 1186) (by decide +kernel) rfl (by decide +kernel) ?_
      refine fx_gi 1186 148 8 86 (by decide +kernel) ?_
      try simp only [fu_app, fcy_app, Nat.reduceEqDiff, and_true, and_false, false_and, true_and, if_true, if_false, ite_true, ite_false, reduceIte, Int.reduceToNat, fx_simp0]
      rw [el]
      refine fx_li 7 88 (by decide +kernel) rfl ?_
      refine fx_ci (24) 90 (by decide +kernel) ?_
      refine fx_ci (8) 92 (by decide +kernel) ?_
      refine fx_li 6 94 (by decide +kernel) rfl ?_
      refine fx_ci (4) 95 (by decide +kernel) ?_
      refine fx_bin 10 96 (by decide +kernel) rfl (fun _ => by decide) ?_
      refine fx_mul 97 (by decide +kernel) rfl ?_
      refine fx_sub 98 (by decide +kernel) rfl ?_
      refine fx_bin 8 99 (by decide +kernel) rfl (fun h => absurd h (by decide)) ?_
      refine fx_ci (255) 102 (by decide +kernel) ?_
      refine fx_bin 3 103 (by decide +kernel) rfl (fun h => absurd h (by decide)) ?_
      rw [fop_rem4 k hk, show fop 3 (fop 8 v (24 - 8 * ((k % 4 : Nat) : Int))) 255 = fbs a b c d e k from by unfold fbs; rw [hv]; rfl]
      have hR : fR (fbs a b c d e k) := fop_R _ _ _
      unfold fR at hR
      refine fx_as 1226 153 400 104 (by decide +kernel) rfl (by omega) (by omega) rfl (by first | exact fop_R _ _ _ | (unfold fR; omega)) ?_
      refine fx_la 0 105 (v := 1186) (by decide +kernel) rfl (by decide +kernel) ?_
      refine fx_dup 106 (by decide +kernel) rfl (by decide) ?_
      refine fx_gi 1186 148 8 109 (by decide +kernel) ?_
      try simp only [fu_app, fcy_app, Nat.reduceEqDiff, and_true, and_false, false_and, true_and, if_true, if_false, ite_true, ite_false, reduceIte, Int.reduceToNat, fx_simp0]
      rw [el]
      refine fx_ci (1) 110 (by decide +kernel) ?_
      refine fx_add 111 (by decide +kernel) rfl ?_
      refine fx_pi 1186 148 8 114 (by decide +kernel) (by unfold fR; omega) ?_
      rw [show (((L + k : Nat) : Int)).toNat = L + k from rfl, ffd_s (by decide)]
      refine fx_inc 6 117 (1) (by decide +kernel) rfl (Or.inr (fI_n4 _)) rfl ?_
      dsimp only [List.set]
      refine fx_go 23 (by decide +kernel) ?_
      match n, hn with
      | 0, hn => exfalso; omega
      | n + 1, hn => exact sp_mfeed_1 (x7 := x7) ra rb rc rd re hL kq n (k + 1) _ (by omega) (fI_n4 _)
    refine fx_li 6 25 (by decide +kernel) rfl ?_
    refine fx_ci (20) 27 (by decide +kernel) ?_
    refine fx_ige 120 30 (by decide +kernel) (by unfold fR; omega) (by unfold fR; omega) (fun h27 => ?_) (fun h27 => ?_)
    · refine fx_la 0 121 (v := 1186) (by decide +kernel) rfl (by decide +kernel) ?_
      refine fx_gi 1186 148 8 124 (by decide +kernel) ?_
      rw [el]
      refine fx_ret (by decide +kernel) ?_
      have e : k = 20 := by omega
      subst e
      exact kq _ (fI_n4 _)
    · refine fx_li 6 32 (by decide +kernel) rfl ?_
      refine fx_ci (4) 33 (by decide +kernel) ?_
      refine fx_ige 40 36 (by decide +kernel) (by unfold fR; omega) (by unfold fR; omega) (fun h33 => ?_) (fun h33 => ?_)
      · refine fx_li 6 42 (by decide +kernel) rfl ?_
        refine fx_ci (8) 44 (by decide +kernel) ?_
        refine fx_ige 51 47 (by decide +kernel) (by unfold fR; omega) (by unfold fR; omega) (fun h44 => ?_) (fun h44 => ?_)
        · refine fx_li 6 53 (by decide +kernel) rfl ?_
          refine fx_ci (12) 55 (by decide +kernel) ?_
          refine fx_ige 62 58 (by decide +kernel) (by unfold fR; omega) (by unfold fR; omega) (fun h55 => ?_) (fun h55 => ?_)
          · refine fx_li 6 64 (by decide +kernel) rfl ?_
            refine fx_ci (16) 66 (by decide +kernel) ?_
            refine fx_ige 74 69 (by decide +kernel) (by unfold fR; omega) (by unfold fR; omega) (fun h66 => ?_) (fun h66 => ?_)
            · refine fx_li 5 76 (by decide +kernel) rfl ?_
              refine fx_si 7 78 (by decide +kernel) (Or.inr (fI_n4 _)) rfl ?_
              dsimp only [List.set]
              exact tail e (by omega) (by rw [if_neg (by omega), if_neg (by omega), if_neg (by omega), if_neg (by omega)])
            · refine fx_li 4 71 (by decide +kernel) rfl ?_
              refine fx_go 76 (by decide +kernel) ?_
              refine fx_si 7 78 (by decide +kernel) (Or.inr (fI_n4 _)) rfl ?_
              dsimp only [List.set]
              exact tail d (by omega) (by rw [if_neg (by omega), if_neg (by omega), if_neg (by omega), if_pos (by omega)])
          · refine fx_li 3 59 (by decide +kernel) rfl ?_
            refine fx_go 76 (by decide +kernel) ?_
            refine fx_si 7 78 (by decide +kernel) (Or.inr (fI_n4 _)) rfl ?_
            dsimp only [List.set]
            exact tail c (by omega) (by rw [if_neg (by omega), if_neg (by omega), if_pos (by omega)])
        · refine fx_li 2 48 (by decide +kernel) rfl ?_
          refine fx_go 76 (by decide +kernel) ?_
          refine fx_si 7 78 (by decide +kernel) (Or.inr (fI_n4 _)) rfl ?_
          dsimp only [List.set]
          exact tail b (by omega) (by rw [if_neg (by omega), if_pos (by omega)])
      · refine fx_li 1 37 (by decide +kernel) rfl ?_
        refine fx_go 76 (by decide +kernel) ?_
        refine fx_si 7 78 (by decide +kernel) (Or.inr (fI_n4 _)) rfl ?_
        dsimp only [List.set]
        exact tail a (by omega) (by rw [if_pos (by omega)])
theorem sp_mfeed {a b c d e : Int} {L : Nat} (ra : fR a) (rb : fR b) (rc : fR c) (rd : fR d) (re : fR e) (hl : g 148 8 = (L : Nat)) (hL : L ≤ 400) (k0 : 400 < L + 20 → ∀ v, v % 8 ≠ 4 → Q 1 v (fu g 148 0 0)) (k1 : L + 20 ≤ 400 → ∀ v, v % 8 ≠ 4 → Q 1 v (ffd (fu g 148 0 0) 153 148 8 L (fbs a b c d e) 20)) : fx W r 0 264 0 [1186, fI a, fI b, fI c, fI d, fI e, 7, 7] [] g Q := by
  refine fx_rg (fun hg => ?_)
  refine fx_la 0 1 (v := 1186) (by decide +kernel) rfl (by decide +kernel) ?_
  refine fx_ci (0) 2 (by decide +kernel) ?_
  refine fx_pi 1186 148 0 5 (by decide +kernel) (by unfold fR; omega) ?_
  refine fx_la 0 6 (v := 1186) (by decide +kernel) rfl (by decide +kernel) ?_
  refine fx_gi 1186 148 8 9 (by decide +kernel) ?_
  try simp only [fu_app, fcy_app, Nat.reduceEqDiff, and_true, and_false, false_and, true_and, if_true, if_false, ite_true, ite_false, reduceIte, Int.reduceToNat, fx_simp0]
  rw [hl]
  refine fx_ci (20) 11 (by decide +kernel) ?_
  refine fx_add 12 (by decide +kernel) rfl ?_
  refine fx_ci (400) 15 (by decide +kernel) ?_
  refine fx_ile 20 18 (by decide +kernel) (by unfold fR; omega) (by unfold fR; omega) (fun h15 => ?_) (fun h15 => ?_)
  · refine fx_ci (0) 21 (by decide +kernel) ?_
    refine fx_si 6 23 (by decide +kernel) (Or.inr (fI_n4 _)) rfl ?_
    dsimp only [List.set]
    have st := sp_mfeed_1 (W := W) (r := r) (x7 := 0) ra rb rc rd re (by omega) (k1 (by omega)) 20 0 7 rfl (by decide)
    rw [ffd_0 (by rw [fu_nj (by decide)]; exact hl)] at st
    exact st
  · refine fx_ci (-1) 19 (by decide +kernel) ?_
    refine fx_ret (by decide +kernel) ?_
    exact k0 (by omega) _ (fI_n4 _)
end FYF
