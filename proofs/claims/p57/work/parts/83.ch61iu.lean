/-! fx: the log, asked on both sides -/
section FIU
variable {W : ax_W} {r : Nat} {g : Nat → Nat → Int} {Q : Nat → Nat → (Nat → Nat → Int) → Prop}
theorem sp_wg_log {a b : Int} {P : Nat → Nat → (Nat → Nat → Int) → Prop} (hl : 1 ≤ W.lim) (h : fx (fWl W 0) 1 1 261 0 [2, fI a, fI b] [] g P) (k : ∀ kd v g', P kd v g' → (kd = 1 ∧ ∃ z, v = fI z ∧ fR z ∧ Q 1 (fI 0) (fu g' 159 0 ((fJ z - 4 : Nat) : Int))) ∨ (kd = 5 ∧ Q 1 (fI 1) g')) : fx W 1 2 260 0 [2, fI a, fI b, 1274, 7] [] g Q := by
  refine fx_la 3 1 (v := 1274) (by decide +kernel) rfl (by decide +kernel) ?_
  refine fx_ci (0) 2 (by decide +kernel) ?_
  refine fx_la 0 3 (v := 2) (by decide +kernel) rfl (by decide +kernel) ?_
  refine fx_li 1 4 (by decide +kernel) rfl ?_
  refine fx_li 2 5 (by decide +kernel) rfl ?_
  obtain ⟨e1, e2⟩ := f_qm_ok (W := W) (L := [2, fI a, fI b, 1274, 7]) (g := g) (S := [fI b, fI a, 2, fI 0, 1274]) (rest := [fI 0, 1274]) (mi := 260) (pc := 5) (mj := 261) (n := 3) (op := 21) (a := 2) (av' := [fI a, fI b]) (by decide +kernel) (by decide +kernel) (fun K => rfl) (fun t => absurd t (by decide))
  refine fx_callH (l := 0) (r := 0) (by omega) e1 e2 (by decide +kernel) (dj := 1) (by decide) (by decide +kernel) (pc' := 8) rfl (Lj := [2, fI a, fI b]) (f_xp (f_n4_3 (by decide)) (show 3 ≤ _ by decide +kernel)) ?_
  refine h.mono (fun kd v g' hp => ?_)
  rcases k kd v g' hp with ⟨rfl, z, rfl, rz, q⟩ | ⟨rfl, q⟩
  · refine fKH1 ?_
    refine fx_i2l 9 (by decide +kernel) rfl ?_
    refine fx_las 1274 159 1 10 (by decide +kernel) rfl (by omega) (by omega) (by decide +kernel) (fJ_ok _).1 (fJ_ok _).2 ?_
    exact fx_go 17 (by decide +kernel) (fx_ci 0 18 (by decide +kernel) (fx_ret (by decide +kernel) q))
  · refine fKH2 3 15 4 (by decide +kernel) (Or.inr (f_n4p (v := 1274) rfl (by decide))) rfl ?_
    dsimp only [List.set]
    exact fx_ci 1 16 (by decide +kernel) (fx_ret (by decide +kernel) q)
theorem sp_clogged {a b : Int} {t : Nat → Int} (ha : fR a) (hb0 : 0 ≤ b) (hb1 : b ≤ 3) (hL : RLg 16 g t) (k1 : ¬ (0 ≤ a ∧ a < t 10) → Q 1 (fI (-2)) g) (k2 : ∀ n : Nat, a = n → (n : Int) < t 10 → Q 1 (fI (t (124 + 4 * n + b.toNat))) g) : fx W r 0 258 0 [130, fI a, fI b, 7] [] g Q := by
  obtain ⟨l5, l6, l7, l8, l9, l10⟩ := hL
  have ha2 := ha
  unfold fR at ha2
  refine fx_rg (fun hg => ?_)
  refine fx_li 1 1 (by decide +kernel) rfl ?_
  refine fx_zlt 12 4 (by decide +kernel) (by unfold fR; omega) (fun h1 => ?_) (fun h1 => ?_)
  · refine fx_ci (-2) 14 (by decide +kernel) ?_
    refine fx_ret (by decide +kernel) ?_
    exact k1 (by omega)
  · refine fx_li 1 5 (by decide +kernel) rfl ?_
    refine fx_la 0 6 (v := 130) (by decide +kernel) rfl (by decide +kernel) ?_
    refine fx_gi 130 16 6 9 (by decide +kernel) ?_
    rw [l7]
    refine fx_ilt 15 12 (by decide +kernel) (by unfold fR; omega) (by first | exact hg 16 6 (by decide) (by decide +kernel) (by decide +kernel) | (unfold fR; omega)) (fun h9 => ?_) (fun h9 => ?_)
    · refine fx_la 0 16 (v := 130) (by decide +kernel) rfl (by decide +kernel) ?_
      refine fx_gp 130 16 4 170 19 (by decide +kernel) ?_
      refine fx_la 0 20 (v := 130) (by decide +kernel) rfl (by decide +kernel) ?_
      refine fx_gi 130 16 5 23 (by decide +kernel) ?_
      refine fx_ci (60) 25 (by decide +kernel) ?_
      refine fx_add 26 (by decide +kernel) rfl ?_
      refine fx_li 1 27 (by decide +kernel) rfl ?_
      refine fx_sub 28 (by decide +kernel) rfl ?_
      refine fx_ci (60) 30 (by decide +kernel) ?_
      refine fx_bin 10 31 (by decide +kernel) rfl (fun _ => by decide) ?_
      obtain ⟨n, rfl⟩ := Int.eq_ofNat_of_zero_le (show 0 ≤ a by omega)
      obtain ⟨e, n0, p0, q0, w0⟩ := l10 n (by omega)
      have k2 := k2 n rfl (by omega)
      have er : fop 10 (g 16 5 + 60 - (n : Int)) 60 = ((((g 16 5).toNat + 60 - n) % 60 : Nat) : Int) := by
        have := fop_rem60 ((g 16 5).toNat + 60 - n) (by omega)
        rw [show (((g 16 5).toNat + 60 - n : Nat) : Int) = g 16 5 + 60 - (n : Int) by omega] at this
        exact this
      rw [er]
      refine fx_al 170 21 60 32 (by decide +kernel) rfl (by omega) (by omega) rfl ?_
      rw [show ((((g 16 5).toNat + 60 - n) % 60 : Nat) : Int).toNat = ((g 16 5).toNat + 60 - n) % 60 from rfl]
      rw [e]
      obtain ⟨f1, f2, f3, f4⟩ := pkL_n n0.1 n0.2 p0.1 p0.2 q0.1 q0.2 w0.1 w0.2
      refine fx_si 3 33 (by decide +kernel) (Or.inr (fI_n4 _)) rfl ?_
      dsimp only [List.set]
      refine fx_li 2 34 (by decide +kernel) rfl ?_
      rcases (by omega : b = 0 ∨ b = 1 ∨ b = 2 ∨ b = 3) with rfl | rfl | rfl | rfl
      · refine fx_swk 4 (n := 0) (t := 60) (by decide +kernel) (by decide) (by decide +kernel) ?_
        rw [show 124 + 4 * n + (0 : Int).toNat = 124 + 4 * n by have z : (0 : Int).toNat = 0 := rfl; omega] at k2
        refine fx_li 3 61 (by decide +kernel) rfl ?_
        refine fx_ci (8) 63 (by decide +kernel) ?_
        refine fx_bin 7 64 (by decide +kernel) rfl (fun h => absurd h (by decide)) ?_
        refine fx_ret (by decide +kernel) ?_
        rw [f1]
        exact k2
      · refine fx_swk 4 (n := 1) (t := 65) (by decide +kernel) (by decide) (by decide +kernel) ?_
        rw [show 124 + 4 * n + (1 : Int).toNat = 125 + 4 * n by have z : (1 : Int).toNat = 1 := rfl; omega] at k2
        refine fx_li 3 66 (by decide +kernel) rfl ?_
        refine fx_ci (5) 67 (by decide +kernel) ?_
        refine fx_bin 7 68 (by decide +kernel) rfl (fun h => absurd h (by decide)) ?_
        refine fx_ci (7) 70 (by decide +kernel) ?_
        refine fx_bin 3 71 (by decide +kernel) rfl (fun h => absurd h (by decide)) ?_
        refine fx_ret (by decide +kernel) ?_
        rw [f2]
        exact k2
      · refine fx_swk 4 (n := 2) (t := 72) (by decide +kernel) (by decide) (by decide +kernel) ?_
        rw [show 124 + 4 * n + (2 : Int).toNat = 126 + 4 * n by have z : (2 : Int).toNat = 2 := rfl; omega] at k2
        refine fx_li 3 73 (by decide +kernel) rfl ?_
        refine fx_ci (3) 74 (by decide +kernel) ?_
        refine fx_bin 7 75 (by decide +kernel) rfl (fun h => absurd h (by decide)) ?_
        refine fx_ci (3) 76 (by decide +kernel) ?_
        refine fx_bin 3 77 (by decide +kernel) rfl (fun h => absurd h (by decide)) ?_
        refine fx_ret (by decide +kernel) ?_
        rw [f3]
        exact k2
      · refine fx_swk 4 (n := 3) (t := 78) (by decide +kernel) (by decide) (by decide +kernel) ?_
        rw [show 124 + 4 * n + (3 : Int).toNat = 127 + 4 * n by have z : (3 : Int).toNat = 3 := rfl; omega] at k2
        refine fx_li 3 79 (by decide +kernel) rfl ?_
        refine fx_ci (7) 81 (by decide +kernel) ?_
        refine fx_bin 3 82 (by decide +kernel) rfl (fun h => absurd h (by decide)) ?_
        refine fx_ret (by decide +kernel) ?_
        rw [f4]
        exact k2
    · refine fx_ci (-2) 14 (by decide +kernel) ?_
      refine fx_ret (by decide +kernel) ?_
      exact k1 (by omega)
theorem sp_clog {a b : Int} {t : Nat → Int} (hr : 1 ≤ r) (ha : fR a) (hb : fR b) (hL : RLg 16 g t) (k0 : ¬ (0 ≤ b ∧ b ≤ 3) → Q 5 0 g) (k1 : 0 ≤ b ∧ b ≤ 3 → ¬ (0 ≤ a ∧ a < t 10) → Q 1 (fI (-2)) g) (k2 : 0 ≤ b ∧ b ≤ 3 → ∀ n : Nat, a = n → (n : Int) < t 10 → Q 1 (fI (t (124 + 4 * n + b.toNat))) g) : fx W r 1 261 0 [2, fI a, fI b] [] g Q := by
  have hb2 := hb
  unfold fR at hb2
  refine fx_li 2 1 (by decide +kernel) rfl ?_
  refine fx_zlt 9 4 (by decide +kernel) (by unfold fR; omega) (fun h1 => ?_) (fun h1 => ?_)
  · refine fx_throw 3 (by decide +kernel) rfl (by omega) ?_
    exact k0 (by omega)
  · refine fx_li 2 5 (by decide +kernel) rfl ?_
    refine fx_ci (3) 6 (by decide +kernel) ?_
    refine fx_ile 20 9 (by decide +kernel) (by unfold fR; omega) (by unfold fR; omega) (fun h6 => ?_) (fun h6 => ?_)
    · refine fx_la 0 21 (v := 2) (by decide +kernel) rfl (by decide +kernel) ?_
      refine fx_gp 2 0 3 130 24 (by decide +kernel) ?_
      refine fx_li 1 25 (by decide +kernel) rfl ?_
      refine fx_li 2 26 (by decide +kernel) rfl ?_
      refine fx_c3 258 21 29 0 [7] (by decide +kernel) (by decide) (by decide) (fI_n4 _) (fI_n4 _) rfl (by first | decide | omega) ?_
      refine sp_clogged ha (by omega) (by omega) hL (fun q => fK1 ?_) (fun n q1 q2 => fK1 ?_)
      · refine fx_ret (by decide +kernel) ?_
        exact k1 (by omega) q
      · refine fx_ret (by decide +kernel) ?_
        exact k2 (by omega) n q1 q2
    · refine fx_throw 3 (by decide +kernel) rfl (by omega) ?_
      exact k0 (by omega)
theorem sp_mlogged {b : Int} {n : Nat} (hn : n < 60) (hb0 : 0 ≤ b) (hb1 : b ≤ 3) (k2 : Q 1 (fI (g 149 (124 + 4 * n + b.toNat))) g) : fx W r 0 405 0 [1186, fI (n : Int), fI b] [] g Q := by
  refine fx_rg (fun hg => ?_)
  have hv := hgA hg 764 (c := 149) (j := 124 + 4 * n + b.toNat) (by decide +kernel) (by omega)
  refine fx_la 0 1 (v := 1186) (by decide +kernel) rfl (by decide +kernel) ?_
  refine fx_gp 1186 148 1 1194 4 (by decide +kernel) ?_
  refine fx_ci (124) 6 (by decide +kernel) ?_
  refine fx_ci (4) 7 (by decide +kernel) ?_
  refine fx_li 1 8 (by decide +kernel) rfl ?_
  refine fx_mul 9 (by decide +kernel) rfl ?_
  refine fx_add 10 (by decide +kernel) rfl ?_
  refine fx_li 2 11 (by decide +kernel) rfl ?_
  refine fx_add 12 (by decide +kernel) rfl ?_
  refine fx_al 1194 149 764 13 (by decide +kernel) rfl (by omega) (by omega) rfl ?_
  rw [show (124 + 4 * (n : Int) + b).toNat = 124 + 4 * n + b.toNat by omega]
  refine fx_ret (by decide +kernel) ?_
  exact k2
theorem sp_mlog {a b : Int} (ha : fR a) (hb : fR b) (h0 : 0 ≤ g 149 10) (h1 : g 149 10 ≤ 60) (k0 : ¬ (0 ≤ b ∧ b ≤ 3) → Q 1 (fI 0) (fu g 148 0 1)) (k1 : 0 ≤ b ∧ b ≤ 3 → ¬ (0 ≤ a ∧ a < g 149 10) → Q 1 (fI (-2)) (fu g 148 0 0)) (k2 : 0 ≤ b ∧ b ≤ 3 → ∀ n : Nat, a = n → (n : Int) < g 149 10 → Q 1 (fI (g 149 (124 + 4 * n + b.toNat))) (fu g 148 0 0)) : fx W r 1 406 0 [1186, fI a, fI b] [] g Q := by
  refine fx_rg (fun hg => ?_)
  refine fx_la 0 1 (v := 1186) (by decide +kernel) rfl (by decide +kernel) ?_
  refine fx_li 2 2 (by decide +kernel) rfl ?_
  refine fx_ci (0) 3 (by decide +kernel) ?_
  refine fx_ci (3) 4 (by decide +kernel) ?_
  refine fx_c3 266 22 7 0 [] (f_q22 (by decide +kernel)) (by decide) (fI_n4 _) (fI_n4 _) (fI_n4 _) rfl (by first | decide | omega) ?_
  refine sp_isIn hb (by unfold fR; omega) (by unfold fR; omega) (fun t => fK1 ?_) (fun t => fK1 ?_)
  · refine fx_zne 14 10 (by decide +kernel) (by unfold fR; omega) (fun _ => ?_) (fun hc => absurd hc (by decide))
    refine fx_ci (0) 15 (by decide +kernel) ?_
    refine fx_pi 1186 148 0 18 (by decide +kernel) (by unfold fR; omega) ?_
    refine fx_la 0 19 (v := 1186) (by decide +kernel) rfl (by decide +kernel) ?_
    refine fx_gi 1186 148 0 22 (by decide +kernel) ?_
    try simp only [fu_app, fcy_app, Nat.reduceEqDiff, and_true, and_false, false_and, true_and, if_true, if_false, ite_true, ite_false, reduceIte, Int.reduceToNat, fx_simp0]
    refine fx_zle 27 25 (by decide +kernel) (by unfold fR; omega) (fun h22 => ?_) (fun h22 => ?_)
    · refine fx_li 1 28 (by decide +kernel) rfl ?_
      refine fx_ci (0) 29 (by decide +kernel) ?_
      refine fx_la 0 30 (v := 1186) (by decide +kernel) rfl (by decide +kernel) ?_
      refine fx_gp 1186 148 1 1194 33 (by decide +kernel) ?_
      refine fx_ci (10) 35 (by decide +kernel) ?_
      refine fx_al 1194 149 764 36 (by decide +kernel) rfl (by omega) (by omega) rfl ?_
      try simp only [fu_app, fcy_app, Nat.reduceEqDiff, and_true, and_false, false_and, true_and, if_true, if_false, ite_true, ite_false, reduceIte, Int.reduceToNat, fx_simp0]
      refine fx_ci (1) 37 (by decide +kernel) ?_
      refine fx_sub 38 (by decide +kernel) rfl ?_
      refine fx_c3 266 22 41 0 [] (f_q22 (by decide +kernel)) (by decide) (fI_n4 _) (fI_n4 _) (fI_n4 _) rfl (by first | decide | omega) ?_
      refine sp_isIn ha (by unfold fR; omega) (by unfold fR; omega) (fun t2 => fK1 ?_) (fun t2 => fK1 ?_)
      · refine fx_zeq 53 44 (by decide +kernel) (by unfold fR; omega) (fun hc => absurd hc (by decide)) (fun _ => ?_)
        refine fx_la 0 45 (v := 1186) (by decide +kernel) rfl (by decide +kernel) ?_
        refine fx_li 1 46 (by decide +kernel) rfl ?_
        refine fx_li 2 47 (by decide +kernel) rfl ?_
        obtain ⟨n, rfl⟩ := Int.eq_ofNat_of_zero_le (show 0 ≤ a by omega)
        refine fx_c3 405 21 50 0 [] (by decide +kernel) (by decide) (by decide) (fI_n4 _) (fI_n4 _) rfl (by first | decide | omega) ?_
        refine sp_mlogged (by omega) t.1 t.2 (fK1 ?_)
        rw [fu_nc (by decide)]
        refine fx_go 55 (by decide +kernel) ?_
        refine fx_ret (by decide +kernel) ?_
        exact k2 t n rfl (by omega)
      · refine fx_zeq 53 44 (by decide +kernel) (by unfold fR; omega) (fun _ => ?_) (fun hc => absurd hc (by decide))
        refine fx_ci (-2) 55 (by decide +kernel) ?_
        refine fx_ret (by decide +kernel) ?_
        exact k1 t (by omega)
    · exfalso; omega
  · refine fx_zne 14 10 (by decide +kernel) (by unfold fR; omega) (fun hc => absurd hc (by decide)) (fun _ => ?_)
    refine fx_ci (1) 11 (by decide +kernel) ?_
    refine fx_go 15 (by decide +kernel) ?_
    refine fx_pi 1186 148 0 18 (by decide +kernel) (by unfold fR; omega) ?_
    refine fx_la 0 19 (v := 1186) (by decide +kernel) rfl (by decide +kernel) ?_
    refine fx_gi 1186 148 0 22 (by decide +kernel) ?_
    try simp only [fu_app, fcy_app, Nat.reduceEqDiff, and_true, and_false, false_and, true_and, if_true, if_false, ite_true, ite_false, reduceIte, Int.reduceToNat, fx_simp0]
    refine fx_zle 27 25 (by decide +kernel) (by unfold fR; omega) (fun h22 => ?_) (fun h22 => ?_)
    · exfalso; omega
    · refine fx_ci (0) 26 (by decide +kernel) ?_
      refine fx_ret (by decide +kernel) ?_
      exact k0 t
def HM_log (g : Nat → Nat → Int) (a b zc : Int) (g1 : Nat → Nat → Int) : Prop := (zc = 1 ∧ ¬ (0 ≤ b ∧ b ≤ 3) ∧ g1 = g) ∨ (zc = 0 ∧ (0 ≤ b ∧ b ≤ 3) ∧ ∃ z : Int, fR z ∧ ((¬ (0 ≤ a ∧ a < g 149 10) ∧ z = -2) ∨ (∃ n : Nat, a = n ∧ (n : Int) < g 149 10 ∧ z = g 149 (124 + 4 * n + b.toNat))) ∧ g1 = fu g 159 0 ((fJ z - 4 : Nat) : Int))
theorem sp_w_log {a b : Int} (hl : 1 ≤ W.lim) (ha : fR a) (hb : fR b) (hi : LI g) (hB : LB2 g) : fx W 1 2 260 0 [2, fI a, fI b, 1274, 7] [] g (fun k v g1 => k = 1 ∧ ∃ zc, v = fI zc ∧ 0 ≤ zc ∧ zc ≤ 3 ∧ HM_log g a b zc g1) := by
  have hL := hi.1.2.2.1.2
  refine fx_rg (fun hg => ?_)
  refine sp_wg_log (P := fun kd v g1 => (kd = 5 ∧ v = 0 ∧ ¬ (0 ≤ b ∧ b ≤ 3) ∧ g1 = g) ∨ (kd = 1 ∧ (0 ≤ b ∧ b ≤ 3) ∧ g1 = g ∧ ∃ z : Int, v = fI z ∧ fR z ∧ ((¬ (0 ≤ a ∧ a < g 149 10) ∧ z = -2) ∨ (∃ n : Nat, a = n ∧ (n : Int) < g 149 10 ∧ z = g 149 (124 + 4 * n + b.toNat))))) hl ?_ (fun kd v g1 hp => ?_)
  · exact sp_clog (t := g 149) (Nat.le_refl 1) ha hb hL (fun t => Or.inl ⟨rfl, rfl, t, rfl⟩) (fun t u => Or.inr ⟨rfl, t, rfl, -2, rfl, by unfold fR; omega, Or.inl ⟨u, rfl⟩⟩) (fun t n q1 q2 => Or.inr ⟨rfl, t, rfl, _, rfl, hgA hg 764 (c := 149) (by decide +kernel) (by have := hL.2.2.2.2.1; omega), Or.inr ⟨n, q1, q2, rfl⟩⟩)
  · rcases hp with ⟨rfl, rfl, t, rfl⟩ | ⟨rfl, t, rfl, z, rfl, rz, q⟩
    · exact Or.inr ⟨rfl, rfl, 1, rfl, by decide, by decide, Or.inl ⟨rfl, t, rfl⟩⟩
    · exact Or.inl ⟨rfl, z, rfl, rz, rfl, 0, rfl, by decide, by decide, Or.inr ⟨rfl, t, z, rz, q, rfl⟩⟩
theorem sp_r_log {a b zc : Int} {g1 : Nat → Nat → Int} (ha : fR a) (hb : fR b) (hi : LI g) (hB : LB2 g) (hm : HM_log g a b zc g1) : fx W r 1 406 0 [1186, fI a, fI b] [] g1 (PMa g1 zc) := by
  have hL := hi.1.2.2.1.2
  have em : g1 149 = g 149 := by
    funext j
    rcases hm with ⟨-, -, rfl⟩ | ⟨-, -, z, -, -, rfl⟩
    · rfl
    · exact fu_nc (by decide)
  have fin : ∀ z z2 : Int, fR z → z2 = z → LI g → LI (fu (fu g 159 0 ((fJ z - 4 : Nat) : Int)) 148 0 0) ∧ fu (fu g 159 0 ((fJ z - 4 : Nat) : Int)) 148 0 0 148 0 = 0 := fun z z2 _ _ h => ⟨LI_th (LI_out h), fu_eq _ _ _ _⟩
  refine sp_mlog ha hb (by rw [em]; exact hL.2.2.2.1) (by rw [em]; exact hL.2.2.2.2.1) ?_ ?_ ?_
  all_goals try rw [em]
  · intro t
    rcases hm with ⟨rfl, -, rfl⟩ | ⟨-, u, -⟩
    · exact PMa_no hi (by decide)
    · exact absurd u t
  · intro t u
    rcases hm with ⟨-, t2, -⟩ | ⟨rfl, -, z, rz, q, rfl⟩
    · exact absurd t t2
    · have ez : z = -2 := by
        rcases q with ⟨-, q⟩ | ⟨n, q1, q2, -⟩
        · exact q
        · exact absurd ⟨by omega, by omega⟩ u
      exact ⟨rfl, z, by rw [ez], rz, (fin z z rz rfl hi).1, fu_eq _ _ _ _, fun _ => fu_eq _ _ _ _, fu_nc (by decide)⟩
  · intro t n q1 q2
    rcases hm with ⟨-, t2, -⟩ | ⟨rfl, -, z, rz, q, rfl⟩
    · exact absurd t t2
    · have ez : z = g 149 (124 + 4 * n + b.toNat) := by
        rcases q with ⟨u, -⟩ | ⟨n', r1, r2, e⟩
        · exact absurd ⟨by omega, by omega⟩ u
        · have nn : n' = n := by omega
          rw [e, nn]
      exact ⟨rfl, z, by rw [ez], rz, (fin z z rz rfl hi).1, fu_eq _ _ _ _, fun _ => fu_eq _ _ _ _, fu_nc (by decide)⟩
end FIU
