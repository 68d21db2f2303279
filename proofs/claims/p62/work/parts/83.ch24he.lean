/-! joined: 83.ch24he 83.ch25hf -/
section
/-! fx: the class's log -/
/-- the log of the table at cell b -/
def RLg (b : Nat) (g : Nat → Nat → Int) (t : Nat → Int) : Prop := 0 ≤ g b 5 ∧ g b 5 < 60 ∧ g b 6 = t 10 ∧ 0 ≤ t 10 ∧ t 10 ≤ 60 ∧ ∀ a : Nat, (a : Int) < t 10 → g (b + 5) (((g b 5).toNat + 60 - a) % 60) = pkL (t (124 + 4 * a)) (t (125 + 4 * a)) (t (126 + 4 * a)) (t (127 + 4 * a)) ∧ (0 ≤ t (124 + 4 * a) ∧ t (124 + 4 * a) ≤ 9999) ∧ (0 ≤ t (125 + 4 * a) ∧ t (125 + 4 * a) ≤ 7) ∧ (0 ≤ t (126 + 4 * a) ∧ t (126 + 4 * a) ≤ 3) ∧ 0 ≤ t (127 + 4 * a) ∧ t (127 + 4 * a) ≤ 7
def cNote (b : Nat) (g : Nat → Nat → Int) (p k w : Int) : Nat → Nat → Int := fu (fu (fu g b 5 ((g b 5 + 1) % 60)) (b + 5) ((g b 5 + 1) % 60).toNat (pkL (g b 9) p k w)) b 6 (if g b 6 < 60 then g b 6 + 1 else g b 6)
theorem cNote_ne {b : Nat} {g : Nat → Nat → Int} {p k w : Int} {c j : Nat} (h1 : ¬ (c = b ∧ (j = 5 ∨ j = 6))) (h2 : c ≠ b + 5) : cNote b g p k w c j = g c j := by
  unfold cNote
  rw [fu_ne (by omega), fu_nc h2, fu_ne (by omega)]
theorem RLg_note {b : Nat} {g : Nat → Nat → Int} {t : Nat → Int} {p k w : Int} (h : RLg b g t) (hn : g b 9 = t 9) (n0 : 0 ≤ t 9) (n1 : t 9 ≤ 9999) (p0 : 0 ≤ p) (p1 : p ≤ 7) (k0 : 0 ≤ k) (k1 : k ≤ 3) (w0 : 0 ≤ w) (w1 : w ≤ 7) : RLg b (cNote b g p k w) (tNote t p k w) := by
  obtain ⟨a1, a2, a3, a4, a5, a6⟩ := h
  have e5 : cNote b g p k w b 5 = (g b 5 + 1) % 60 := by unfold cNote; rw [fu_nj (by decide), fu_nc (by omega), fu_eq]
  have e6 : cNote b g p k w b 6 = (if g b 6 < 60 then g b 6 + 1 else g b 6) := by unfold cNote; rw [fu_eq]
  have t10 : tNote t p k w 10 = (if 60 < t 10 + 1 then 60 else t 10 + 1) := if_pos rfl
  have er : ∀ j, cNote b g p k w (b + 5) j = if j = ((g b 5 + 1) % 60).toNat then pkL (g b 9) p k w else g (b + 5) j := fun j => by
    unfold cNote
    rw [fu_nc (by omega)]
    by_cases e : j = ((g b 5 + 1) % 60).toNat
    · rw [if_pos e, e, fu_eq]
    · rw [if_neg e, fu_nj e, fu_nc (by omega)]
  have hx : (if g b 6 < 60 then g b 6 + 1 else g b 6) = (if 60 < t 10 + 1 then 60 else t 10 + 1) := by
    rw [a3]
    by_cases e : t 10 < 60
    · rw [if_pos e, if_neg (by omega)]
    · rw [if_neg e, if_pos (by omega)]; omega
  refine ⟨by rw [e5]; omega, by rw [e5]; omega, by rw [e6, t10, hx], ?_, ?_, fun a ha => ?_⟩
  · rw [t10]; split <;> omega
  · rw [t10]; split <;> omega
  · rw [t10] at ha
    have ha : (a : Int) < t 10 + 1 ∧ a < 60 := by split at ha <;> omega
    rw [e5, er]
    cases a with
    | zero =>
      rw [if_pos (by omega), hn]
      refine ⟨rfl, ⟨n0, n1⟩, ⟨p0, p1⟩, ⟨k0, k1⟩, w0, w1⟩
    | succ a =>
      have sh : ∀ q, q < 4 → tNote t p k w (124 + 4 * (a + 1) + q) = t (124 + 4 * a + q) := fun q hq => by
        unfold tNote
        rw [if_neg (by omega), if_neg (by omega), if_neg (by omega), if_neg (by omega), if_neg (by omega), if_pos (by omega), show 124 + 4 * (a + 1) + q - 4 = 124 + 4 * a + q by omega]
      have s0 := sh 0 (by decide)
      have s1 := sh 1 (by decide)
      have s2 := sh 2 (by decide)
      have s3 := sh 3 (by decide)
      rw [show 125 + 4 * (a + 1) = 124 + 4 * (a + 1) + 1 by omega, show 126 + 4 * (a + 1) = 124 + 4 * (a + 1) + 2 by omega, show 127 + 4 * (a + 1) = 124 + 4 * (a + 1) + 3 by omega, s1, s2, s3]
      rw [show tNote t p k w (124 + 4 * (a + 1)) = t (124 + 4 * a) from s0]
      rw [if_neg (by omega), show (((g b 5 + 1) % 60).toNat + 60 - (a + 1)) % 60 = ((g b 5).toNat + 60 - a) % 60 by omega]
      rw [show 124 + 4 * a + 1 = 125 + 4 * a by omega, show 124 + 4 * a + 2 = 126 + 4 * a by omega, show 124 + 4 * a + 3 = 127 + 4 * a by omega]
      exact a6 a (by omega)
theorem fop_rem60 : ∀ k : Nat, k < 120 → fop 10 (k : Int) 60 = ((k % 60 : Nat) : Int) := by decide +kernel
section FHE
variable {W : ax_W} {r : Nat} {g : Nat → Nat → Int} {Q : Nat → Nat → (Nat → Nat → Int) → Prop}
theorem sp_cnote_table {p k w : Int} (h0 : 0 ≤ g 16 5) (h1 : g 16 5 < 60) (c0 : 0 ≤ g 16 6) (c1 : g 16 6 ≤ 60) (n0 : 0 ≤ g 16 9) (n1 : g 16 9 ≤ 9999) (p0 : 0 ≤ p) (p1 : p ≤ 7) (k0 : 0 ≤ k) (k1 : k ≤ 3) (w0 : 0 ≤ w) (w1 : w ≤ 7) (kq : Q 0 0 (cNote 16 g p k w)) : fx W r 0 153 0 [130, fI p, fI k, fI w] [] g Q := by
  have er : fop 10 (g 16 5 + 1) 60 = (g 16 5 + 1) % 60 := by
    obtain ⟨n, e⟩ := Int.eq_ofNat_of_zero_le h0
    have := fop_rem60 (n + 1) (by omega)
    rw [show ((n + 1 : Nat) : Int) = g 16 5 + 1 by omega] at this
    rw [this]; omega
  have pk := fop_pk n0 n1 p0 p1 k0 k1 w0 w1
  have pb : 0 ≤ pkL (g 16 9) p k w ∧ pkL (g 16 9) p k w < 2600000 := by unfold pkL; omega
  have eb : 0 ≤ fop 10 (g 16 5 + 1) 60 ∧ fop 10 (g 16 5 + 1) 60 < 60 := by rw [er]; omega
  unfold cNote at kq
  rw [← er, ← pk] at kq
  refine fx_la 0 1 (v := 130) (by decide +kernel) rfl (by decide +kernel) ?_
  refine fx_la 0 2 (v := 130) (by decide +kernel) rfl (by decide +kernel) ?_
  refine fx_gi 130 16 5 5 (by decide +kernel) ?_
  refine fx_ci (1) 6 (by decide +kernel) ?_
  refine fx_add 7 (by decide +kernel) rfl ?_
  refine fx_ci (60) 9 (by decide +kernel) ?_
  refine fx_bin 10 10 (by decide +kernel) rfl (fun _ => by decide) ?_
  refine fx_pi 130 16 5 13 (by decide +kernel) (by first | exact fop_R _ _ _ | (unfold fR; omega)) ?_
  refine fx_la 0 14 (v := 130) (by decide +kernel) rfl (by decide +kernel) ?_
  refine fx_gp 130 16 4 170 17 (by decide +kernel) ?_
  refine fx_la 0 18 (v := 130) (by decide +kernel) rfl (by decide +kernel) ?_
  refine fx_gi 130 16 5 21 (by decide +kernel) ?_
  try simp only [fu_app, fcy_app, Nat.reduceEqDiff, and_true, and_false, false_and, true_and, if_true, if_false, ite_true, ite_false, reduceIte, Int.reduceToNat, fx_simp0]
  refine fx_la 0 22 (v := 130) (by decide +kernel) rfl (by decide +kernel) ?_
  refine fx_gi 130 16 9 25 (by decide +kernel) ?_
  try simp only [fu_app, fcy_app, Nat.reduceEqDiff, and_true, and_false, false_and, true_and, if_true, if_false, ite_true, ite_false, reduceIte, Int.reduceToNat, fx_simp0]
  refine fx_ci (8) 27 (by decide +kernel) ?_
  refine fx_bin 6 28 (by decide +kernel) rfl (fun h => absurd h (by decide)) ?_
  refine fx_li 1 29 (by decide +kernel) rfl ?_
  refine fx_ci (5) 30 (by decide +kernel) ?_
  refine fx_bin 6 31 (by decide +kernel) rfl (fun h => absurd h (by decide)) ?_
  refine fx_bin 4 32 (by decide +kernel) rfl (fun h => absurd h (by decide)) ?_
  refine fx_li 2 33 (by decide +kernel) rfl ?_
  refine fx_ci (3) 34 (by decide +kernel) ?_
  refine fx_bin 6 35 (by decide +kernel) rfl (fun h => absurd h (by decide)) ?_
  refine fx_bin 4 36 (by decide +kernel) rfl (fun h => absurd h (by decide)) ?_
  refine fx_li 3 37 (by decide +kernel) rfl ?_
  refine fx_bin 4 38 (by decide +kernel) rfl (fun h => absurd h (by decide)) ?_
  refine fx_as 170 21 60 39 (by decide +kernel) rfl (by omega) (by omega) rfl (by first | exact fop_R _ _ _ | (unfold fR; omega)) ?_
  refine fx_la 0 40 (v := 130) (by decide +kernel) rfl (by decide +kernel) ?_
  refine fx_gi 130 16 6 43 (by decide +kernel) ?_
  try simp only [fu_app, fcy_app, Nat.reduceEqDiff, and_true, and_false, false_and, true_and, if_true, if_false, ite_true, ite_false, reduceIte, Int.reduceToNat, fx_simp0]
  refine fx_ci (60) 45 (by decide +kernel) ?_
  refine fx_ige 58 48 (by decide +kernel) (by unfold fR; omega) (by unfold fR; omega) (fun h45 => ?_) (fun h45 => ?_)
  · refine fx_vret (by decide +kernel) ?_
    rw [if_neg (by omega)] at kq
    have s := fu_self (fu (fu g 16 5 (fop 10 (g 16 5 + 1) 60)) 21 (fop 10 (g 16 5 + 1) 60).toNat (fop 4 (fop 4 (fop 4 (fop 6 (g 16 9) 8) (fop 6 p 5)) (fop 6 k 3)) w)) 16 6
    rw [fu_nc (by decide), fu_nj (by decide)] at s
    exact s ▸ kq
  · refine fx_la 0 49 (v := 130) (by decide +kernel) rfl (by decide +kernel) ?_
    refine fx_dup 50 (by decide +kernel) rfl (by decide) ?_
    refine fx_gi 130 16 6 53 (by decide +kernel) ?_
    try simp only [fu_app, fcy_app, Nat.reduceEqDiff, and_true, and_false, false_and, true_and, if_true, if_false, ite_true, ite_false, reduceIte, Int.reduceToNat, fx_simp0]
    refine fx_ci (1) 54 (by decide +kernel) ?_
    refine fx_add 55 (by decide +kernel) rfl ?_
    refine fx_pi 130 16 6 58 (by decide +kernel) (by unfold fR; omega) ?_
    refine fx_vret (by decide +kernel) ?_
    rw [if_pos (by omega)] at kq
    exact kq
theorem sp_cnote_scratch {p k w : Int} (h0 : 0 ≤ g 22 5) (h1 : g 22 5 < 60) (c0 : 0 ≤ g 22 6) (c1 : g 22 6 ≤ 60) (n0 : 0 ≤ g 22 9) (n1 : g 22 9 ≤ 9999) (p0 : 0 ≤ p) (p1 : p ≤ 7) (k0 : 0 ≤ k) (k1 : k ≤ 3) (w0 : 0 ≤ w) (w1 : w ≤ 7) (kq : Q 0 0 (cNote 22 g p k w)) : fx W r 0 153 0 [178, fI p, fI k, fI w] [] g Q := by
  have er : fop 10 (g 22 5 + 1) 60 = (g 22 5 + 1) % 60 := by
    obtain ⟨n, e⟩ := Int.eq_ofNat_of_zero_le h0
    have := fop_rem60 (n + 1) (by omega)
    rw [show ((n + 1 : Nat) : Int) = g 22 5 + 1 by omega] at this
    rw [this]; omega
  have pk := fop_pk n0 n1 p0 p1 k0 k1 w0 w1
  have pb : 0 ≤ pkL (g 22 9) p k w ∧ pkL (g 22 9) p k w < 2600000 := by unfold pkL; omega
  have eb : 0 ≤ fop 10 (g 22 5 + 1) 60 ∧ fop 10 (g 22 5 + 1) 60 < 60 := by rw [er]; omega
  unfold cNote at kq
  rw [← er, ← pk] at kq
  refine fx_la 0 1 (v := 178) (by decide +kernel) rfl (by decide +kernel) ?_
  refine fx_la 0 2 (v := 178) (by decide +kernel) rfl (by decide +kernel) ?_
  refine fx_gi 178 22 5 5 (by decide +kernel) ?_
  refine fx_ci (1) 6 (by decide +kernel) ?_
  refine fx_add 7 (by decide +kernel) rfl ?_
  refine fx_ci (60) 9 (by decide +kernel) ?_
  refine fx_bin 10 10 (by decide +kernel) rfl (fun _ => by decide) ?_
  refine fx_pi 178 22 5 13 (by decide +kernel) (by first | exact fop_R _ _ _ | (unfold fR; omega)) ?_
  refine fx_la 0 14 (v := 178) (by decide +kernel) rfl (by decide +kernel) ?_
  refine fx_gp 178 22 4 218 17 (by decide +kernel) ?_
  refine fx_la 0 18 (v := 178) (by decide +kernel) rfl (by decide +kernel) ?_
  refine fx_gi 178 22 5 21 (by decide +kernel) ?_
  try simp only [fu_app, fcy_app, Nat.reduceEqDiff, and_true, and_false, false_and, true_and, if_true, if_false, ite_true, ite_false, reduceIte, Int.reduceToNat, fx_simp0]
  refine fx_la 0 22 (v := 178) (by decide +kernel) rfl (by decide +kernel) ?_
  refine fx_gi 178 22 9 25 (by decide +kernel) ?_
  try simp only [fu_app, fcy_app, Nat.reduceEqDiff, and_true, and_false, false_and, true_and, if_true, if_false, ite_true, ite_false, reduceIte, Int.reduceToNat, fx_simp0]
  refine fx_ci (8) 27 (by decide +kernel) ?_
  refine fx_bin 6 28 (by decide +kernel) rfl (fun h => absurd h (by decide)) ?_
  refine fx_li 1 29 (by decide +kernel) rfl ?_
  refine fx_ci (5) 30 (by decide +kernel) ?_
  refine fx_bin 6 31 (by decide +kernel) rfl (fun h => absurd h (by decide)) ?_
  refine fx_bin 4 32 (by decide +kernel) rfl (fun h => absurd h (by decide)) ?_
  refine fx_li 2 33 (by decide +kernel) rfl ?_
  refine fx_ci (3) 34 (by decide +kernel) ?_
  refine fx_bin 6 35 (by decide +kernel) rfl (fun h => absurd h (by decide)) ?_
  refine fx_bin 4 36 (by decide +kernel) rfl (fun h => absurd h (by decide)) ?_
  refine fx_li 3 37 (by decide +kernel) rfl ?_
  refine fx_bin 4 38 (by decide +kernel) rfl (fun h => absurd h (by decide)) ?_
  refine fx_as 218 27 60 39 (by decide +kernel) rfl (by omega) (by omega) rfl (by first | exact fop_R _ _ _ | (unfold fR; omega)) ?_
  refine fx_la 0 40 (v := 178) (by decide +kernel) rfl (by decide +kernel) ?_
  refine fx_gi 178 22 6 43 (by decide +kernel) ?_
  try simp only [fu_app, fcy_app, Nat.reduceEqDiff, and_true, and_false, false_and, true_and, if_true, if_false, ite_true, ite_false, reduceIte, Int.reduceToNat, fx_simp0]
  refine fx_ci (60) 45 (by decide +kernel) ?_
  refine fx_ige 58 48 (by decide +kernel) (by unfold fR; omega) (by unfold fR; omega) (fun h45 => ?_) (fun h45 => ?_)
  · refine fx_vret (by decide +kernel) ?_
    rw [if_neg (by omega)] at kq
    have s := fu_self (fu (fu g 22 5 (fop 10 (g 22 5 + 1) 60)) 27 (fop 10 (g 22 5 + 1) 60).toNat (fop 4 (fop 4 (fop 4 (fop 6 (g 22 9) 8) (fop 6 p 5)) (fop 6 k 3)) w)) 22 6
    rw [fu_nc (by decide), fu_nj (by decide)] at s
    exact s ▸ kq
  · refine fx_la 0 49 (v := 178) (by decide +kernel) rfl (by decide +kernel) ?_
    refine fx_dup 50 (by decide +kernel) rfl (by decide) ?_
    refine fx_gi 178 22 6 53 (by decide +kernel) ?_
    try simp only [fu_app, fcy_app, Nat.reduceEqDiff, and_true, and_false, false_and, true_and, if_true, if_false, ite_true, ite_false, reduceIte, Int.reduceToNat, fx_simp0]
    refine fx_ci (1) 54 (by decide +kernel) ?_
    refine fx_add 55 (by decide +kernel) rfl ?_
    refine fx_pi 178 22 6 58 (by decide +kernel) (by unfold fR; omega) ?_
    refine fx_vret (by decide +kernel) ?_
    rw [if_pos (by omega)] at kq
    exact kq
end FHE
end
section
/-! fx: rows of objects -/
section FHF
variable {W : ax_W} {r d mi pc : Nat} {L S : List Nat} {g : Nat → Nat → Int} {Q : Nat → Nat → (Nat → Nat → Int) → Prop}
theorem fx_aal (p c j v pc' : Nat) (q : (fq mi pc 15 && (Nat.beq p (8 * c + 2) && (Nat.blt c 160 && (Nat.beq (Nat.mod (ax_cl c).1 256) 102 && (Nat.blt j (Nat.div (ax_cl c).1 256) && (Nat.beq (fPtr c j) v && (Nat.blt 0 v && Nat.blt j 1000))))))) = true) (hp : pc + 1 = pc') (k : fx W r d mi pc' L (v :: S) g Q) : fx W r d mi pc L (fI (j : Int) :: p :: S) g Q := by
  subst hp
  obtain ⟨q1, q⟩ := f_and q
  obtain ⟨q2, q⟩ := f_and q
  obtain ⟨q3, q⟩ := f_and q
  obtain ⟨q4, q⟩ := f_and q
  obtain ⟨q5, q⟩ := f_and q
  obtain ⟨q6, q⟩ := f_and q
  obtain ⟨q7, q8⟩ := f_and q
  obtain ⟨o1, o2⟩ := fq_ok q1
  have e2 : p = 8 * c + 2 := sx_beq q2
  subst e2
  have hc : c < 160 := sx_blt q3
  have ha : (ax_cl c).1 % 256 = 102 := sx_beq q4
  have hj : j < (ax_cl c).1 / 256 := sx_blt q5
  have e6 : fPtr c j = v := sx_beq q6
  have e7 : 0 < v := sx_blt q7
  have e8 : j < 1000 := sx_blt q8
  refine fx_s o2 (fun ih D h cs ss hv => ?_) k
  rw [cx_b15 o1]
  unfold sx_oAld
  rw [fcp1, fcp1, f_ref hc, sx_if_t, fI_eq, cx_ix, sx_rdK_eq, f_plr, hv.1 c hc, sx_beq_t (show Nat.mod (ax_cl c).1 256 = 102 from ha), cx_at, fI_n (by omega) (by omega), sx_blt_t (show ((j : Int)).toNat < Nat.div (ax_cl c).1 256 by show ((j : Int)).toNat < (ax_cl c).1 / 256; omega), sx_if_t, sx_fo_eq, sx_fo_eq, sx_beq_e (by decide), sx_if_f, show ((j : Int)).toNat = j from rfl, (hv.2 c j hc hj).2.2 (by omega), e6, sx_beq_e (show ¬ (102 : Nat) = 101 by decide), sx_if_f, sx_beq_e (show ¬ v = 0 by omega), sx_if_f]
end FHF
end
