/-! fx: counts, on both sides -/
noncomputable def fsw_b (k b : Nat) : Nat := Option.rec 0 (fun q => sx_tg1 q b) (sx_nth sx_tsw k)
theorem fsw_d {k b lo hi t : Nat} (h : b < lo ∨ hi ≤ b) (w : (Option.rec false (fun q => Nat.beq q.1 t && (Nat.beq q.2.1 lo && Nat.beq (lo + q.2.2.1.length) hi)) (sx_nth sx_tsw k) : Bool) = true) : fsw_b k b = t := by
  unfold fsw_b
  cases hq : sx_nth sx_tsw k with
  | none => rw [hq] at w; cases w
  | some q =>
    rw [hq] at w
    obtain ⟨w1, w⟩ := f_and w
    obtain ⟨w2, w3⟩ := f_and w
    have w1 : q.1 = t := sx_beq w1
    have w2 : q.2.1 = lo := sx_beq w2
    have w3 : lo + q.2.2.1.length = hi := sx_beq w3
    show sx_tg1 q b = t
    unfold sx_tg1
    rw [w1, w2]
    by_cases c : lo ≤ b
    · have e : sx_nth q.2.2.1 (Nat.sub b lo) = none := by
        rw [sx_nth_eq]
        exact List.getElem?_eq_none (by show _ ≤ b - lo; omega)
      rw [e, show Nat.ble lo b = true from Nat.ble_eq.mpr c, sx_if_t]
    · rw [show Nat.ble lo b = false from by cases h : Nat.ble lo b with | false => rfl | true => exact absurd (Nat.ble_eq.mp h) c, sx_if_f]
section FIX
variable {W : ax_W} {r d mi pc : Nat} {L S : List Nat} {g : Nat → Nat → Int} {Q : Nat → Nat → (Nat → Nat → Int) → Prop}
theorem fx_swi (k : Nat) {a : Int} {t : Nat} (q : (fq mi pc 37 && (Nat.beq (sx_wa (fw mi pc)) k && Option.rec false (fun _ => true) (sx_nth sx_tsw k))) = true) (ha : fR a) (ht : fsw_b k (a + 2147483648).toNat = t) (kk : fx W r d mi t L S g Q) : fx W r d mi pc L (fI a :: S) g Q := by
  subst ht
  obtain ⟨q1, q⟩ := f_and q
  obtain ⟨q2, q3⟩ := f_and q
  obtain ⟨o1, o2⟩ := fq_ok q1
  refine fx_s o2 (fun ih D h cs ss _ => ?_) kk
  have nm : ∀ K : Nat → sx_R, sx_nm W.sy (fI a) K = K (fI a) := fun K => by rw [fI_eq, cx_nm]
  have bs : sx_bs (sx_pl (fI a)) = (a + 2147483648).toNat := by
    unfold fR at ha
    show (fI a / 8 + 2147483648) % 4294967296 = _
    unfold fI
    omega
  rw [cx_b37 o1]
  unfold sx_oSw
  rw [fcp1, show sx_wa (sx_ft (sx_mt mi).1 pc) = k from sx_beq q2]
  unfold fsw_b
  cases hq : sx_nth sx_tsw k with
  | none => rw [hq] at q3; cases q3
  | some q =>
    show sx_nm W.sy (fI a) _ = _
    rw [nm, fI_tg, sx_beq_t rfl, sx_if_t, sx_fo_eq, bs]
end FIX
/-- what is counted -/
noncomputable def cntV (t : Nat → Int) (ac a : Int) : Int := if a = 0 then t 3 else if a = 1 then t 4 else if a = 2 then t 0 else if a = 3 then t 1 else if a = 4 then t 9 else if 5 ≤ a ∧ a ≤ 8 then t a.toNat else if a = 9 then fop 3 (fop 6 1 (t 3) - 1) (fop 5 ((lvN t (t 3).toNat : Nat) : Int) (-1)) else if a = 10 then vsM t ((lvN t (t 3).toNat : Nat) : Int) (t 3).toNat else if a = 11 then t 10 else if a = 12 then ac else -1
theorem dead_all : (List.range 9).all (fun n => (List.range 256).all (fun D => !((List.range 8).all (fun p => Nat.blt p n || decide (fbt ((D : Nat) : Int) ((p : Nat) : Int) = 0))) || decide (fop 3 (fop 6 1 ((n : Nat) : Int) - 1) (fop 5 (evB ((D : Nat) : Int) n) (-1)) = ((D : Nat) : Int)))) = true := by decide +kernel
theorem dead_eq {n D : Nat} (hn : n ≤ 8) (hD : D < 256) (h : ∀ p : Nat, p < 8 → n ≤ p → fbt (D : Int) (p : Int) = 0) : fop 3 (fop 6 1 (n : Int) - 1) (fop 5 (evB (D : Int) n) (-1)) = (D : Int) := by
  have q := List.all_eq_true.mp (List.all_eq_true.mp dead_all n (List.mem_range.mpr (by omega))) D (List.mem_range.mpr hD)
  have c : (List.range 8).all (fun p => Nat.blt p n || decide (fbt ((D : Nat) : Int) ((p : Nat) : Int) = 0)) = true := List.all_eq_true.mpr (fun p hp => by
    have hp := List.mem_range.mp hp
    by_cases k : p < n
    · rw [sx_blt_t k]; rfl
    · rw [decide_eq_true (h p hp (by omega)), Bool.or_true])
  rw [c] at q
  exact of_decide_eq_true q
section FIX2
variable {W : ax_W} {r d mi pc : Nat} {L S : List Nat} {g : Nat → Nat → Int} {Q : Nat → Nat → (Nat → Nat → Int) → Prop}
theorem fx_dead (hg : gHs g) (k : 0 ≤ g 16 7 ∧ g 16 7 ≤ 255 → fx W r d mi pc L S g Q) : fx W r d mi pc L S g Q := fun D h cs ss hD v => k (by have := Hs_c (hg h v) v 16 7 2147483648 2147483903 (by decide +kernel); omega) D h cs ss hD v
theorem cnt_dead {n : Nat} (hi : LI g) (hn : g 149 3 = (n : Int)) (h8 : n ≤ 8) (hd : 0 ≤ g 16 7 ∧ g 16 7 ≤ 255) : evB (g 16 7) n = ((lvN (g 149) n : Nat) : Int) ∧ fop 3 (fop 6 1 (n : Int) - 1) (fop 5 ((lvN (g 149) n : Nat) : Int) (-1)) = g 16 7 := by
  have hT := hi.1.2.2.1.1
  have hI := hi.1.2.2.2.1
  have e := evB_lv (D := g 16 7) (t := g 149) hT.2.2.2.2.1 n h8
  refine ⟨e, ?_⟩
  rw [← e]
  obtain ⟨D, hD⟩ := Int.eq_ofNat_of_zero_le hd.1
  rw [hD]
  refine dead_eq h8 (by omega) (fun p hp hnp => ?_)
  have := hT.2.2.2.2.1 p hp
  rw [hD] at this
  rw [this]
  exact hI.2.2 p hp (by omega)
theorem sp_ccount {a : Int} (ha : fR a) (hs : gHs g) (hi : LI g) (hB : LB2 g) (kq : ∀ z, fR z → z = cntV (g 149) (g 148 6) a → Q 1 (fI z) g) : fx W r 2 68 0 [2, fI a] [] g Q := by
  refine fx_dead hs (fun hd => ?_)
  have hH := hi.1.2.1
  have hT := hi.1.2.2.1.1
  have b1 := hB.1.1
  have e3 : g 3 4 = g 149 3 := hH.1
  obtain ⟨n, hn⟩ := Int.eq_ofNat_of_zero_le b1.1
  have hn3 : g 149 3 = (n : Int) := by rw [← e3]; exact hn
  have n8 : n ≤ 8 := by omega
  obtain ⟨d1, d2⟩ := cnt_dead hi hn3 n8 hd
  have hv : ∀ p : Nat, p < 8 → g 18 p = g 149 (13 + 7 * p) := fun p hp => hT.2.1 p hp
  have hvb : ∀ p : Nat, p < 8 → 0 ≤ g 18 p ∧ g 18 p ≤ 20 := fun p hp => by rw [hv p hp]; exact (hi.2.1.1.2.2.1 p hp).2.2
  have hW : g 8 7 = g 149 1 := by
    rcases hi.2.2.1.2.2 with ⟨q1, q2⟩ | ⟨segs, -, q1, q2, -⟩
    · rw [q1, q2]
    · rw [q1, q2]
  refine fx_rg (fun hg => ?_)
  refine fx_li 1 1 (by decide +kernel) rfl ?_
  by_cases c : 0 ≤ a ∧ a ≤ 12
  · rcases (by omega : a = 0 ∨ a = 1 ∨ a = 2 ∨ a = 3 ∨ a = 4 ∨ a = 5 ∨ a = 6 ∨ a = 7 ∨ a = 8 ∨ a = 9 ∨ a = 10 ∨ a = 11 ∨ a = 12) with rfl | rfl | rfl | rfl | rfl | rfl | rfl | rfl | rfl | rfl | rfl | rfl | rfl
    · refine fx_swi 1 (t := 68) (by decide +kernel) ha (by decide +kernel) ?_
      refine fx_la 0 69 (v := 2) (by decide +kernel) rfl (by decide +kernel) ?_
      refine fx_gp 2 0 1 26 72 (by decide +kernel) ?_
      refine fx_gi 26 3 4 75 (by decide +kernel) ?_
      refine fx_ret (by decide +kernel) ?_
      exact kq _ (hg 3 4 (by decide) (by decide +kernel) (by decide +kernel)) (by rw [show cntV (g 149) (g 148 6) 0 = g 149 3 by unfold cntV; rw [if_pos (by decide)]]; exact hH.1)
    · refine fx_swi 1 (t := 76) (by decide +kernel) ha (by decide +kernel) ?_
      refine fx_la 0 77 (v := 2) (by decide +kernel) rfl (by decide +kernel) ?_
      refine fx_gp 2 0 1 26 80 (by decide +kernel) ?_
      refine fx_gi 26 3 5 83 (by decide +kernel) ?_
      refine fx_ret (by decide +kernel) ?_
      exact kq _ (hg 3 5 (by decide) (by decide +kernel) (by decide +kernel)) (by rw [show cntV (g 149) (g 148 6) 1 = g 149 4 by unfold cntV; rw [if_neg (by decide), if_pos (by decide)]]; exact hH.2.1)
    · refine fx_swi 1 (t := 84) (by decide +kernel) ha (by decide +kernel) ?_
      refine fx_la 0 85 (v := 2) (by decide +kernel) rfl (by decide +kernel) ?_
      refine fx_gp 2 0 1 26 88 (by decide +kernel) ?_
      refine fx_gi 26 3 6 91 (by decide +kernel) ?_
      refine fx_ret (by decide +kernel) ?_
      exact kq _ (hg 3 6 (by decide) (by decide +kernel) (by decide +kernel)) (by rw [show cntV (g 149) (g 148 6) 2 = g 149 0 by unfold cntV; rw [if_neg (by decide), if_neg (by decide), if_pos (by decide)]]; exact hH.2.2.1)
    · refine fx_swi 1 (t := 92) (by decide +kernel) ha (by decide +kernel) ?_
      refine fx_la 0 93 (v := 2) (by decide +kernel) rfl (by decide +kernel) ?_
      refine fx_gp 2 0 2 66 96 (by decide +kernel) ?_
      refine fx_gi 66 8 7 99 (by decide +kernel) ?_
      refine fx_ret (by decide +kernel) ?_
      exact kq _ (hg 8 7 (by decide) (by decide +kernel) (by decide +kernel)) (by rw [show cntV (g 149) (g 148 6) 3 = g 149 1 by unfold cntV; rw [if_neg (by decide), if_neg (by decide), if_neg (by decide), if_pos (by decide)]]; exact hW)
    · refine fx_swi 1 (t := 100) (by decide +kernel) ha (by decide +kernel) ?_
      refine fx_la 0 101 (v := 2) (by decide +kernel) rfl (by decide +kernel) ?_
      refine fx_gp 2 0 3 130 104 (by decide +kernel) ?_
      refine fx_gi 130 16 9 107 (by decide +kernel) ?_
      refine fx_ret (by decide +kernel) ?_
      exact kq _ (hg 16 9 (by decide) (by decide +kernel) (by decide +kernel)) (by rw [show cntV (g 149) (g 148 6) 4 = g 149 9 by unfold cntV; rw [if_neg (by decide), if_neg (by decide), if_neg (by decide), if_neg (by decide), if_pos (by decide)]]; exact hT.2.2.2.2.2.2.1)
    · refine fx_swi 1 (t := 108) (by decide +kernel) ha (by decide +kernel) ?_
      refine fx_la 0 109 (v := 2) (by decide +kernel) rfl (by decide +kernel) ?_
      refine fx_gp 2 0 1 26 112 (by decide +kernel) ?_
      refine fx_gi 26 3 7 115 (by decide +kernel) ?_
      refine fx_ret (by decide +kernel) ?_
      exact kq _ (hg 3 7 (by decide) (by decide +kernel) (by decide +kernel)) (by rw [show cntV (g 149) (g 148 6) 5 = g 149 5 by unfold cntV; rw [if_neg (by decide), if_neg (by decide), if_neg (by decide), if_neg (by decide), if_neg (by decide), if_pos (by decide)]; rfl]; exact hH.2.2.2.1)
    · refine fx_swi 1 (t := 116) (by decide +kernel) ha (by decide +kernel) ?_
      refine fx_la 0 117 (v := 2) (by decide +kernel) rfl (by decide +kernel) ?_
      refine fx_gp 2 0 1 26 120 (by decide +kernel) ?_
      refine fx_gi 26 3 8 123 (by decide +kernel) ?_
      refine fx_ret (by decide +kernel) ?_
      exact kq _ (hg 3 8 (by decide) (by decide +kernel) (by decide +kernel)) (by rw [show cntV (g 149) (g 148 6) 6 = g 149 6 by unfold cntV; rw [if_neg (by decide), if_neg (by decide), if_neg (by decide), if_neg (by decide), if_neg (by decide), if_pos (by decide)]; rfl]; exact hH.2.2.2.2.1)
    · refine fx_swi 1 (t := 124) (by decide +kernel) ha (by decide +kernel) ?_
      refine fx_la 0 125 (v := 2) (by decide +kernel) rfl (by decide +kernel) ?_
      refine fx_gp 2 0 1 26 128 (by decide +kernel) ?_
      refine fx_gi 26 3 9 131 (by decide +kernel) ?_
      refine fx_ret (by decide +kernel) ?_
      exact kq _ (hg 3 9 (by decide) (by decide +kernel) (by decide +kernel)) (by rw [show cntV (g 149) (g 148 6) 7 = g 149 7 by unfold cntV; rw [if_neg (by decide), if_neg (by decide), if_neg (by decide), if_neg (by decide), if_neg (by decide), if_pos (by decide)]; rfl]; exact hH.2.2.2.2.2.1)
    · refine fx_swi 1 (t := 132) (by decide +kernel) ha (by decide +kernel) ?_
      refine fx_la 0 133 (v := 2) (by decide +kernel) rfl (by decide +kernel) ?_
      refine fx_gp 2 0 3 130 136 (by decide +kernel) ?_
      refine fx_gi 130 16 8 139 (by decide +kernel) ?_
      refine fx_ret (by decide +kernel) ?_
      exact kq _ (hg 16 8 (by decide) (by decide +kernel) (by decide +kernel)) (by rw [show cntV (g 149) (g 148 6) 8 = g 149 8 by unfold cntV; rw [if_neg (by decide), if_neg (by decide), if_neg (by decide), if_neg (by decide), if_neg (by decide), if_pos (by decide)]; rfl]; exact hT.2.2.2.2.2.1)
    · refine fx_swi 1 (t := 140) (by decide +kernel) ha (by decide +kernel) ?_
      refine fx_la 0 141 (v := 2) (by decide +kernel) rfl (by decide +kernel) ?_
      refine fx_gp 2 0 3 130 144 (by decide +kernel) ?_
      refine fx_gi 130 16 7 147 (by decide +kernel) ?_
      refine fx_ret (by decide +kernel) ?_
      exact kq _ (hg 16 7 (by decide) (by decide +kernel) (by decide +kernel)) (by rw [show cntV (g 149) (g 148 6) 9 = fop 3 (fop 6 1 (g 149 3) - 1) (fop 5 ((lvN (g 149) (g 149 3).toNat : Nat) : Int) (-1)) by unfold cntV; rw [if_neg (by decide), if_neg (by decide), if_neg (by decide), if_neg (by decide), if_neg (by decide), if_neg (by decide), if_pos (by decide)], hn3]; exact d2.symm)
    · refine fx_swi 1 (t := 148) (by decide +kernel) ha (by decide +kernel) ?_
      refine fx_la 0 149 (v := 2) (by decide +kernel) rfl (by decide +kernel) ?_
      refine fx_gp 2 0 8 354 152 (by decide +kernel) ?_
      refine fx_la 0 153 (v := 2) (by decide +kernel) rfl (by decide +kernel) ?_
      refine fx_gp 2 0 8 354 156 (by decide +kernel) ?_
      refine fx_c1 27 21 159 0 [] (by decide +kernel) (by decide) rfl (by first | decide | omega) ?_
      refine sp_ceveryone (D := (g 16 7).toNat) hn n8 (by omega) (by omega) (fK1 ?_)
      refine fx_c2 28 21 162 1 [7, 7] (by decide +kernel) (by decide) (by decide) (fI_n4 _) rfl (by first | decide | omega) ?_
      rw [show (((g 16 7).toNat : Nat) : Int) = g 16 7 by omega, d1]
      have l := lvN_lt (g 149) n
      have l2 : 2 ^ n ≤ 256 := by
        have : 2 ^ n ≤ 2 ^ 8 := Nat.pow_le_pow_right (by decide) n8
        exact this
      refine sp_cvotesOf (s := ((lvN (g 149) n : Nat) : Int)) (n := n) (by unfold fR; omega) hn n8 hvb (fK1 ?_)
      refine fx_ret (by decide +kernel) ?_
      have vb := vsC_b (s := ((lvN (g 149) n : Nat) : Int)) hvb n n8
      refine kq _ (by unfold fR; omega) ?_
      rw [vs_lv n8 hv n (Nat.le_refl _), show cntV (g 149) (g 148 6) 10 = vsM (g 149) ((lvN (g 149) (g 149 3).toNat : Nat) : Int) (g 149 3).toNat by unfold cntV; rw [if_neg (by decide), if_neg (by decide), if_neg (by decide), if_neg (by decide), if_neg (by decide), if_neg (by decide), if_neg (by decide), if_pos (by decide)], hn3]
      rfl
    · refine fx_swi 1 (t := 163) (by decide +kernel) ha (by decide +kernel) ?_
      refine fx_la 0 164 (v := 2) (by decide +kernel) rfl (by decide +kernel) ?_
      refine fx_gp 2 0 3 130 167 (by decide +kernel) ?_
      refine fx_gi 130 16 6 170 (by decide +kernel) ?_
      refine fx_ret (by decide +kernel) ?_
      exact kq _ (hg 16 6 (by decide) (by decide +kernel) (by decide +kernel)) (by rw [show cntV (g 149) (g 148 6) 11 = g 149 10 by unfold cntV; rw [if_neg (by decide), if_neg (by decide), if_neg (by decide), if_neg (by decide), if_neg (by decide), if_neg (by decide), if_neg (by decide), if_neg (by decide), if_pos (by decide)]]; exact hi.1.2.2.1.2.2.2.1)
    · refine fx_swi 1 (t := 171) (by decide +kernel) ha (by decide +kernel) ?_
      refine fx_la 0 172 (v := 2) (by decide +kernel) rfl (by decide +kernel) ?_
      refine fx_gi 2 0 16 175 (by decide +kernel) ?_
      refine fx_ret (by decide +kernel) ?_
      exact kq _ (hg 0 16 (by decide) (by decide +kernel) (by decide +kernel)) (by rw [show cntV (g 149) (g 148 6) 12 = g 148 6 by unfold cntV; rw [if_neg (by decide), if_neg (by decide), if_neg (by decide), if_neg (by decide), if_neg (by decide), if_neg (by decide), if_neg (by decide), if_neg (by decide), if_neg (by decide), if_pos (by decide)]]; exact hi.1.2.2.2.2.1)
  · refine fx_swi 1 (t := 176) (by decide +kernel) ha (fsw_d (lo := 2147483648) (hi := 2147483661) (by unfold fR at ha; omega) (by decide +kernel)) ?_
    refine fx_ci (-1) 177 (by decide +kernel) ?_
    refine fx_ret (by decide +kernel) ?_
    exact kq (-1) (by unfold fR; omega) (by unfold cntV; rw [if_neg (by omega), if_neg (by omega), if_neg (by omega), if_neg (by omega), if_neg (by omega), if_neg (by omega), if_neg (by omega), if_neg (by omega), if_neg (by omega), if_neg (by omega)])
theorem sp_mcount {a : Int} {n : Nat} (ha : fR a) (hn : g 149 3 = (n : Int)) (h8 : n ≤ 8) (hvb : ∀ p : Nat, p < 8 → 0 ≤ g 149 (13 + 7 * p) ∧ g 149 (13 + 7 * p) ≤ 20) (kq : ∀ z, fR z → z = cntV (g 149) (g 148 6) a → Q 1 (fI z) (fu g 148 0 0)) : fx W r 3 410 0 [1186, fI a] [] g Q := by
  refine fx_rg (fun hg => ?_)
  have hm : ∀ j, j < 764 → fR (g 149 j) := fun j hj => hgA hg 764 (c := 149) (by decide +kernel) hj
  have em : fu g 148 0 0 149 = g 149 := by funext j; exact fu_nc (by decide)
  have ea : fu g 148 0 0 148 6 = g 148 6 := fu_nj (by decide)
  have ha2 := ha
  unfold fR at ha2
  have es := sh_all n (by omega)
  have hp : 1 ≤ 2 ^ n ∧ 2 ^ n ≤ 256 := ⟨Nat.one_le_two_pow, by have : 2 ^ n ≤ 2 ^ 8 := Nat.pow_le_pow_right (by decide) h8; exact this⟩
  have e1 : 1 ≤ fop 6 1 (n : Int) ∧ fop 6 1 (n : Int) ≤ 256 := by rw [es]; omega
  have lt := lvN_lt (g 149) n
  refine fx_la 0 1 (v := 1186) (by decide +kernel) rfl (by decide +kernel) ?_
  refine fx_ci (0) 2 (by decide +kernel) ?_
  refine fx_pi 1186 148 0 5 (by decide +kernel) (by unfold fR; omega) ?_
  refine fx_li 1 6 (by decide +kernel) rfl ?_
  refine fx_zne 16 9 (by decide +kernel) (by unfold fR; omega) (fun h6 => ?_) (fun h6 => ?_)
  · refine fx_li 1 17 (by decide +kernel) rfl ?_
    refine fx_ci (1) 18 (by decide +kernel) ?_
    refine fx_ine 28 21 (by decide +kernel) (by unfold fR; omega) (by unfold fR; omega) (fun h18 => ?_) (fun h18 => ?_)
    · refine fx_li 1 29 (by decide +kernel) rfl ?_
      refine fx_ci (2) 30 (by decide +kernel) ?_
      refine fx_ine 40 33 (by decide +kernel) (by unfold fR; omega) (by unfold fR; omega) (fun h30 => ?_) (fun h30 => ?_)
      · refine fx_li 1 41 (by decide +kernel) rfl ?_
        refine fx_ci (3) 42 (by decide +kernel) ?_
        refine fx_ine 52 45 (by decide +kernel) (by unfold fR; omega) (by unfold fR; omega) (fun h42 => ?_) (fun h42 => ?_)
        · refine fx_li 1 53 (by decide +kernel) rfl ?_
          refine fx_ci (4) 54 (by decide +kernel) ?_
          refine fx_ine 65 57 (by decide +kernel) (by unfold fR; omega) (by unfold fR; omega) (fun h54 => ?_) (fun h54 => ?_)
          · refine fx_li 1 66 (by decide +kernel) rfl ?_
            refine fx_ci (5) 67 (by decide +kernel) ?_
            refine fx_ci (8) 69 (by decide +kernel) ?_
            refine fx_c3 265 22 72 0 [] (f_q22 (by decide +kernel)) (by decide) (fI_n4 _) (fI_n4 _) (fI_n4 _) rfl (by first | decide | omega) ?_
            refine sp_isIn ha (by unfold fR; omega) (by unfold fR; omega) (fun t5 => fK1 ?_) (fun t5 => fK1 ?_)
            · refine fx_zeq 82 75 (by decide +kernel) (by unfold fR; omega) (fun hc => absurd hc (by decide)) (fun _ => ?_)
              refine fx_la 0 76 (v := 1186) (by decide +kernel) rfl (by decide +kernel) ?_
              refine fx_gp 1186 148 1 1194 79 (by decide +kernel) ?_
              refine fx_li 1 80 (by decide +kernel) rfl ?_
              have h5 := hm a.toNat (by omega)
              refine fx_al 1194 149 764 81 (by decide +kernel) rfl (by omega) (by omega) rfl ?_
              try simp only [fu_app, fcy_app, Nat.reduceEqDiff, and_true, and_false, false_and, true_and, if_true, if_false, ite_true, ite_false, reduceIte, Int.reduceToNat, fx_simp0]
              refine fx_ret (by decide +kernel) ?_
              exact kq _ h5 (by unfold cntV; rw [if_neg (by omega), if_neg (by omega), if_neg (by omega), if_neg (by omega), if_neg (by omega), if_pos (by omega)])
            · refine fx_zeq 82 75 (by decide +kernel) (by unfold fR; omega) (fun _ => ?_) (fun hc => absurd hc (by decide))
              refine fx_li 1 83 (by decide +kernel) rfl ?_
              refine fx_ci (9) 85 (by decide +kernel) ?_
              refine fx_ine 106 88 (by decide +kernel) (by unfold fR; omega) (by unfold fR; omega) (fun h85 => ?_) (fun h85 => ?_)
              · refine fx_li 1 107 (by decide +kernel) rfl ?_
                refine fx_ci (10) 109 (by decide +kernel) ?_
                refine fx_ine 121 112 (by decide +kernel) (by unfold fR; omega) (by unfold fR; omega) (fun h109 => ?_) (fun h109 => ?_)
                · refine fx_li 1 122 (by decide +kernel) rfl ?_
                  refine fx_ci (11) 124 (by decide +kernel) ?_
                  refine fx_ine 135 127 (by decide +kernel) (by unfold fR; omega) (by unfold fR; omega) (fun h124 => ?_) (fun h124 => ?_)
                  · refine fx_li 1 136 (by decide +kernel) rfl ?_
                    refine fx_ci (12) 138 (by decide +kernel) ?_
                    refine fx_ine 148 141 (by decide +kernel) (by unfold fR; omega) (by unfold fR; omega) (fun h138 => ?_) (fun h138 => ?_)
                    · refine fx_ci (-1) 149 (by decide +kernel) ?_
                      refine fx_ret (by decide +kernel) ?_
                      exact kq (-1) (by unfold fR; omega) (by unfold cntV; rw [if_neg (by omega), if_neg (by omega), if_neg (by omega), if_neg (by omega), if_neg (by omega), if_neg (by omega), if_neg (by omega), if_neg (by omega), if_neg (by omega), if_neg (by omega)])
                    · refine fx_la 0 142 (v := 1186) (by decide +kernel) rfl (by decide +kernel) ?_
                      refine fx_gi 1186 148 6 145 (by decide +kernel) ?_
                      try simp only [fu_app, fcy_app, Nat.reduceEqDiff, and_true, and_false, false_and, true_and, if_true, if_false, ite_true, ite_false, reduceIte, Int.reduceToNat, fx_simp0]
                      refine fx_go 149 (by decide +kernel) ?_
                      refine fx_ret (by decide +kernel) ?_
                      exact kq _ (hg 148 6 (by decide) (by decide +kernel) (by decide +kernel)) (by unfold cntV; rw [if_neg (by omega), if_neg (by omega), if_neg (by omega), if_neg (by omega), if_neg (by omega), if_neg (by omega), if_neg (by omega), if_neg (by omega), if_neg (by omega), if_pos (by omega)])
                  · refine fx_la 0 128 (v := 1186) (by decide +kernel) rfl (by decide +kernel) ?_
                    refine fx_gp 1186 148 1 1194 131 (by decide +kernel) ?_
                    refine fx_ci (10) 133 (by decide +kernel) ?_
                    refine fx_al 1194 149 764 134 (by decide +kernel) rfl (by omega) (by omega) rfl ?_
                    try simp only [fu_app, fcy_app, Nat.reduceEqDiff, and_true, and_false, false_and, true_and, if_true, if_false, ite_true, ite_false, reduceIte, Int.reduceToNat, fx_simp0]
                    refine fx_ret (by decide +kernel) ?_
                    exact kq _ (hm 10 (by decide)) (by unfold cntV; rw [if_neg (by omega), if_neg (by omega), if_neg (by omega), if_neg (by omega), if_neg (by omega), if_neg (by omega), if_neg (by omega), if_neg (by omega), if_pos (by omega)])
                · refine fx_la 0 113 (v := 1186) (by decide +kernel) rfl (by decide +kernel) ?_
                  refine fx_la 0 114 (v := 1186) (by decide +kernel) rfl (by decide +kernel) ?_
                  refine fx_c1 304 21 117 2 [7, 7] (by decide +kernel) (by decide) rfl (by first | decide | omega) ?_
                  refine sp_mliving (n := n) (by rw [em]; exact hn) h8 (fK1 ?_)
                  refine fx_c2 305 21 120 2 [7, 7] (by decide +kernel) (by decide) (by decide) (fI_n4 _) rfl (by first | decide | omega) ?_
                  rw [em]
                  have vb := vsM_b (t := g 149) (s := ((lvN (g 149) n : Nat) : Int)) hvb n h8
                  refine sp_mvotesOf (n := n) (by unfold fR; omega) (by rw [em]; exact hn) h8 (by rw [em]; exact hvb) (fK1 ?_)
                  rw [em]
                  refine fx_ret (by decide +kernel) ?_
                  refine kq _ (by unfold fR; omega) ?_
                  unfold cntV
                  rw [if_neg (by omega), if_neg (by omega), if_neg (by omega), if_neg (by omega), if_neg (by omega), if_neg (by omega), if_neg (by omega), if_pos (by omega), hn]
                  rfl
              · refine fx_ci (1) 89 (by decide +kernel) ?_
                refine fx_la 0 90 (v := 1186) (by decide +kernel) rfl (by decide +kernel) ?_
                refine fx_gp 1186 148 1 1194 93 (by decide +kernel) ?_
                refine fx_ci (3) 94 (by decide +kernel) ?_
                refine fx_al 1194 149 764 95 (by decide +kernel) rfl (by omega) (by omega) rfl ?_
                try simp only [fu_app, fcy_app, Nat.reduceEqDiff, and_true, and_false, false_and, true_and, if_true, if_false, ite_true, ite_false, reduceIte, Int.reduceToNat, fx_simp0]
                rw [hn]
                refine fx_bin 6 96 (by decide +kernel) rfl (fun h => absurd h (by decide)) ?_
                refine fx_ci (1) 97 (by decide +kernel) ?_
                refine fx_sub 98 (by decide +kernel) rfl ?_
                refine fx_la 0 99 (v := 1186) (by decide +kernel) rfl (by decide +kernel) ?_
                refine fx_c1 304 21 102 2 [7, 7] (by decide +kernel) (by decide) rfl (by first | decide | omega) ?_
                refine sp_mliving (n := n) (by rw [em]; exact hn) h8 (fK1 ?_)
                refine fx_ci (-1) 103 (by decide +kernel) ?_
                refine fx_bin 5 104 (by decide +kernel) rfl (fun h => absurd h (by decide)) ?_
                refine fx_bin 3 105 (by decide +kernel) rfl (fun h => absurd h (by decide)) ?_
                refine fx_ret (by decide +kernel) ?_
                refine kq _ ?_ ?_
                · exact fop_R _ _ _
                · unfold cntV
                  rw [if_neg (by omega), if_neg (by omega), if_neg (by omega), if_neg (by omega), if_neg (by omega), if_neg (by omega), if_pos (by omega), hn, em]
                  rfl
          · refine fx_la 0 58 (v := 1186) (by decide +kernel) rfl (by decide +kernel) ?_
            refine fx_gp 1186 148 1 1194 61 (by decide +kernel) ?_
            refine fx_ci (9) 63 (by decide +kernel) ?_
            refine fx_al 1194 149 764 64 (by decide +kernel) rfl (by omega) (by omega) rfl ?_
            try simp only [fu_app, fcy_app, Nat.reduceEqDiff, and_true, and_false, false_and, true_and, if_true, if_false, ite_true, ite_false, reduceIte, Int.reduceToNat, fx_simp0]
            refine fx_ret (by decide +kernel) ?_
            exact kq _ (hm 9 (by decide)) (by unfold cntV; rw [if_neg (by omega), if_neg (by omega), if_neg (by omega), if_neg (by omega), if_pos (by omega)])
        · refine fx_la 0 46 (v := 1186) (by decide +kernel) rfl (by decide +kernel) ?_
          refine fx_gp 1186 148 1 1194 49 (by decide +kernel) ?_
          refine fx_ci (1) 50 (by decide +kernel) ?_
          refine fx_al 1194 149 764 51 (by decide +kernel) rfl (by omega) (by omega) rfl ?_
          try simp only [fu_app, fcy_app, Nat.reduceEqDiff, and_true, and_false, false_and, true_and, if_true, if_false, ite_true, ite_false, reduceIte, Int.reduceToNat, fx_simp0]
          refine fx_ret (by decide +kernel) ?_
          exact kq _ (hm 1 (by decide)) (by unfold cntV; rw [if_neg (by omega), if_neg (by omega), if_neg (by omega), if_pos (by omega)])
      · refine fx_la 0 34 (v := 1186) (by decide +kernel) rfl (by decide +kernel) ?_
        refine fx_gp 1186 148 1 1194 37 (by decide +kernel) ?_
        refine fx_ci (0) 38 (by decide +kernel) ?_
        refine fx_al 1194 149 764 39 (by decide +kernel) rfl (by omega) (by omega) rfl ?_
        try simp only [fu_app, fcy_app, Nat.reduceEqDiff, and_true, and_false, false_and, true_and, if_true, if_false, ite_true, ite_false, reduceIte, Int.reduceToNat, fx_simp0]
        refine fx_ret (by decide +kernel) ?_
        exact kq _ (hm 0 (by decide)) (by unfold cntV; rw [if_neg (by omega), if_neg (by omega), if_pos (by omega)])
    · refine fx_la 0 22 (v := 1186) (by decide +kernel) rfl (by decide +kernel) ?_
      refine fx_gp 1186 148 1 1194 25 (by decide +kernel) ?_
      refine fx_ci (4) 26 (by decide +kernel) ?_
      refine fx_al 1194 149 764 27 (by decide +kernel) rfl (by omega) (by omega) rfl ?_
      try simp only [fu_app, fcy_app, Nat.reduceEqDiff, and_true, and_false, false_and, true_and, if_true, if_false, ite_true, ite_false, reduceIte, Int.reduceToNat, fx_simp0]
      refine fx_ret (by decide +kernel) ?_
      exact kq _ (hm 4 (by decide)) (by unfold cntV; rw [if_neg (by omega), if_pos (by omega)])
  · refine fx_la 0 10 (v := 1186) (by decide +kernel) rfl (by decide +kernel) ?_
    refine fx_gp 1186 148 1 1194 13 (by decide +kernel) ?_
    refine fx_ci (3) 14 (by decide +kernel) ?_
    refine fx_al 1194 149 764 15 (by decide +kernel) rfl (by omega) (by omega) rfl ?_
    try simp only [fu_app, fcy_app, Nat.reduceEqDiff, and_true, and_false, false_and, true_and, if_true, if_false, ite_true, ite_false, reduceIte, Int.reduceToNat, fx_simp0]
    refine fx_ret (by decide +kernel) ?_
    exact kq _ (hm 3 (by decide)) (by unfold cntV; rw [if_pos (by omega)])
def HM_count (g : Nat → Nat → Int) (a zv : Int) (g1 : Nat → Nat → Int) : Prop := zv = cntV (g 149) (g 148 6) a ∧ g1 = g
theorem sp_w_count {a : Int} (ha : fR a) (hs : gHs g) (hi : LI g) (hB : LB2 g) : fx W r 2 68 0 [2, fI a] [] g (fun k v g1 => k = 1 ∧ ∃ zv, v = fI zv ∧ fR zv ∧ HM_count g a zv g1) := sp_ccount ha hs hi hB (fun z hz e => ⟨rfl, z, rfl, hz, e, rfl⟩)
theorem sp_r_count {a zv : Int} {g1 : Nat → Nat → Int} (ha : fR a) (hi : LI g) (hB : LB2 g) (hm : HM_count g a zv g1) : fx W r 3 410 0 [1186, fI a] [] g1 (PMb zv) := by
  obtain ⟨hz, rfl⟩ := hm
  have d2 := hB.2.1.2.1
  obtain ⟨n, hn⟩ := Int.eq_ofNat_of_zero_le d2.1
  exact sp_mcount ha hn (by omega) (fun p hp => (hi.2.1.1.2.2.1 p hp).2.2) (fun z zr e => ⟨rfl, by rw [e, hz], by rw [hz, ← e]; exact zr, LI_th hi⟩)
end FIX2
