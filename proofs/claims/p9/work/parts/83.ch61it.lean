/-! fx: what a ring eats, asked on both sides -/
section FIT
variable {W : ax_W} {r : Nat} {g : Nat → Nat → Int} {Q : Nat → Nat → (Nat → Nat → Int) → Prop}
theorem sp_wg_eats {a b c : Int} {P : Nat → Nat → (Nat → Nat → Int) → Prop} (hl : 1 ≤ W.lim) (h : fx (fWl W 0) 1 4 142 0 [2, fI a, fI b, fI c] [] g P) (k : ∀ kd v g', P kd v g' → (kd = 1 ∧ ∃ z, v = fI z ∧ fR z ∧ Q 1 (fI 0) (fu g' 159 0 ((fJ z - 4 : Nat) : Int))) ∨ (kd = 4 ∧ Q 1 (fI 1) g')) : fx W 1 5 141 0 [2, fI a, fI b, fI c, 1274, 7] [] g Q := by
  refine fx_la 4 2 (v := 1274) (by decide +kernel) rfl (by decide +kernel) ?_
  refine fx_ci (0) 3 (by decide +kernel) ?_
  refine fx_la 0 4 (v := 2) (by decide +kernel) rfl (by decide +kernel) ?_
  refine fx_li 1 5 (by decide +kernel) rfl ?_
  refine fx_li 2 6 (by decide +kernel) rfl ?_
  refine fx_li 3 7 (by decide +kernel) rfl ?_
  obtain ⟨e1, e2⟩ := f_qm_ok (W := W) (L := [2, fI a, fI b, fI c, 1274, 7]) (g := g) (S := [fI c, fI b, fI a, 2, fI 0, 1274]) (rest := [fI 0, 1274]) (mi := 141) (pc := 7) (mj := 142) (n := 4) (op := 21) (a := 2) (av' := [fI a, fI b, fI c]) (by decide +kernel) (by decide +kernel) (fun K => rfl) (fun t => absurd t (by decide))
  refine fx_callH (l := 0) (r := 0) (by omega) e1 e2 (by decide +kernel) (dj := 4) (by decide) (by decide +kernel) (pc' := 10) rfl (Lj := [2, fI a, fI b, fI c]) (f_xp (by intro v hv; simp only [List.mem_cons, List.not_mem_nil, or_false] at hv; rcases hv with rfl | rfl | rfl | rfl; exact (by decide); exact fI_n4 _; exact fI_n4 _; exact fI_n4 _) (show 4 ≤ _ by decide +kernel)) ?_
  refine h.mono (fun kd v g' hp => ?_)
  rcases k kd v g' hp with ⟨rfl, z, rfl, rz, q⟩ | ⟨rfl, q⟩
  · refine fKH1 ?_
    refine fx_i2l 11 (by decide +kernel) rfl ?_
    refine fx_las 1274 159 1 12 (by decide +kernel) rfl (by omega) (by omega) (by decide +kernel) (fJ_ok _).1 (fJ_ok _).2 ?_
    exact fx_go 19 (by decide +kernel) (fx_ci 0 20 (by decide +kernel) (fx_ret (by decide +kernel) q))
  · refine fKH2 2 17 5 (by decide +kernel) (Or.inr (f_n4p (v := 1274) rfl (by decide))) rfl ?_
    dsimp only [List.set]
    exact fx_ci 1 18 (by decide +kernel) (fx_ret (by decide +kernel) q)
theorem sp_ceats {a b c : Int} {segs : List (List Int × Int × Int)} (hr : 1 ≤ r) (ha : fR a) (hb : fR b) (hc : fR c) (p0 : 0 ≤ g 3 4) (p1 : g 3 4 ≤ 8) (d0 : 0 ≤ g 3 5) (d1 : g 3 5 ≤ 6) (hL : LwL g segs) (hS : ∀ p : Nat, p < 8 → ∀ pl d, SgOK (cFv_table g p pl d) segs) (he : ∀ j : Nat, j < 48 → 0 ≤ g 6 j ∧ g 6 j ≤ 9)
    (k1 : ¬ ((0 ≤ a ∧ a < g 3 4) ∧ (0 ≤ b ∧ b ≤ 7) ∧ (0 ≤ c ∧ c < g 3 5)) → Q 4 0 g)
    (k2 : ∀ p : Nat, a = p → (p : Int) < g 3 4 → 0 ≤ b ∧ b ≤ 7 → 0 ≤ c ∧ c < g 3 5 → ∀ g', fFS g g' → Q 1 (fI (if 0 ≤ g 6 (c * 8 + b).toNat + lwM (cFv_table g p b c) segs 0 then g 6 (c * 8 + b).toNat + lwM (cFv_table g p b c) segs 0 else 0)) g') : fx W r 4 142 0 [2, fI a, fI b, fI c] [] g Q := by
  refine fx_la 0 1 (v := 2) (by decide +kernel) rfl (by decide +kernel) ?_
  refine fx_li 1 2 (by decide +kernel) rfl ?_
  refine fx_c2 123 21 5 0 [] (by decide +kernel) (by decide) (by decide) (fI_n4 _) rfl (by first | decide | omega) ?_
  refine sp_cneedPerson hr ha p0 p1 (fun t => fK0 ?_) (fun t => fK2 (k := 2) ?_)
  · refine fx_la 0 6 (v := 2) (by decide +kernel) rfl (by decide +kernel) ?_
    refine fx_li 2 7 (by decide +kernel) rfl ?_
    refine fx_c2 140 21 10 0 [] (by decide +kernel) (by decide) (by decide) (fI_n4 _) rfl (by first | decide | omega) ?_
    refine sp_needPlace hr hb (fun t2 => fK0 ?_) (fun t2 => fK2 (k := 2) ?_)
    · refine fx_la 0 11 (v := 2) (by decide +kernel) rfl (by decide +kernel) ?_
      refine fx_li 3 12 (by decide +kernel) rfl ?_
      refine fx_c2 139 21 15 0 [] (by decide +kernel) (by decide) (by decide) (fI_n4 _) rfl (by first | decide | omega) ?_
      refine sp_needDish hr hc d0 d1 (fun t3 => fK0 ?_) (fun t3 => fK2 (k := 2) ?_)
      · obtain ⟨p, rfl⟩ := Int.eq_ofNat_of_zero_le t.1
        refine fx_la 0 16 (v := 2) (by decide +kernel) rfl (by decide +kernel) ?_
        refine fx_gp 2 0 7 346 19 (by decide +kernel) ?_
        refine fx_la 0 20 (v := 2) (by decide +kernel) rfl (by decide +kernel) ?_
        refine fx_gp 2 0 3 130 23 (by decide +kernel) ?_
        refine fx_li 1 24 (by decide +kernel) rfl ?_
        refine fx_li 2 25 (by decide +kernel) rfl ?_
        refine fx_li 3 26 (by decide +kernel) rfl ?_
        refine fx_c5 143 21 29 3 [7] (by decide +kernel) (by decide) (by decide) (by decide) (fI_n4 _) (fI_n4 _) (fI_n4 _) rfl (by first | decide | omega) ?_
        refine sp_ceatenBy_table hL (hS p (by omega) b c) (by omega) t2 (by omega) (he _ (by omega)) (fun g1 x1 => fK1 ?_)
        refine fx_ret (by decide +kernel) ?_
        exact k2 p rfl t.2 t2 t3 g1 x1
      · exact k1 (fun q => t3 q.2.2)
    · exact k1 (fun q => t2 q.2.1)
  · exact k1 (fun q => t q.1)
theorem sp_meats {a b c : Int} {segs : List (List Int × Int × Int)} (ha : fR a) (hb : fR b) (hc : fR c) (p0 : 0 ≤ g 149 3) (p1 : g 149 3 ≤ 8) (d0 : 0 ≤ g 149 4) (d1 : g 149 4 ≤ 6) (hR : LwR (g 149) segs) (he : ∀ j : Nat, j < 48 → 0 ≤ g 149 (68 + j) ∧ g 149 (68 + j) ≤ 9 ∨ 8 * g 149 4 ≤ j)
    (k1 : ¬ ((0 ≤ a ∧ a < g 149 3) ∧ (0 ≤ b ∧ b ≤ 7) ∧ (0 ≤ c ∧ c < g 149 4)) → Q 1 (fI 0) (fu g 148 0 1))
    (k2 : ∀ p : Nat, a = p → (p : Int) < g 149 3 → 0 ≤ b ∧ b ≤ 7 → 0 ≤ c ∧ c < g 149 4 → ∀ g', rA (fu g 148 0 0) g' → Q 1 (fI (eV (g 149) segs p b c)) g') : fx W r 37 315 0 [1186, fI a, fI b, fI c] [] g Q := by
  refine fx_la 0 1 (v := 1186) (by decide +kernel) rfl (by decide +kernel) ?_
  refine fx_la 0 2 (v := 1186) (by decide +kernel) rfl (by decide +kernel) ?_
  refine fx_li 1 3 (by decide +kernel) rfl ?_
  refine fx_c2 298 21 6 1 [] (by decide +kernel) (by decide) (by decide) (fI_n4 _) rfl (by first | decide | omega) ?_
  refine sp_misPersonE ha p0 p1 (fun t => fK1 ?_) (fun t => fK1 ?_)
  · refine fx_zeq 24 9 (by decide +kernel) (by unfold fR; omega) (fun hc => absurd hc (by decide)) (fun _ => ?_)
    refine fx_li 2 10 (by decide +kernel) rfl ?_
    refine fx_c1 313 22 13 1 [] (f_q22 (by decide +kernel)) (fI_n4 _) rfl (by first | decide | omega) ?_
    refine sp_misPlace hb (fun t2 => fK1 ?_) (fun t2 => fK1 ?_)
    · refine fx_zeq 24 16 (by decide +kernel) (by unfold fR; omega) (fun hc => absurd hc (by decide)) (fun _ => ?_)
      refine fx_la 0 17 (v := 1186) (by decide +kernel) rfl (by decide +kernel) ?_
      refine fx_li 3 18 (by decide +kernel) rfl ?_
      refine fx_c2 312 21 21 1 [] (by decide +kernel) (by decide) (by decide) (fI_n4 _) rfl (by first | decide | omega) ?_
      refine sp_misDish hc d0 d1 (fun t3 => fK1 ?_) (fun t3 => fK1 ?_)
      · refine fx_zne 28 24 (by decide +kernel) (by unfold fR; omega) (fun _ => ?_) (fun hc => absurd hc (by decide))
        refine fx_ci (0) 29 (by decide +kernel) ?_
        refine fx_pi 1186 148 0 32 (by decide +kernel) (by unfold fR; omega) ?_
        refine fx_la 0 33 (v := 1186) (by decide +kernel) rfl (by decide +kernel) ?_
        refine fx_gi 1186 148 0 36 (by decide +kernel) ?_
        try simp only [fu_app, fcy_app, Nat.reduceEqDiff, and_true, and_false, false_and, true_and, if_true, if_false, ite_true, ite_false, reduceIte, Int.reduceToNat, fx_simp0]
        refine fx_zle 43 39 (by decide +kernel) (by unfold fR; omega) (fun h36 => ?_) (fun h36 => ?_)
        · refine fx_la 0 44 (v := 1186) (by decide +kernel) rfl (by decide +kernel) ?_
          refine fx_li 1 45 (by decide +kernel) rfl ?_
          refine fx_li 2 46 (by decide +kernel) rfl ?_
          refine fx_li 3 47 (by decide +kernel) rfl ?_
          obtain ⟨p, rfl⟩ := Int.eq_ofNat_of_zero_le t.1
          have em : fu g 148 0 0 149 = g 149 := by funext j; exact fu_nc (by decide)
          refine fx_c4 316 21 50 36 [] (by decide +kernel) (by decide) (by decide) (fI_n4 _) (fI_n4 _) (fI_n4 _) rfl (by first | decide | omega) ?_
          refine sp_meatsBy (segs := segs) (by rw [em]; exact hR) (by omega) t2 (by omega) (by rw [em]; have := he (c * 8 + b).toNat (by omega); omega) (fun g1 x1 => fK1 ?_)
          rw [em]
          refine fx_ret (by decide +kernel) ?_
          exact k2 p rfl t.2 t2 t3 g1 x1
        · exfalso; omega
      · refine fx_zne 28 24 (by decide +kernel) (by unfold fR; omega) (fun hc => absurd hc (by decide)) (fun _ => ?_)
        refine fx_ci (1) 25 (by decide +kernel) ?_
        refine fx_go 29 (by decide +kernel) ?_
        refine fx_pi 1186 148 0 32 (by decide +kernel) (by unfold fR; omega) ?_
        refine fx_la 0 33 (v := 1186) (by decide +kernel) rfl (by decide +kernel) ?_
        refine fx_gi 1186 148 0 36 (by decide +kernel) ?_
        try simp only [fu_app, fcy_app, Nat.reduceEqDiff, and_true, and_false, false_and, true_and, if_true, if_false, ite_true, ite_false, reduceIte, Int.reduceToNat, fx_simp0]
        refine fx_zle 43 39 (by decide +kernel) (by unfold fR; omega) (fun h36 => ?_) (fun h36 => ?_)
        · exfalso; omega
        · refine fx_ci (0) 40 (by decide +kernel) ?_
          refine fx_go 50 (by decide +kernel) ?_
          refine fx_ret (by decide +kernel) ?_
          exact k1 (fun q => t3 q.2.2)
    · refine fx_zeq 24 16 (by decide +kernel) (by unfold fR; omega) (fun _ => ?_) (fun hc => absurd hc (by decide))
      refine fx_ci (1) 25 (by decide +kernel) ?_
      refine fx_go 29 (by decide +kernel) ?_
      refine fx_pi 1186 148 0 32 (by decide +kernel) (by unfold fR; omega) ?_
      refine fx_la 0 33 (v := 1186) (by decide +kernel) rfl (by decide +kernel) ?_
      refine fx_gi 1186 148 0 36 (by decide +kernel) ?_
      try simp only [fu_app, fcy_app, Nat.reduceEqDiff, and_true, and_false, false_and, true_and, if_true, if_false, ite_true, ite_false, reduceIte, Int.reduceToNat, fx_simp0]
      refine fx_zle 43 39 (by decide +kernel) (by unfold fR; omega) (fun h36 => ?_) (fun h36 => ?_)
      · exfalso; omega
      · refine fx_ci (0) 40 (by decide +kernel) ?_
        refine fx_go 50 (by decide +kernel) ?_
        refine fx_ret (by decide +kernel) ?_
        exact k1 (fun q => t2 q.2.1)
  · refine fx_zeq 24 9 (by decide +kernel) (by unfold fR; omega) (fun _ => ?_) (fun hc => absurd hc (by decide))
    refine fx_ci (1) 25 (by decide +kernel) ?_
    refine fx_go 29 (by decide +kernel) ?_
    refine fx_pi 1186 148 0 32 (by decide +kernel) (by unfold fR; omega) ?_
    refine fx_la 0 33 (v := 1186) (by decide +kernel) rfl (by decide +kernel) ?_
    refine fx_gi 1186 148 0 36 (by decide +kernel) ?_
    try simp only [fu_app, fcy_app, Nat.reduceEqDiff, and_true, and_false, false_and, true_and, if_true, if_false, ite_true, ite_false, reduceIte, Int.reduceToNat, fx_simp0]
    refine fx_zle 43 39 (by decide +kernel) (by unfold fR; omega) (fun h36 => ?_) (fun h36 => ?_)
    · exfalso; omega
    · refine fx_ci (0) 40 (by decide +kernel) ?_
      refine fx_go 50 (by decide +kernel) ?_
      refine fx_ret (by decide +kernel) ?_
      exact k1 (fun q => t q.1)
def HM_eats (g : Nat → Nat → Int) (a b c zc : Int) (g1 : Nat → Nat → Int) : Prop := ∃ segs, LwR (g 149) segs ∧ ((zc = 1 ∧ ¬ ((0 ≤ a ∧ a < g 149 3) ∧ (0 ≤ b ∧ b ≤ 7) ∧ (0 ≤ c ∧ c < g 149 4)) ∧ g1 = g) ∨ (zc = 0 ∧ ∃ (p : Nat) (gf : Nat → Nat → Int), a = p ∧ (p : Int) < g 149 3 ∧ (0 ≤ b ∧ b ≤ 7) ∧ (0 ≤ c ∧ c < g 149 4) ∧ fFS g gf ∧ g1 = fu gf 159 0 ((fJ (eV (g 149) segs p b c) - 4 : Nat) : Int)))
theorem eV_b {t : Nat → Int} {segs : List (List Int × Int × Int)} {p : Nat} {b c : Int} (hR : LwR t segs) (e : 0 ≤ t (68 + (c * 8 + b).toNat) ∧ t (68 + (c * 8 + b).toNat) ≤ 9) : 0 ≤ eV t segs p b c ∧ eV t segs p b c ≤ 1000 := by
  have hok := hR.ok (mFv_78 t p b c)
  have hmb := lwM_b (F := mFv t p b c) segs 0 (fun s hs => (hok s hs).2.2)
  have h12 := hR.2.2.2
  unfold eV
  split <;> omega
theorem sp_w_eats {a b c : Int} (hl : 1 ≤ W.lim) (ha : fR a) (hb : fR b) (hc : fR c) (hi : LI g) (hB : LB2 g) : fx W 1 5 141 0 [2, fI a, fI b, fI c, 1274, 7] [] g (fun k v g1 => k = 1 ∧ ∃ zc, v = fI zc ∧ 0 ≤ zc ∧ zc ≤ 3 ∧ HM_eats g a b c zc g1) := by
  obtain ⟨segs, hR, hL⟩ := RLw_2 hi.2.2.1
  have hH := hi.1.2.1
  have hT := hi.1.2.2.1.1
  have e3 : g 3 4 = g 149 3 := hH.1
  have e4 : g 3 5 = g 149 4 := hH.2.1
  have b1 := hB.1.1
  have b2 := hB.1.2.1
  have be := hB.2.2.2.2.2.2.2
  refine sp_wg_eats (P := fun kd v g1 => (kd = 4 ∧ v = 0 ∧ ¬ ((0 ≤ a ∧ a < g 3 4) ∧ (0 ≤ b ∧ b ≤ 7) ∧ (0 ≤ c ∧ c < g 3 5)) ∧ g1 = g) ∨ (kd = 1 ∧ ∃ p : Nat, v = fI (eV (g 149) segs p b c) ∧ fR (eV (g 149) segs p b c) ∧ a = p ∧ (p : Int) < g 3 4 ∧ (0 ≤ b ∧ b ≤ 7) ∧ (0 ≤ c ∧ c < g 3 5) ∧ fFS g g1)) hl ?_ (fun kd v g1 hp => ?_)
  · refine sp_ceats (Nat.le_refl 1) ha hb hc b1.1 b1.2 b2.1 b2.2 hL (fun p hp pl d => by rw [cF_m_table hH hT hp]; exact hR.ok (mFv_78 _ _ _ _)) be (fun t => Or.inl ⟨rfl, rfl, t, rfl⟩) (fun p q1 q2 q3 q4 g' x => Or.inr ⟨rfl, p, ?_, ?_, q1, q2, q3, q4, x⟩)
    · rw [cF_m_table hH hT (by omega), hH.2.2.2.2.2.2.2.2.1 (c * 8 + b).toNat (by show ((c * 8 + b).toNat : Int) < 8 * g 3 5; omega)]
      rfl
    · have ee : g 6 (c * 8 + b).toNat = g 149 (68 + (c * 8 + b).toNat) := hH.2.2.2.2.2.2.2.2.1 (c * 8 + b).toNat (by show ((c * 8 + b).toNat : Int) < 8 * g 3 5; omega)
      have eb := eV_b (p := p) hR (by rw [← ee]; exact be (c * 8 + b).toNat (by omega))
      unfold fR
      omega
  · rcases hp with ⟨rfl, rfl, t, rfl⟩ | ⟨rfl, p, rfl, rz, q1, q2, q3, q4, x⟩
    · exact Or.inr ⟨rfl, rfl, 1, rfl, by decide, by decide, segs, hR, Or.inl ⟨rfl, by rw [← e3, ← e4]; exact t, rfl⟩⟩
    · exact Or.inl ⟨rfl, _, rfl, rz, rfl, 0, rfl, by decide, by decide, segs, hR, Or.inr ⟨rfl, p, g1, q1, by rw [← e3]; exact q2, q3, by rw [← e4]; exact q4, x, rfl⟩⟩
theorem sp_r_eats {a b c zc : Int} {g1 : Nat → Nat → Int} (ha : fR a) (hb : fR b) (hc : fR c) (hi : LI g) (hB : LB2 g) (hm : HM_eats g a b c zc g1) : fx W r 37 315 0 [1186, fI a, fI b, fI c] [] g1 (PMa g1 zc) := by
  obtain ⟨segs, hR, hm⟩ := hm
  have hH := hi.1.2.1
  have e4 : g 3 5 = g 149 4 := hH.2.1
  have d2 := hB.2.1.2.1
  have d3 := hB.2.1.2.2.1
  have be := hB.2.2.2.2.2.2.2
  have em : g1 149 = g 149 := by
    funext j
    rcases hm with ⟨-, -, rfl⟩ | ⟨-, p, gf, -, -, -, -, x, rfl⟩
    · rfl
    · rw [fu_nc (by decide)]; exact x _ _ (by decide) (by decide)
  have he : ∀ j : Nat, (j : Int) < 8 * g 149 4 → 0 ≤ g 149 (68 + j) ∧ g 149 (68 + j) ≤ 9 := fun j hj => by
    rw [← hH.2.2.2.2.2.2.2.2.1 j (by show (j : Int) < 8 * g 3 5; omega)]
    exact be j (by omega)
  refine sp_meats (segs := segs) ha hb hc (by rw [em]; exact d2.1) (by rw [em]; exact d2.2) (by rw [em]; exact d3.1) (by rw [em]; exact d3.2) (by rw [em]; exact hR) (fun j hj => by
    rw [em]
    by_cases k : (j : Int) < 8 * g 149 4
    · exact Or.inl (he j k)
    · exact Or.inr (by omega)) ?_ ?_
  all_goals rw [em]
  · intro t
    rcases hm with ⟨rfl, -, rfl⟩ | ⟨-, p, gf, q1, q2, q3, q4, -⟩
    · exact PMa_no hi (by decide)
    · exact absurd ⟨⟨by omega, by omega⟩, q3, q4⟩ t
  · intro p q1 q2 q3 q4 g2 x2
    rcases hm with ⟨-, t, -⟩ | ⟨rfl, p', gf, r1, -, -, -, x, h1⟩
    · exact absurd ⟨⟨by omega, by omega⟩, q3, q4⟩ t
    · have pp : p = p' := by omega
      subst pp
      have eb := eV_b (p := p) hR (he (c * 8 + b).toNat (by omega))
      have l1 : LI g1 := by rw [h1]; exact LI_out (LI_fs hi x)
      refine ⟨rfl, _, rfl, by unfold fR; omega, LI_rA (LI_th l1) x2, ?_, fun _ => by rw [h1, fu_eq], ?_⟩
      · rw [x2 _ _ (by decide) (by decide), fu_eq]
      · rw [x2 _ _ (by decide) (by decide), fu_nc (by decide)]
end FIT
