/-! fx: starves, ahead, trial, span leave m as it was -/
section FYT
variable {W : ax_W} {r dd : Nat} {g : Nat → Nat → Int} {Q : Nat → Nat → (Nat → Nat → Int) → Prop} {cP cB cI cG cM cO cC cT cA : ax_C}
theorem gHs_th {z : Int} (hg : gHs g) (h0 : fR (g 148 0)) (hz : fR z) : gHs (fu g 148 0 z) := gHs_fu hg (by decide) (by decide +kernel) (by decide +kernel) (by decide +kernel) (e := 1) (by decide +kernel) h0 hz
theorem gHs_11 {z : Int} (hg : gHs g) (h0 : fR (g 149 11)) (hz : fR z) : gHs (fu g 149 11 z) := gHs_fu hg (by decide) (by decide +kernel) (by decide +kernel) (by decide +kernel) (e := 12) (by decide +kernel) h0 hz
theorem as_1 : ax_As [(0, 1186, 0)] [1186] := ⟨ax_Aq_m, True.intro⟩
theorem as_p {v : Int} (h0 : 0 ≤ v) (h1 : v ≤ 7) : ax_As [(0, 1186, 0), (1, 2147483648, 2147483655)] [1186, fI v] := ⟨ax_Aq_m, ax_Aq_r (by unfold fR; omega) (by omega) (by omega), True.intro⟩
theorem as_g {v w : Int} (h0 : 0 ≤ v) (h1 : v ≤ 60) (h2 : 0 ≤ w) (h3 : w ≤ 1) : ax_As [(0, 1186, 0), (1, 2147483648, 2147483708), (1, 2147483648, 2147483649)] [1186, fI v, fI w] := ⟨ax_Aq_m, ax_Aq_r (by unfold fR; omega) (by omega) (by omega), ax_Aq_r (by unfold fR; omega) (by omega) (by omega), True.intro⟩
theorem as_o {v w : Int} (h0 : 0 ≤ v) (h1 : v ≤ 7) (h2 : 0 ≤ w) (h3 : w ≤ 6) : ax_As [(0, 1186, 0), (1, 2147483648, 2147483655), (1, 2147483648, 2147483654)] [1186, fI v, fI w] := ⟨ax_Aq_m, ax_Aq_r (by unfold fR; omega) (by omega) (by omega), ax_Aq_r (by unfold fR; omega) (by omega) (by omega), True.intro⟩
theorem sp_starves_2 {g0 : Nat → Nat → Int} {v a : Int} {x3 x4 : Nat} (hr : 1 ≤ r) (kB : KD W.N W.sy 294 dd cB) (kq : ∀ v g', (∀ j, j < 364 → g' 149 j = g0 149 j) → Q 1 v g') (hg : KA g0 g) : fx W r (dd + 1) 394 77 [1186, fI v, fI a, x3, x4] [] g Q := by
  refine fx_la 0 78 (v := 1186) (by decide +kernel) rfl (by decide +kernel) ?_
  refine fx_c1 294 21 81 dd [7] (by decide +kernel) (by decide) rfl (by first | decide | omega) ?_
  refine ka_comes (W := fWl W 0) kB hg hr (fun g1 h1 h2 => fK0 ?_)
  refine fx_li 2 82 (by decide +kernel) rfl ?_
  refine fx_ret (by decide +kernel) ?_
  exact kq _ _ h2
theorem sp_starves_1 {g0 : Nat → Nat → Int} {v : Int} (hr : 1 ≤ r) (v0 : 0 ≤ v) (v1 : v ≤ 7) (kB : KD W.N W.sy 294 dd cB) (kI : KC W.N W.sy 301 [(0, 1186, 0), (1, 2147483648, 2147483655)] dd cI) (kG : KC W.N W.sy 338 [(0, 1186, 0), (1, 2147483648, 2147483708), (1, 2147483648, 2147483649)] dd cG) (kM : KC W.N W.sy 300 [(0, 1186, 0), (1, 2147483648, 2147483655)] dd cM)
    (kq : ∀ v g', (∀ j, j < 364 → g' 149 j = g0 149 j) → Q 1 v g') : ∀ (n k : Nat) (a : Int) (x4 : Nat) (g : Nat → Nat → Int), k + n = 61 → fR a → KA g0 g → fx W r (dd + 1) 394 34 [1186, fI v, fI a, fI (k : Int), x4] [] g Q
  | n, k, a, x4, g, hn, ha, hg => by
    have ha2 := ha
    unfold fR at ha2
    refine fx_li 3 35 (by decide +kernel) rfl ?_
    refine fx_ci (60) 37 (by decide +kernel) ?_
    refine fx_igt 77 40 (by decide +kernel) (by unfold fR; omega) (by unfold fR; omega) (fun h37 => ?_) (fun h37 => ?_)
    · exact sp_starves_2 hr kB kq hg
    · refine fx_li 2 41 (by decide +kernel) rfl ?_
      refine fx_cn (-1) 42 (by decide +kernel) (fun v41 c41 => ?_)
      refine fx_ine 77 45 (by decide +kernel) (by unfold fR; omega) (by unfold fR; omega) (fun h42 => ?_) (fun h42 => ?_)
      · exact sp_starves_2 hr kB kq hg
      · refine fx_la 0 46 (v := 1186) (by decide +kernel) rfl (by decide +kernel) ?_
        refine fx_li 1 47 (by decide +kernel) rfl ?_
        refine fx_c2 301 21 50 dd [] (by decide +kernel) (by decide) (by decide) (fI_n4 _) rfl (by first | decide | omega) ?_
        refine fx_ka (W := fWl W 0) kI hg (as_p v0 v1) (f_xp (f_n4_2 (by decide)) (show 2 ≤ _ by decide +kernel)) hr (fun z1 g1 r1 hg1 => fK1 ?_)
        unfold fR at r1
        refine fx_zeq 77 53 (by decide +kernel) (by unfold fR; omega) (fun h50 => ?_) (fun h50 => ?_)
        · exact sp_starves_2 hr kB kq hg1
        · refine fx_la 0 54 (v := 1186) (by decide +kernel) rfl (by decide +kernel) ?_
          refine fx_ci (1) 55 (by decide +kernel) ?_
          refine fx_ci (0) 56 (by decide +kernel) ?_
          refine fx_c3 338 21 59 dd [7, 7] (by decide +kernel) (by decide) (by decide) (fI_n4 _) (fI_n4 _) rfl (by first | decide | omega) ?_
          refine fx_ka (W := fWl W 0) kG hg1 (as_g (by decide) (by decide) (by decide) (by decide)) (f_xp (f_n4_3 (by decide)) (show 3 ≤ _ by decide +kernel)) hr (fun z2 g2 r2 hg2 => fK1 ?_)
          refine fx_si 4 61 (by decide +kernel) (Or.inr (fI_n4 _)) rfl ?_
          dsimp only [List.set]
          refine fx_la 0 62 (v := 1186) (by decide +kernel) rfl (by decide +kernel) ?_
          refine fx_li 1 63 (by decide +kernel) rfl ?_
          refine fx_c2 300 21 66 dd [] (by decide +kernel) (by decide) (by decide) (fI_n4 _) rfl (by first | decide | omega) ?_
          refine fx_ka (W := fWl W 0) kM hg2 (as_p v0 v1) (f_xp (f_n4_2 (by decide)) (show 2 ≤ _ by decide +kernel)) hr (fun z3 g3 r3 hg3 => fK1 ?_)
          unfold fR at r3
          refine fx_zeq 71 69 (by decide +kernel) (by unfold fR; omega) (fun h66 => ?_) (fun h66 => ?_)
          · refine fx_inc 3 74 (1) (by decide +kernel) rfl (Or.inr (fI_n4 _)) rfl ?_
            dsimp only [List.set]
            refine fx_go 34 (by decide +kernel) ?_
            match n, hn with
            | 0, hn => exfalso; omega
            | n + 1, hn => exact sp_starves_1 hr v0 v1 kB kI kG kM kq n (k + 1) a _ g3 (by omega) ha hg3
          · refine fx_li 3 70 (by decide +kernel) rfl ?_
            refine fx_si 2 71 (by decide +kernel) (Or.inr (fI_n4 _)) rfl ?_
            dsimp only [List.set]
            refine fx_inc 3 74 (1) (by decide +kernel) rfl (Or.inr (fI_n4 _)) rfl ?_
            dsimp only [List.set]
            refine fx_go 34 (by decide +kernel) ?_
            match n, hn with
            | 0, hn => exfalso; omega
            | n + 1, hn => exact sp_starves_1 hr v0 v1 kB kI kG kM kq n (k + 1) (k : Int) _ g3 (by omega) (by unfold fR; omega) hg3
theorem sp_starves {v : Int} (h3 : 3 ≤ dd) (hr : 1 ≤ r) (hv : fR v) (hg : gHs g) (kP : KD W.N W.sy 268 dd cP) (kB : KD W.N W.sy 294 dd cB) (kI : KC W.N W.sy 301 [(0, 1186, 0), (1, 2147483648, 2147483655)] dd cI) (kG : KC W.N W.sy 338 [(0, 1186, 0), (1, 2147483648, 2147483708), (1, 2147483648, 2147483649)] dd cG) (kM : KC W.N W.sy 300 [(0, 1186, 0), (1, 2147483648, 2147483655)] dd cM)
    (kq : ∀ v g', (∀ j, j < 364 → g' 149 j = g 149 j) → Q 1 v g') : fx W r (dd + 1) 394 0 [1186, fI v, 7, 7, 7] [] g Q := by
  refine fx_m3 hg (fun b3 => ?_)
  refine fx_rg (fun hr0 => ?_)
  have r0 := hr0 148 0 (by decide) (by decide +kernel) (by decide +kernel)
  refine fx_la 0 1 (v := 1186) (by decide +kernel) rfl (by decide +kernel) ?_
  refine fx_la 0 2 (v := 1186) (by decide +kernel) rfl (by decide +kernel) ?_
  refine fx_li 1 3 (by decide +kernel) rfl ?_
  refine fx_c2 298 21 6 1 [] (by decide +kernel) (by decide) (by decide) (fI_n4 _) rfl (by first | decide | omega) ?_
  refine sp_isPerson hv b3.1 b3.2 (fun t => fK1 ?_) (fK1 ?_)
  · refine fx_zne 13 9 (by decide +kernel) (by unfold fR; omega) (fun _ => ?_) (fun hc => absurd hc (by decide))
    refine fx_ci (0) 14 (by decide +kernel) ?_
    refine fx_pi 1186 148 0 17 (by decide +kernel) (by unfold fR; omega) ?_
    refine fx_la 0 18 (v := 1186) (by decide +kernel) rfl (by decide +kernel) ?_
    refine fx_gi 1186 148 0 21 (by decide +kernel) ?_
    try simp only [fu_app, fcy_app, Nat.reduceEqDiff, and_true, and_false, false_and, true_and, if_true, if_false, ite_true, ite_false, reduceIte, Int.reduceToNat, fx_simp0]
    refine fx_zle 26 24 (by decide +kernel) (by unfold fR; omega) (fun h21 => ?_) (fun h21 => ?_)
    · refine fx_la 0 27 (v := 1186) (by decide +kernel) rfl (by decide +kernel) ?_
      refine fx_c1 268 21 30 dd [7] (by decide +kernel) (by decide) rfl (by first | decide | omega) ?_
      refine ka_puts (W := fWl W 0) kP (gHs_th hg r0 (by unfold fR; omega)) hr (fun g2 h2 => fK0 ?_)
      refine fx_cn (-1) 31 (by decide +kernel) (fun v30 c30 => ?_)
      refine fx_si 2 32 (by decide +kernel) (Or.inr (fI_n4 _)) rfl ?_
      dsimp only [List.set]
      refine fx_ci (1) 33 (by decide +kernel) ?_
      refine fx_si 3 34 (by decide +kernel) (Or.inr (fI_n4 _)) rfl ?_
      dsimp only [List.set]
      exact sp_starves_1 hr t.1 t.2 kB kI kG kM kq 60 1 _ _ _ rfl (by unfold fR; omega) (KA_fu (by decide) h2)
    · refine fx_ci (0) 25 (by decide +kernel) ?_
      refine fx_ret (by decide +kernel) ?_
      exact kq _ _ (fun j hj => fu_nc (by decide))
  · refine fx_zne 13 9 (by decide +kernel) (by unfold fR; omega) (fun hc => absurd hc (by decide)) (fun _ => ?_)
    refine fx_ci (1) 10 (by decide +kernel) ?_
    refine fx_go 14 (by decide +kernel) ?_
    refine fx_pi 1186 148 0 17 (by decide +kernel) (by unfold fR; omega) ?_
    refine fx_la 0 18 (v := 1186) (by decide +kernel) rfl (by decide +kernel) ?_
    refine fx_gi 1186 148 0 21 (by decide +kernel) ?_
    try simp only [fu_app, fcy_app, Nat.reduceEqDiff, and_true, and_false, false_and, true_and, if_true, if_false, ite_true, ite_false, reduceIte, Int.reduceToNat, fx_simp0]
    refine fx_zle 26 24 (by decide +kernel) (by unfold fR; omega) (fun h21 => ?_) (fun h21 => ?_)
    · exfalso; omega
    · refine fx_ci (0) 25 (by decide +kernel) ?_
      refine fx_ret (by decide +kernel) ?_
      exact kq _ _ (fun j hj => fu_nc (by decide))
theorem sp_ahead {v w : Int} (h3 : 3 ≤ dd) (hr : 1 ≤ r) (hv : fR v) (hw : fR w) (hg : gHs g) (kP : KD W.N W.sy 268 dd cP) (kB : KD W.N W.sy 294 dd cB) (kG : KC W.N W.sy 338 [(0, 1186, 0), (1, 2147483648, 2147483708), (1, 2147483648, 2147483649)] dd cG) (kO : KC W.N W.sy 299 [(0, 1186, 0), (1, 2147483648, 2147483655), (1, 2147483648, 2147483654)] dd cO)
    (kq : ∀ v g', (∀ j, j < 364 → g' 149 j = g 149 j) → Q 1 v g') : fx W r (dd + 1) 397 0 [1186, fI v, fI w, 7, 7] [] g Q := by
  refine fx_m3 hg (fun b3 => ?_)
  refine fx_rg (fun hr0 => ?_)
  have r0 := hr0 148 0 (by decide) (by decide +kernel) (by decide +kernel)
  refine fx_la 0 1 (v := 1186) (by decide +kernel) rfl (by decide +kernel) ?_
  refine fx_la 0 2 (v := 1186) (by decide +kernel) rfl (by decide +kernel) ?_
  refine fx_li 1 3 (by decide +kernel) rfl ?_
  refine fx_c2 298 21 6 1 [] (by decide +kernel) (by decide) (by decide) (fI_n4 _) rfl (by first | decide | omega) ?_
  refine sp_isPerson hv b3.1 b3.2 (fun t => fK1 ?_) (fK1 ?_)
  · refine fx_zne 13 9 (by decide +kernel) (by unfold fR; omega) (fun _ => ?_) (fun hc => absurd hc (by decide))
    refine fx_li 2 14 (by decide +kernel) rfl ?_
    refine fx_c1 398 22 17 1 [] (f_q22 (by decide +kernel)) (fI_n4 _) rfl (by first | decide | omega) ?_
    refine sp_isNights hw (fun u => fK1 ?_) (fK1 ?_)
    · refine fx_zne 24 20 (by decide +kernel) (by unfold fR; omega) (fun _ => ?_) (fun hc => absurd hc (by decide))
      refine fx_ci (0) 25 (by decide +kernel) ?_
      refine fx_pi 1186 148 0 28 (by decide +kernel) (by unfold fR; omega) ?_
      refine fx_la 0 29 (v := 1186) (by decide +kernel) rfl (by decide +kernel) ?_
      refine fx_gi 1186 148 0 32 (by decide +kernel) ?_
      try simp only [fu_app, fcy_app, Nat.reduceEqDiff, and_true, and_false, false_and, true_and, if_true, if_false, ite_true, ite_false, reduceIte, Int.reduceToNat, fx_simp0]
      refine fx_zle 37 35 (by decide +kernel) (by unfold fR; omega) (fun h32 => ?_) (fun h32 => ?_)
      · refine fx_la 0 38 (v := 1186) (by decide +kernel) rfl (by decide +kernel) ?_
        refine fx_c1 268 21 41 dd [7] (by decide +kernel) (by decide) rfl (by first | decide | omega) ?_
        refine ka_puts (W := fWl W 0) kP (gHs_th hg r0 (by unfold fR; omega)) hr (fun g2 h2 => fK0 ?_)
        refine fx_la 0 42 (v := 1186) (by decide +kernel) rfl (by decide +kernel) ?_
        refine fx_li 2 43 (by decide +kernel) rfl ?_
        refine fx_ci (0) 44 (by decide +kernel) ?_
        refine fx_c3 338 21 47 dd [7, 7] (by decide +kernel) (by decide) (by decide) (fI_n4 _) (fI_n4 _) rfl (by first | decide | omega) ?_
        refine fx_ka (W := fWl W 0) kG h2 (as_g u.1 u.2 (by decide) (by decide)) (f_xp (f_n4_3 (by decide)) (show 3 ≤ _ by decide +kernel)) hr (fun z3 g3 r3 h3 => fK1 ?_)
        refine fx_si 3 48 (by decide +kernel) (Or.inr (fI_n4 _)) rfl ?_
        dsimp only [List.set]
        refine fx_la 0 49 (v := 1186) (by decide +kernel) rfl (by decide +kernel) ?_
        refine fx_li 1 50 (by decide +kernel) rfl ?_
        refine fx_ci (6) 52 (by decide +kernel) ?_
        refine fx_c3 299 21 55 dd [] (by decide +kernel) (by decide) (by decide) (fI_n4 _) (fI_n4 _) rfl (by first | decide | omega) ?_
        refine fx_ka (W := fWl W 0) kO h3 (as_o t.1 t.2 (by decide) (by decide)) (f_xp (f_n4_3 (by decide)) (show 3 ≤ _ by decide +kernel)) hr (fun z4 g4 r4 h4 => fK1 ?_)
        refine fx_si 4 57 (by decide +kernel) (Or.inr (fI_n4 _)) rfl ?_
        dsimp only [List.set]
        refine fx_la 0 58 (v := 1186) (by decide +kernel) rfl (by decide +kernel) ?_
        refine fx_c1 294 21 61 dd [7] (by decide +kernel) (by decide) rfl (by first | decide | omega) ?_
        refine ka_comes (W := fWl W 0) kB (KA_fu (by decide) h4) hr (fun g5 h5 h6 => fK0 ?_)
        refine fx_li 4 63 (by decide +kernel) rfl ?_
        refine fx_ret (by decide +kernel) ?_
        exact kq _ _ h6
      · refine fx_ci (0) 36 (by decide +kernel) ?_
        refine fx_ret (by decide +kernel) ?_
        exact kq _ _ (fun j hj => fu_nc (by decide))
    · refine fx_zne 24 20 (by decide +kernel) (by unfold fR; omega) (fun hc => absurd hc (by decide)) (fun _ => ?_)
      refine fx_ci (2) 21 (by decide +kernel) ?_
      refine fx_go 25 (by decide +kernel) ?_
      refine fx_pi 1186 148 0 28 (by decide +kernel) (by unfold fR; omega) ?_
      refine fx_la 0 29 (v := 1186) (by decide +kernel) rfl (by decide +kernel) ?_
      refine fx_gi 1186 148 0 32 (by decide +kernel) ?_
      try simp only [fu_app, fcy_app, Nat.reduceEqDiff, and_true, and_false, false_and, true_and, if_true, if_false, ite_true, ite_false, reduceIte, Int.reduceToNat, fx_simp0]
      refine fx_zle 37 35 (by decide +kernel) (by unfold fR; omega) (fun h32 => ?_) (fun h32 => ?_)
      · exfalso; omega
      · refine fx_ci (0) 36 (by decide +kernel) ?_
        refine fx_ret (by decide +kernel) ?_
        exact kq _ _ (fun j hj => fu_nc (by decide))
  · refine fx_zne 13 9 (by decide +kernel) (by unfold fR; omega) (fun hc => absurd hc (by decide)) (fun _ => ?_)
    refine fx_ci (1) 10 (by decide +kernel) ?_
    refine fx_go 25 (by decide +kernel) ?_
    refine fx_pi 1186 148 0 28 (by decide +kernel) (by unfold fR; omega) ?_
    refine fx_la 0 29 (v := 1186) (by decide +kernel) rfl (by decide +kernel) ?_
    refine fx_gi 1186 148 0 32 (by decide +kernel) ?_
    try simp only [fu_app, fcy_app, Nat.reduceEqDiff, and_true, and_false, false_and, true_and, if_true, if_false, ite_true, ite_false, reduceIte, Int.reduceToNat, fx_simp0]
    refine fx_zle 37 35 (by decide +kernel) (by unfold fR; omega) (fun h32 => ?_) (fun h32 => ?_)
    · exfalso; omega
    · refine fx_ci (0) 36 (by decide +kernel) ?_
      refine fx_ret (by decide +kernel) ?_
      exact kq _ _ (fun j hj => fu_nc (by decide))
theorem sp_trial {v w : Int} (h3 : 3 ≤ dd) (hr : 1 ≤ r) (hv : fR v) (hw : fR w) (hg : gHs g) (kP : KD W.N W.sy 268 dd cP) (kB : KD W.N W.sy 294 dd cB) (kG : KC W.N W.sy 338 [(0, 1186, 0), (1, 2147483648, 2147483708), (1, 2147483648, 2147483649)] dd cG) (kC : KC W.N W.sy 400 [(0, 1186, 0)] dd cC) (kT : KC W.N W.sy 401 [(0, 1186, 0)] dd cT)
    (kq : ∀ v g', (∀ j, j < 364 → g' 149 j = g 149 j) → Q 1 v g') : fx W r (dd + 1) 399 0 [1186, fI v, fI w, 7, 7] [] g Q := by
  refine fx_rg (fun hr0 => ?_)
  have r0 := hr0 148 0 (by decide) (by decide +kernel) (by decide +kernel)
  have hw2 := hw
  unfold fR at hw2
  refine fx_la 0 1 (v := 1186) (by decide +kernel) rfl (by decide +kernel) ?_
  refine fx_li 1 2 (by decide +kernel) rfl ?_
  refine fx_c1 398 22 5 1 [] (f_q22 (by decide +kernel)) (fI_n4 _) rfl (by first | decide | omega) ?_
  refine sp_isNights hv (fun u => fK1 ?_) (fK1 ?_)
  · refine fx_zne 12 8 (by decide +kernel) (by unfold fR; omega) (fun _ => ?_) (fun hc => absurd hc (by decide))
    refine fx_ci (0) 13 (by decide +kernel) ?_
    refine fx_pi 1186 148 0 16 (by decide +kernel) (by unfold fR; omega) ?_
    refine fx_la 0 17 (v := 1186) (by decide +kernel) rfl (by decide +kernel) ?_
    refine fx_gi 1186 148 0 20 (by decide +kernel) ?_
    try simp only [fu_app, fcy_app, Nat.reduceEqDiff, and_true, and_false, false_and, true_and, if_true, if_false, ite_true, ite_false, reduceIte, Int.reduceToNat, fx_simp0]
    refine fx_zle 25 23 (by decide +kernel) (by unfold fR; omega) (fun h20 => ?_) (fun h20 => ?_)
    · refine fx_la 0 26 (v := 1186) (by decide +kernel) rfl (by decide +kernel) ?_
      refine fx_c1 268 21 29 dd [7] (by decide +kernel) (by decide) rfl (by first | decide | omega) ?_
      refine ka_puts (W := fWl W 0) kP (gHs_th hg r0 (by unfold fR; omega)) hr (fun g2 h2 => fK0 ?_)
      refine fx_la 0 30 (v := 1186) (by decide +kernel) rfl (by decide +kernel) ?_
      refine fx_li 1 31 (by decide +kernel) rfl ?_
      refine fx_ci (1) 32 (by decide +kernel) ?_
      refine fx_c3 338 21 35 dd [7, 7] (by decide +kernel) (by decide) (by decide) (fI_n4 _) (fI_n4 _) rfl (by first | decide | omega) ?_
      refine fx_ka (W := fWl W 0) kG h2 (as_g u.1 u.2 (by decide) (by decide)) (f_xp (f_n4_3 (by decide)) (show 3 ≤ _ by decide +kernel)) hr (fun z3 g3 r3 h3 => fK1 ?_)
      refine fx_si 3 36 (by decide +kernel) (Or.inr (fI_n4 _)) rfl ?_
      dsimp only [List.set]
      refine fx_li 2 37 (by decide +kernel) rfl ?_
      refine fx_zeq 47 40 (by decide +kernel) (by unfold fR; omega) (fun h37 => ?_) (fun h37 => ?_)
      · refine fx_la 0 48 (v := 1186) (by decide +kernel) rfl (by decide +kernel) ?_
        refine fx_c1 401 21 51 dd [7, 7] (by decide +kernel) (by decide) rfl (by first | decide | omega) ?_
        refine fx_ka (W := fWl W 0) kT h3 as_1 (f_xp (f_n4_1 (by decide)) (show 1 ≤ _ by decide +kernel)) hr (fun z4 g4 r4 h4 => fK1 ?_)
        refine fx_si 4 53 (by decide +kernel) (Or.inr (fI_n4 _)) rfl ?_
        dsimp only [List.set]
        refine fx_la 0 54 (v := 1186) (by decide +kernel) rfl (by decide +kernel) ?_
        refine fx_c1 294 21 57 dd [7] (by decide +kernel) (by decide) rfl (by first | decide | omega) ?_
        refine ka_comes (W := fWl W 0) kB (KA_fu (by decide) h4) hr (fun g5 h5 h6 => fK0 ?_)
        refine fx_li 4 59 (by decide +kernel) rfl ?_
        refine fx_ret (by decide +kernel) ?_
        exact kq _ _ h6
      · refine fx_la 0 41 (v := 1186) (by decide +kernel) rfl (by decide +kernel) ?_
        refine fx_c1 400 21 44 dd [7, 7] (by decide +kernel) (by decide) rfl (by first | decide | omega) ?_
        refine fx_ka (W := fWl W 0) kC h3 as_1 (f_xp (f_n4_1 (by decide)) (show 1 ≤ _ by decide +kernel)) hr (fun z4 g4 r4 h4 => fK1 ?_)
        refine fx_go 51 (by decide +kernel) ?_
        refine fx_si 4 53 (by decide +kernel) (Or.inr (fI_n4 _)) rfl ?_
        dsimp only [List.set]
        refine fx_la 0 54 (v := 1186) (by decide +kernel) rfl (by decide +kernel) ?_
        refine fx_c1 294 21 57 dd [7] (by decide +kernel) (by decide) rfl (by first | decide | omega) ?_
        refine ka_comes (W := fWl W 0) kB (KA_fu (by decide) h4) hr (fun g5 h5 h6 => fK0 ?_)
        refine fx_li 4 59 (by decide +kernel) rfl ?_
        refine fx_ret (by decide +kernel) ?_
        exact kq _ _ h6
    · refine fx_ci (0) 24 (by decide +kernel) ?_
      refine fx_ret (by decide +kernel) ?_
      exact kq _ _ (fun j hj => fu_nc (by decide))
  · refine fx_zne 12 8 (by decide +kernel) (by unfold fR; omega) (fun hc => absurd hc (by decide)) (fun _ => ?_)
    refine fx_ci (1) 9 (by decide +kernel) ?_
    refine fx_go 13 (by decide +kernel) ?_
    refine fx_pi 1186 148 0 16 (by decide +kernel) (by unfold fR; omega) ?_
    refine fx_la 0 17 (v := 1186) (by decide +kernel) rfl (by decide +kernel) ?_
    refine fx_gi 1186 148 0 20 (by decide +kernel) ?_
    try simp only [fu_app, fcy_app, Nat.reduceEqDiff, and_true, and_false, false_and, true_and, if_true, if_false, ite_true, ite_false, reduceIte, Int.reduceToNat, fx_simp0]
    refine fx_zle 25 23 (by decide +kernel) (by unfold fR; omega) (fun h20 => ?_) (fun h20 => ?_)
    · exfalso; omega
    · refine fx_ci (0) 24 (by decide +kernel) ?_
      refine fx_ret (by decide +kernel) ?_
      exact kq _ _ (fun j hj => fu_nc (by decide))
theorem sp_span_1 {g0 : Nat → Nat → Int} {v w : Int} (h3 : 3 ≤ dd) (hr : 1 ≤ r) (v0 : 0 ≤ v) (v1 : v ≤ 60) (hw : fR w) (kB : KD W.N W.sy 294 dd cB) (kG : KC W.N W.sy 338 [(0, 1186, 0), (1, 2147483648, 2147483708), (1, 2147483648, 2147483649)] dd cG) (kA : KC W.N W.sy 403 [(0, 1186, 0)] dd cA)
    (kq : ∀ v g', (∀ j, j < 364 → g' 149 j = g0 149 j) → Q 1 v g') : ∀ (n k : Nat) (a : Int) (x5 x6 : Nat) (g : Nat → Nat → Int), k + n = 7 → fR a → KA g0 g → (∀ j, j < 364 → g 149 j = g0 149 j) → fx W r (dd + 1) 402 34 [1186, fI v, fI w, fI a, fI (k : Int), x5, x6] [] g Q
  | n, k, a, x5, x6, g, hn, ha, hg, hm => by
    have ha2 := ha
    have hw2 := hw
    unfold fR at ha2 hw2
    refine fx_rg (fun hr0 => ?_)
    have r0 := hgA hr0 764 (c := 149) (j := 11) (by decide +kernel) (by omega)
    refine fx_li 4 36 (by decide +kernel) rfl ?_
    refine fx_ci (6) 38 (by decide +kernel) ?_
    refine fx_igt 104 41 (by decide +kernel) (by unfold fR; omega) (by unfold fR; omega) (fun h38 => ?_) (fun h38 => ?_)
    · refine fx_li 3 105 (by decide +kernel) rfl ?_
      refine fx_ret (by decide +kernel) ?_
      exact kq _ _ hm
    · refine fx_la 0 42 (v := 1186) (by decide +kernel) rfl (by decide +kernel) ?_
      refine fx_gp 1186 148 1 1194 45 (by decide +kernel) ?_
      refine fx_ci (11) 47 (by decide +kernel) ?_
      refine fx_li 4 49 (by decide +kernel) rfl ?_
      refine fx_as 1194 149 764 50 (by decide +kernel) rfl (by omega) (by omega) rfl (by unfold fR; omega) ?_
      have hg1 : KA g0 (fu g 149 11 (k : Int)) := ⟨gHs_11 hg.1 r0 (by unfold fR; omega), fun j hj => by rw [fu_nc (by decide)]; exact hg.2 j hj⟩
      refine fx_la 0 51 (v := 1186) (by decide +kernel) rfl (by decide +kernel) ?_
      refine fx_li 1 52 (by decide +kernel) rfl ?_
      refine fx_ci (1) 53 (by decide +kernel) ?_
      refine fx_c3 338 21 56 dd [7, 7] (by decide +kernel) (by decide) (by decide) (fI_n4 _) (fI_n4 _) rfl (by first | decide | omega) ?_
      refine fx_ka (W := fWl W 0) kG hg1 (as_g v0 v1 (by decide) (by decide)) (f_xp (f_n4_3 (by decide)) (show 3 ≤ _ by decide +kernel)) hr (fun z3 g3 r3 h3 => fK1 ?_)
      refine fx_si 5 58 (by decide +kernel) (Or.inr (fI_n4 _)) rfl ?_
      dsimp only [List.set]
      refine fx_la 0 59 (v := 1186) (by decide +kernel) rfl (by decide +kernel) ?_
      refine fx_c1 403 21 62 dd [7, 7] (by decide +kernel) (by decide) rfl (by first | decide | omega) ?_
      refine fx_ka (W := fWl W 0) kA h3 as_1 (f_xp (f_n4_1 (by decide)) (show 1 ≤ _ by decide +kernel)) hr (fun z4 g4 r4 h4 => fK1 ?_)
      refine fx_si 6 64 (by decide +kernel) (Or.inr (fI_n4 _)) rfl ?_
      dsimp only [List.set]
      refine fx_la 0 65 (v := 1186) (by decide +kernel) rfl (by decide +kernel) ?_
      refine fx_c1 294 21 68 dd [7] (by decide +kernel) (by decide) rfl (by first | decide | omega) ?_
      refine ka_comes (W := fWl W 0) kB h4 hr (fun g5 h5 h6 => fK0 ?_)
      refine fx_li 3 69 (by decide +kernel) rfl ?_
      refine fx_cn (-1) 70 (by decide +kernel) (fun v69 c69 => ?_)
      refine fx_ine 78 73 (by decide +kernel) (by unfold fR; omega) (by unfold fR; omega) (fun h70 => ?_) (fun h70 => ?_)
      · refine fx_li 2 79 (by decide +kernel) rfl ?_
        refine fx_zeq 91 82 (by decide +kernel) (by unfold fR; omega) (fun h79 => ?_) (fun h79 => ?_)
        · refine fx_li 3 92 (by decide +kernel) rfl ?_
          refine fx_li 6 94 (by decide +kernel) rfl ?_
          refine fx_c2 322 22 97 0 [] (f_q22 (by decide +kernel)) (by decide) (fI_n4 _) (fI_n4 _) rfl (by first | decide | omega) ?_
          refine sp_lesser ha r4 (fun z7 r7 => fK1 ?_)
          refine fx_si 3 98 (by decide +kernel) (Or.inr (fI_n4 _)) rfl ?_
          dsimp only [List.set]
          refine fx_inc 4 101 (1) (by decide +kernel) rfl (Or.inr (fI_n4 _)) rfl ?_
          dsimp only [List.set]
          refine fx_go 34 (by decide +kernel) ?_
          match n, hn with
          | 0, hn => exfalso; omega
          | n + 1, hn => exact sp_span_1 (by assumption) hr v0 v1 hw kB kG kA kq n (k + 1) z7 _ _ g5 (by omega) r7 h5 h6
        · refine fx_li 3 83 (by decide +kernel) rfl ?_
          refine fx_li 6 85 (by decide +kernel) rfl ?_
          refine fx_c2 317 22 88 0 [] (f_q22 (by decide +kernel)) (by decide) (fI_n4 _) (fI_n4 _) rfl (by first | decide | omega) ?_
          refine sp_greater ha r4 (fun z7 r7 => fK1 ?_)
          refine fx_go 97 (by decide +kernel) ?_
          refine fx_si 3 98 (by decide +kernel) (Or.inr (fI_n4 _)) rfl ?_
          dsimp only [List.set]
          refine fx_inc 4 101 (1) (by decide +kernel) rfl (Or.inr (fI_n4 _)) rfl ?_
          dsimp only [List.set]
          refine fx_go 34 (by decide +kernel) ?_
          match n, hn with
          | 0, hn => exfalso; omega
          | n + 1, hn => exact sp_span_1 (by assumption) hr v0 v1 hw kB kG kA kq n (k + 1) z7 _ _ g5 (by omega) r7 h5 h6
      · refine fx_li 6 75 (by decide +kernel) rfl ?_
        refine fx_go 97 (by decide +kernel) ?_
        refine fx_si 3 98 (by decide +kernel) (Or.inr (fI_n4 _)) rfl ?_
        dsimp only [List.set]
        refine fx_inc 4 101 (1) (by decide +kernel) rfl (Or.inr (fI_n4 _)) rfl ?_
        dsimp only [List.set]
        refine fx_go 34 (by decide +kernel) ?_
        match n, hn with
        | 0, hn => exfalso; omega
        | n + 1, hn => exact sp_span_1 (by assumption) hr v0 v1 hw kB kG kA kq n (k + 1) z4 _ _ g5 (by omega) r4 h5 h6
theorem sp_span {v w : Int} (h3 : 3 ≤ dd) (hr : 1 ≤ r) (hv : fR v) (hw : fR w) (hg : gHs g) (kP : KD W.N W.sy 268 dd cP) (kB : KD W.N W.sy 294 dd cB) (kG : KC W.N W.sy 338 [(0, 1186, 0), (1, 2147483648, 2147483708), (1, 2147483648, 2147483649)] dd cG) (kA : KC W.N W.sy 403 [(0, 1186, 0)] dd cA)
    (kq : ∀ v g', (∀ j, j < 364 → g' 149 j = g 149 j) → Q 1 v g') : fx W r (dd + 1) 402 0 [1186, fI v, fI w, 7, 7, 7, 7] [] g Q := by
  refine fx_rg (fun hr0 => ?_)
  have r0 := hr0 148 0 (by decide) (by decide +kernel) (by decide +kernel)
  refine fx_la 0 1 (v := 1186) (by decide +kernel) rfl (by decide +kernel) ?_
  refine fx_li 1 2 (by decide +kernel) rfl ?_
  refine fx_c1 398 22 5 1 [] (f_q22 (by decide +kernel)) (fI_n4 _) rfl (by first | decide | omega) ?_
  refine sp_isNights hv (fun u => fK1 ?_) (fK1 ?_)
  · refine fx_zne 12 8 (by decide +kernel) (by unfold fR; omega) (fun _ => ?_) (fun hc => absurd hc (by decide))
    refine fx_ci (0) 13 (by decide +kernel) ?_
    refine fx_pi 1186 148 0 16 (by decide +kernel) (by unfold fR; omega) ?_
    refine fx_la 0 17 (v := 1186) (by decide +kernel) rfl (by decide +kernel) ?_
    refine fx_gi 1186 148 0 20 (by decide +kernel) ?_
    try simp only [fu_app, fcy_app, Nat.reduceEqDiff, and_true, and_false, false_and, true_and, if_true, if_false, ite_true, ite_false, reduceIte, Int.reduceToNat, fx_simp0]
    refine fx_zle 25 23 (by decide +kernel) (by unfold fR; omega) (fun h20 => ?_) (fun h20 => ?_)
    · refine fx_la 0 26 (v := 1186) (by decide +kernel) rfl (by decide +kernel) ?_
      refine fx_c1 268 21 29 dd [7] (by decide +kernel) (by decide) rfl (by first | decide | omega) ?_
      refine ka_puts2 (W := fWl W 0) kP (gHs_th hg r0 (by unfold fR; omega)) hr (fun g2 h2 h2m => fK0 ?_)
      refine fx_cn (-1) 30 (by decide +kernel) (fun v29 c29 => ?_)
      refine fx_si 3 31 (by decide +kernel) (Or.inr (fI_n4 _)) rfl ?_
      dsimp only [List.set]
      refine fx_ci (1) 32 (by decide +kernel) ?_
      refine fx_si 4 34 (by decide +kernel) (Or.inr (fI_n4 _)) rfl ?_
      dsimp only [List.set]
      exact sp_span_1 h3 hr u.1 u.2 hw kB kG kA kq 6 1 _ _ _ _ rfl (by unfold fR; omega) (KA_fu (by decide) h2) (fun j hj => by rw [h2m j hj, fu_nc (by decide)])
    · refine fx_ci (0) 24 (by decide +kernel) ?_
      refine fx_ret (by decide +kernel) ?_
      exact kq _ _ (fun j hj => fu_nc (by decide))
  · refine fx_zne 12 8 (by decide +kernel) (by unfold fR; omega) (fun hc => absurd hc (by decide)) (fun _ => ?_)
    refine fx_ci (1) 9 (by decide +kernel) ?_
    refine fx_go 13 (by decide +kernel) ?_
    refine fx_pi 1186 148 0 16 (by decide +kernel) (by unfold fR; omega) ?_
    refine fx_la 0 17 (v := 1186) (by decide +kernel) rfl (by decide +kernel) ?_
    refine fx_gi 1186 148 0 20 (by decide +kernel) ?_
    try simp only [fu_app, fcy_app, Nat.reduceEqDiff, and_true, and_false, false_and, true_and, if_true, if_false, ite_true, ite_false, reduceIte, Int.reduceToNat, fx_simp0]
    refine fx_zle 25 23 (by decide +kernel) (by unfold fR; omega) (fun h20 => ?_) (fun h20 => ?_)
    · exfalso; omega
    · refine fx_ci (0) 24 (by decide +kernel) ?_
      refine fx_ret (by decide +kernel) ?_
      exact kq _ _ (fun j hj => fu_nc (by decide))
end FYT
