/-! fx: the law's wrappers of the class's calls; acts whose end is told in one row -/
section FIO
variable {W : ax_W} {r : Nat} {g : Nat → Nat → Int} {Q : Nat → Nat → (Nat → Nat → Int) → Prop}
theorem sp_wg_house {P : Nat → Nat → (Nat → Nat → Int) → Prop} (hl : 1 ≤ W.lim) (h : fx (fWl W 0) 1 10 70 0 [2, 7] [] g P) (k : ∀ kd v g', P kd v g' → (kd = 1 ∧ ∃ z, v = fI z ∧ fR z ∧ Q 1 (fI 0) (fu g' 159 0 ((fJ z - 4 : Nat) : Int))) ∨ (kd = 2 ∧ Q 1 (fI 1) g') ∨ (kd = 3 ∧ Q 1 (fI 2) g')) : fx W 1 11 69 0 [2, 1274, 7] [] g Q := by
  refine fx_la 1 1 (v := 1274) (by decide +kernel) rfl (by decide +kernel) ?_
  refine fx_ci (0) 2 (by decide +kernel) ?_
  refine fx_la 0 3 (v := 2) (by decide +kernel) rfl (by decide +kernel) ?_
  obtain ⟨e1, e2⟩ := f_qm_ok (W := W) (L := [2, 1274, 7]) (g := g) (S := [2, fI 0, 1274]) (rest := [fI 0, 1274]) (mi := 69) (pc := 3) (mj := 70) (n := 1) (op := 21) (a := 2) (av' := []) (by decide +kernel) (by decide +kernel) (fun K => rfl) (fun t => absurd t (by decide))
  refine fx_callH (l := 0) (r := 0) (by omega) e1 e2 (by decide +kernel) (dj := 10) (by decide) (by decide +kernel) (pc' := 6) rfl (Lj := [2, 7]) (f_xp (f_n4_1 (by decide)) (show 1 ≤ _ by decide +kernel)) ?_
  refine h.mono (fun kd v g' hp => ?_)
  rcases k kd v g' hp with ⟨rfl, z, rfl, rz, q⟩ | ⟨rfl, q⟩ | ⟨rfl, q⟩
  · refine fKH1 ?_
    refine fx_i2l 7 (by decide +kernel) rfl ?_
    refine fx_las 1274 159 1 8 (by decide +kernel) rfl (by omega) (by omega) (by decide +kernel) (fJ_ok _).1 (fJ_ok _).2 ?_
    exact fx_go 17 (by decide +kernel) (fx_ci 0 18 (by decide +kernel) (fx_ret (by decide +kernel) q))
  · refine fKH2 0 12 2 (by decide +kernel) (Or.inr (f_n4p (v := 1274) rfl (by decide))) rfl ?_
    dsimp only [List.set]
    exact fx_ci 1 13 (by decide +kernel) (fx_ret (by decide +kernel) q)
  · refine fKH2 1 15 2 (by decide +kernel) (Or.inr (f_n4p (v := 1274) rfl (by decide))) rfl ?_
    dsimp only [List.set]
    exact fx_ci 2 16 (by decide +kernel) (fx_ret (by decide +kernel) q)
theorem sp_wg_law {P : Nat → Nat → (Nat → Nat → Int) → Prop} (hl : 1 ≤ W.lim) (h : fx (fWl W 0) 1 25 118 0 [2, 7] [] g P) (k : ∀ kd v g', P kd v g' → (kd = 1 ∧ ∃ z, v = fI z ∧ fR z ∧ Q 1 (fI 0) (fu g' 159 0 ((fJ z - 4 : Nat) : Int))) ∨ (kd = 2 ∧ Q 1 (fI 1) g')) : fx W 1 26 117 0 [2, 1274, 7] [] g Q := by
  refine fx_la 1 1 (v := 1274) (by decide +kernel) rfl (by decide +kernel) ?_
  refine fx_ci (0) 2 (by decide +kernel) ?_
  refine fx_la 0 3 (v := 2) (by decide +kernel) rfl (by decide +kernel) ?_
  obtain ⟨e1, e2⟩ := f_qm_ok (W := W) (L := [2, 1274, 7]) (g := g) (S := [2, fI 0, 1274]) (rest := [fI 0, 1274]) (mi := 117) (pc := 3) (mj := 118) (n := 1) (op := 21) (a := 2) (av' := []) (by decide +kernel) (by decide +kernel) (fun K => rfl) (fun t => absurd t (by decide))
  refine fx_callH (l := 0) (r := 0) (by omega) e1 e2 (by decide +kernel) (dj := 25) (by decide) (by decide +kernel) (pc' := 6) rfl (Lj := [2, 7]) (f_xp (f_n4_1 (by decide)) (show 1 ≤ _ by decide +kernel)) ?_
  refine h.mono (fun kd v g' hp => ?_)
  rcases k kd v g' hp with ⟨rfl, z, rfl, rz, q⟩ | ⟨rfl, q⟩
  · refine fKH1 ?_
    refine fx_i2l 7 (by decide +kernel) rfl ?_
    refine fx_las 1274 159 1 8 (by decide +kernel) rfl (by omega) (by omega) (by decide +kernel) (fJ_ok _).1 (fJ_ok _).2 ?_
    exact fx_go 14 (by decide +kernel) (fx_ci 0 15 (by decide +kernel) (fx_ret (by decide +kernel) q))
  · refine fKH2 0 12 2 (by decide +kernel) (Or.inr (f_n4p (v := 1274) rfl (by decide))) rfl ?_
    dsimp only [List.set]
    exact fx_ci 1 13 (by decide +kernel) (fx_ret (by decide +kernel) q)
theorem sp_wg_leave {a : Int} {P : Nat → Nat → (Nat → Nat → Int) → Prop} (hl : 1 ≤ W.lim) (h : fx (fWl W 0) 1 2 150 0 [2, fI a, 7] [] g P) (k : ∀ kd v g', P kd v g' → (kd = 1 ∧ ∃ z, v = fI z ∧ fR z ∧ Q 1 (fI 0) (fu g' 159 0 ((fJ z - 4 : Nat) : Int))) ∨ (kd = 4 ∧ Q 1 (fI 1) g') ∨ (kd = 6 ∧ Q 1 (fI 2) g')) : fx W 1 3 149 0 [2, fI a, 1274, 7] [] g Q := by
  refine fx_la 2 1 (v := 1274) (by decide +kernel) rfl (by decide +kernel) ?_
  refine fx_ci (0) 2 (by decide +kernel) ?_
  refine fx_la 0 3 (v := 2) (by decide +kernel) rfl (by decide +kernel) ?_
  refine fx_li 1 4 (by decide +kernel) rfl ?_
  obtain ⟨e1, e2⟩ := f_qm_ok (W := W) (L := [2, fI a, 1274, 7]) (g := g) (S := [fI a, 2, fI 0, 1274]) (rest := [fI 0, 1274]) (mi := 149) (pc := 4) (mj := 150) (n := 2) (op := 21) (a := 2) (av' := [fI a]) (by decide +kernel) (by decide +kernel) (fun K => rfl) (fun t => absurd t (by decide))
  refine fx_callH (l := 0) (r := 0) (by omega) e1 e2 (by decide +kernel) (dj := 2) (by decide) (by decide +kernel) (pc' := 7) rfl (Lj := [2, fI a, 7]) (f_xp (f_n4_2 (by decide)) (show 2 ≤ _ by decide +kernel)) ?_
  refine h.mono (fun kd v g' hp => ?_)
  rcases k kd v g' hp with ⟨rfl, z, rfl, rz, q⟩ | ⟨rfl, q⟩ | ⟨rfl, q⟩
  · refine fKH1 ?_
    refine fx_i2l 8 (by decide +kernel) rfl ?_
    refine fx_las 1274 159 1 9 (by decide +kernel) rfl (by omega) (by omega) (by decide +kernel) (fJ_ok _).1 (fJ_ok _).2 ?_
    exact fx_go 18 (by decide +kernel) (fx_ci 0 19 (by decide +kernel) (fx_ret (by decide +kernel) q))
  · refine fKH2 2 13 3 (by decide +kernel) (Or.inr (f_n4p (v := 1274) rfl (by decide))) rfl ?_
    dsimp only [List.set]
    exact fx_ci 1 14 (by decide +kernel) (fx_ret (by decide +kernel) q)
  · refine fKH2 4 16 3 (by decide +kernel) (Or.inr (f_n4p (v := 1274) rfl (by decide))) rfl ?_
    dsimp only [List.set]
    exact fx_ci 2 17 (by decide +kernel) (fx_ret (by decide +kernel) q)
theorem sp_wg_home {a : Int} {P : Nat → Nat → (Nat → Nat → Int) → Prop} (hl : 1 ≤ W.lim) (h : fx (fWl W 0) 1 2 155 0 [2, fI a] [] g P) (k : ∀ kd v g', P kd v g' → (kd = 1 ∧ ∃ z, v = fI z ∧ fR z ∧ Q 1 (fI 0) (fu g' 159 0 ((fJ z - 4 : Nat) : Int))) ∨ (kd = 4 ∧ Q 1 (fI 1) g') ∨ (kd = 6 ∧ Q 1 (fI 2) g')) : fx W 1 3 154 0 [2, fI a, 1274, 7] [] g Q := by
  refine fx_la 2 1 (v := 1274) (by decide +kernel) rfl (by decide +kernel) ?_
  refine fx_ci (0) 2 (by decide +kernel) ?_
  refine fx_la 0 3 (v := 2) (by decide +kernel) rfl (by decide +kernel) ?_
  refine fx_li 1 4 (by decide +kernel) rfl ?_
  obtain ⟨e1, e2⟩ := f_qm_ok (W := W) (L := [2, fI a, 1274, 7]) (g := g) (S := [fI a, 2, fI 0, 1274]) (rest := [fI 0, 1274]) (mi := 154) (pc := 4) (mj := 155) (n := 2) (op := 21) (a := 2) (av' := [fI a]) (by decide +kernel) (by decide +kernel) (fun K => rfl) (fun t => absurd t (by decide))
  refine fx_callH (l := 0) (r := 0) (by omega) e1 e2 (by decide +kernel) (dj := 2) (by decide) (by decide +kernel) (pc' := 7) rfl (Lj := [2, fI a]) (f_xp (f_n4_2 (by decide)) (show 2 ≤ _ by decide +kernel)) ?_
  refine h.mono (fun kd v g' hp => ?_)
  rcases k kd v g' hp with ⟨rfl, z, rfl, rz, q⟩ | ⟨rfl, q⟩ | ⟨rfl, q⟩
  · refine fKH1 ?_
    refine fx_i2l 8 (by decide +kernel) rfl ?_
    refine fx_las 1274 159 1 9 (by decide +kernel) rfl (by omega) (by omega) (by decide +kernel) (fJ_ok _).1 (fJ_ok _).2 ?_
    exact fx_go 18 (by decide +kernel) (fx_ci 0 19 (by decide +kernel) (fx_ret (by decide +kernel) q))
  · refine fKH2 2 13 3 (by decide +kernel) (Or.inr (f_n4p (v := 1274) rfl (by decide))) rfl ?_
    dsimp only [List.set]
    exact fx_ci 1 14 (by decide +kernel) (fx_ret (by decide +kernel) q)
  · refine fKH2 4 16 3 (by decide +kernel) (Or.inr (f_n4p (v := 1274) rfl (by decide))) rfl ?_
    dsimp only [List.set]
    exact fx_ci 2 17 (by decide +kernel) (fx_ret (by decide +kernel) q)
theorem sp_wg_rise {a : Int} {P : Nat → Nat → (Nat → Nat → Int) → Prop} (hl : 1 ≤ W.lim) (h : fx (fWl W 0) 1 2 170 0 [2, fI a, 7] [] g P) (k : ∀ kd v g', P kd v g' → (kd = 1 ∧ ∃ z, v = fI z ∧ fR z ∧ Q 1 (fI 0) (fu g' 159 0 ((fJ z - 4 : Nat) : Int))) ∨ (kd = 4 ∧ Q 1 (fI 1) g') ∨ (kd = 6 ∧ Q 1 (fI 2) g')) : fx W 1 3 169 0 [2, fI a, 1274, 7] [] g Q := by
  refine fx_la 2 1 (v := 1274) (by decide +kernel) rfl (by decide +kernel) ?_
  refine fx_ci (0) 2 (by decide +kernel) ?_
  refine fx_la 0 3 (v := 2) (by decide +kernel) rfl (by decide +kernel) ?_
  refine fx_li 1 4 (by decide +kernel) rfl ?_
  obtain ⟨e1, e2⟩ := f_qm_ok (W := W) (L := [2, fI a, 1274, 7]) (g := g) (S := [fI a, 2, fI 0, 1274]) (rest := [fI 0, 1274]) (mi := 169) (pc := 4) (mj := 170) (n := 2) (op := 21) (a := 2) (av' := [fI a]) (by decide +kernel) (by decide +kernel) (fun K => rfl) (fun t => absurd t (by decide))
  refine fx_callH (l := 0) (r := 0) (by omega) e1 e2 (by decide +kernel) (dj := 2) (by decide) (by decide +kernel) (pc' := 7) rfl (Lj := [2, fI a, 7]) (f_xp (f_n4_2 (by decide)) (show 2 ≤ _ by decide +kernel)) ?_
  refine h.mono (fun kd v g' hp => ?_)
  rcases k kd v g' hp with ⟨rfl, z, rfl, rz, q⟩ | ⟨rfl, q⟩ | ⟨rfl, q⟩
  · refine fKH1 ?_
    refine fx_i2l 8 (by decide +kernel) rfl ?_
    refine fx_las 1274 159 1 9 (by decide +kernel) rfl (by omega) (by omega) (by decide +kernel) (fJ_ok _).1 (fJ_ok _).2 ?_
    exact fx_go 18 (by decide +kernel) (fx_ci 0 19 (by decide +kernel) (fx_ret (by decide +kernel) q))
  · refine fKH2 2 13 3 (by decide +kernel) (Or.inr (f_n4p (v := 1274) rfl (by decide))) rfl ?_
    dsimp only [List.set]
    exact fx_ci 1 14 (by decide +kernel) (fx_ret (by decide +kernel) q)
  · refine fKH2 4 16 3 (by decide +kernel) (Or.inr (f_n4p (v := 1274) rfl (by decide))) rfl ?_
    dsimp only [List.set]
    exact fx_ci 2 17 (by decide +kernel) (fx_ret (by decide +kernel) q)
theorem sp_wg_vote {a b : Int} {P : Nat → Nat → (Nat → Nat → Int) → Prop} (hl : 1 ≤ W.lim) (h : fx (fWl W 0) 1 2 172 0 [2, fI a, fI b, 7] [] g P) (k : ∀ kd v g', P kd v g' → (kd = 1 ∧ ∃ z, v = fI z ∧ fR z ∧ Q 1 (fI 0) (fu g' 159 0 ((fJ z - 4 : Nat) : Int))) ∨ (kd = 4 ∧ Q 1 (fI 1) g') ∨ (kd = 2 ∧ Q 1 (fI 2) g')) : fx W 1 3 171 0 [2, fI a, fI b, 1274, 7] [] g Q := by
  refine fx_la 3 1 (v := 1274) (by decide +kernel) rfl (by decide +kernel) ?_
  refine fx_ci (0) 2 (by decide +kernel) ?_
  refine fx_la 0 3 (v := 2) (by decide +kernel) rfl (by decide +kernel) ?_
  refine fx_li 1 4 (by decide +kernel) rfl ?_
  refine fx_li 2 5 (by decide +kernel) rfl ?_
  obtain ⟨e1, e2⟩ := f_qm_ok (W := W) (L := [2, fI a, fI b, 1274, 7]) (g := g) (S := [fI b, fI a, 2, fI 0, 1274]) (rest := [fI 0, 1274]) (mi := 171) (pc := 5) (mj := 172) (n := 3) (op := 21) (a := 2) (av' := [fI a, fI b]) (by decide +kernel) (by decide +kernel) (fun K => rfl) (fun t => absurd t (by decide))
  refine fx_callH (l := 0) (r := 0) (by omega) e1 e2 (by decide +kernel) (dj := 2) (by decide) (by decide +kernel) (pc' := 8) rfl (Lj := [2, fI a, fI b, 7]) (f_xp (f_n4_3 (by decide)) (show 3 ≤ _ by decide +kernel)) ?_
  refine h.mono (fun kd v g' hp => ?_)
  rcases k kd v g' hp with ⟨rfl, z, rfl, rz, q⟩ | ⟨rfl, q⟩ | ⟨rfl, q⟩
  · refine fKH1 ?_
    refine fx_i2l 9 (by decide +kernel) rfl ?_
    refine fx_las 1274 159 1 10 (by decide +kernel) rfl (by omega) (by omega) (by decide +kernel) (fJ_ok _).1 (fJ_ok _).2 ?_
    exact fx_go 21 (by decide +kernel) (fx_ci 0 22 (by decide +kernel) (fx_ret (by decide +kernel) q))
  · refine fKH2 2 15 4 (by decide +kernel) (Or.inr (f_n4p (v := 1274) rfl (by decide))) rfl ?_
    dsimp only [List.set]
    exact fx_ci 1 16 (by decide +kernel) (fx_ret (by decide +kernel) q)
  · refine fKH2 0 19 4 (by decide +kernel) (Or.inr (f_n4p (v := 1274) rfl (by decide))) rfl ?_
    dsimp only [List.set]
    exact fx_ci 2 20 (by decide +kernel) (fx_ret (by decide +kernel) q)
theorem sp_wg_promise {a b : Int} {P : Nat → Nat → (Nat → Nat → Int) → Prop} (hl : 1 ≤ W.lim) (h : fx (fWl W 0) 1 2 175 0 [2, fI a, fI b, 7] [] g P) (k : ∀ kd v g', P kd v g' → (kd = 1 ∧ ∃ z, v = fI z ∧ fR z ∧ Q 1 (fI 0) (fu g' 159 0 ((fJ z - 4 : Nat) : Int))) ∨ (kd = 4 ∧ Q 1 (fI 1) g') ∨ (kd = 2 ∧ Q 1 (fI 2) g')) : fx W 1 3 174 0 [2, fI a, fI b, 1274, 7] [] g Q := by
  refine fx_la 3 1 (v := 1274) (by decide +kernel) rfl (by decide +kernel) ?_
  refine fx_ci (0) 2 (by decide +kernel) ?_
  refine fx_la 0 3 (v := 2) (by decide +kernel) rfl (by decide +kernel) ?_
  refine fx_li 1 4 (by decide +kernel) rfl ?_
  refine fx_li 2 5 (by decide +kernel) rfl ?_
  obtain ⟨e1, e2⟩ := f_qm_ok (W := W) (L := [2, fI a, fI b, 1274, 7]) (g := g) (S := [fI b, fI a, 2, fI 0, 1274]) (rest := [fI 0, 1274]) (mi := 174) (pc := 5) (mj := 175) (n := 3) (op := 21) (a := 2) (av' := [fI a, fI b]) (by decide +kernel) (by decide +kernel) (fun K => rfl) (fun t => absurd t (by decide))
  refine fx_callH (l := 0) (r := 0) (by omega) e1 e2 (by decide +kernel) (dj := 2) (by decide) (by decide +kernel) (pc' := 8) rfl (Lj := [2, fI a, fI b, 7]) (f_xp (f_n4_3 (by decide)) (show 3 ≤ _ by decide +kernel)) ?_
  refine h.mono (fun kd v g' hp => ?_)
  rcases k kd v g' hp with ⟨rfl, z, rfl, rz, q⟩ | ⟨rfl, q⟩ | ⟨rfl, q⟩
  · refine fKH1 ?_
    refine fx_i2l 9 (by decide +kernel) rfl ?_
    refine fx_las 1274 159 1 10 (by decide +kernel) rfl (by omega) (by omega) (by decide +kernel) (fJ_ok _).1 (fJ_ok _).2 ?_
    exact fx_go 21 (by decide +kernel) (fx_ci 0 22 (by decide +kernel) (fx_ret (by decide +kernel) q))
  · refine fKH2 2 15 4 (by decide +kernel) (Or.inr (f_n4p (v := 1274) rfl (by decide))) rfl ?_
    dsimp only [List.set]
    exact fx_ci 1 16 (by decide +kernel) (fx_ret (by decide +kernel) q)
  · refine fKH2 0 19 4 (by decide +kernel) (Or.inr (f_n4p (v := 1274) rfl (by decide))) rfl ?_
    dsimp only [List.set]
    exact fx_ci 2 20 (by decide +kernel) (fx_ret (by decide +kernel) q)
theorem sp_wg_serve {a : Int} {P : Nat → Nat → (Nat → Nat → Int) → Prop} (hl : 1 ≤ W.lim) (h : fx (fWl W 0) 1 6 160 0 [2, fI a] [] g P) (k : ∀ kd v g', P kd v g' → (kd = 1 ∧ ∃ z, v = fI z ∧ fR z ∧ Q 1 (fI 0) (fu g' 159 0 ((fJ z - 4 : Nat) : Int))) ∨ (kd = 4 ∧ Q 1 (fI 1) g')) : fx W 1 7 159 0 [2, fI a, 1274, 7] [] g Q := by
  refine fx_la 2 1 (v := 1274) (by decide +kernel) rfl (by decide +kernel) ?_
  refine fx_ci (0) 2 (by decide +kernel) ?_
  refine fx_la 0 3 (v := 2) (by decide +kernel) rfl (by decide +kernel) ?_
  refine fx_li 1 4 (by decide +kernel) rfl ?_
  obtain ⟨e1, e2⟩ := f_qm_ok (W := W) (L := [2, fI a, 1274, 7]) (g := g) (S := [fI a, 2, fI 0, 1274]) (rest := [fI 0, 1274]) (mi := 159) (pc := 4) (mj := 160) (n := 2) (op := 21) (a := 2) (av' := [fI a]) (by decide +kernel) (by decide +kernel) (fun K => rfl) (fun t => absurd t (by decide))
  refine fx_callH (l := 0) (r := 0) (by omega) e1 e2 (by decide +kernel) (dj := 6) (by decide) (by decide +kernel) (pc' := 7) rfl (Lj := [2, fI a]) (f_xp (f_n4_2 (by decide)) (show 2 ≤ _ by decide +kernel)) ?_
  refine h.mono (fun kd v g' hp => ?_)
  rcases k kd v g' hp with ⟨rfl, z, rfl, rz, q⟩ | ⟨rfl, q⟩
  · refine fKH1 ?_
    refine fx_i2l 8 (by decide +kernel) rfl ?_
    refine fx_las 1274 159 1 9 (by decide +kernel) rfl (by omega) (by omega) (by decide +kernel) (fJ_ok _).1 (fJ_ok _).2 ?_
    exact fx_go 15 (by decide +kernel) (fx_ci 0 16 (by decide +kernel) (fx_ret (by decide +kernel) q))
  · refine fKH2 2 13 3 (by decide +kernel) (Or.inr (f_n4p (v := 1274) rfl (by decide))) rfl ?_
    dsimp only [List.set]
    exact fx_ci 1 14 (by decide +kernel) (fx_ret (by decide +kernel) q)
theorem sp_wg_off {a : Int} {P : Nat → Nat → (Nat → Nat → Int) → Prop} (hl : 1 ≤ W.lim) (h : fx (fWl W 0) 1 4 168 0 [2, fI a] [] g P) (k : ∀ kd v g', P kd v g' → (kd = 1 ∧ ∃ z, v = fI z ∧ fR z ∧ Q 1 (fI 0) (fu g' 159 0 ((fJ z - 4 : Nat) : Int))) ∨ (kd = 4 ∧ Q 1 (fI 1) g') ∨ (kd = 6 ∧ Q 1 (fI 2) g')) : fx W 1 5 167 0 [2, fI a, 1274, 7] [] g Q := by
  refine fx_la 2 1 (v := 1274) (by decide +kernel) rfl (by decide +kernel) ?_
  refine fx_ci (0) 2 (by decide +kernel) ?_
  refine fx_la 0 3 (v := 2) (by decide +kernel) rfl (by decide +kernel) ?_
  refine fx_li 1 4 (by decide +kernel) rfl ?_
  obtain ⟨e1, e2⟩ := f_qm_ok (W := W) (L := [2, fI a, 1274, 7]) (g := g) (S := [fI a, 2, fI 0, 1274]) (rest := [fI 0, 1274]) (mi := 167) (pc := 4) (mj := 168) (n := 2) (op := 21) (a := 2) (av' := [fI a]) (by decide +kernel) (by decide +kernel) (fun K => rfl) (fun t => absurd t (by decide))
  refine fx_callH (l := 0) (r := 0) (by omega) e1 e2 (by decide +kernel) (dj := 4) (by decide) (by decide +kernel) (pc' := 7) rfl (Lj := [2, fI a]) (f_xp (f_n4_2 (by decide)) (show 2 ≤ _ by decide +kernel)) ?_
  refine h.mono (fun kd v g' hp => ?_)
  rcases k kd v g' hp with ⟨rfl, z, rfl, rz, q⟩ | ⟨rfl, q⟩ | ⟨rfl, q⟩
  · refine fKH1 ?_
    refine fx_i2l 8 (by decide +kernel) rfl ?_
    refine fx_las 1274 159 1 9 (by decide +kernel) rfl (by omega) (by omega) (by decide +kernel) (fJ_ok _).1 (fJ_ok _).2 ?_
    exact fx_go 18 (by decide +kernel) (fx_ci 0 19 (by decide +kernel) (fx_ret (by decide +kernel) q))
  · refine fKH2 2 13 3 (by decide +kernel) (Or.inr (f_n4p (v := 1274) rfl (by decide))) rfl ?_
    dsimp only [List.set]
    exact fx_ci 1 14 (by decide +kernel) (fx_ret (by decide +kernel) q)
  · refine fKH2 4 16 3 (by decide +kernel) (Or.inr (f_n4p (v := 1274) rfl (by decide))) rfl ?_
    dsimp only [List.set]
    exact fx_ci 2 17 (by decide +kernel) (fx_ret (by decide +kernel) q)
theorem sp_wg_nights {a : Int} {P : Nat → Nat → (Nat → Nat → Int) → Prop} (hl : 1 ≤ W.lim) (h : fx (fWl W 0) 1 7 177 0 [2, fI a] [] g P) (k : ∀ kd v g', P kd v g' → (kd = 1 ∧ ∃ z, v = fI z ∧ fR z ∧ Q 1 (fI 0) (fu g' 159 0 ((fJ z - 4 : Nat) : Int))) ∨ (kd = 2 ∧ Q 1 (fI 1) g')) : fx W 1 8 176 0 [2, fI a, 1274, 7] [] g Q := by
  refine fx_la 2 1 (v := 1274) (by decide +kernel) rfl (by decide +kernel) ?_
  refine fx_ci (0) 2 (by decide +kernel) ?_
  refine fx_la 0 3 (v := 2) (by decide +kernel) rfl (by decide +kernel) ?_
  refine fx_li 1 4 (by decide +kernel) rfl ?_
  obtain ⟨e1, e2⟩ := f_qm_ok (W := W) (L := [2, fI a, 1274, 7]) (g := g) (S := [fI a, 2, fI 0, 1274]) (rest := [fI 0, 1274]) (mi := 176) (pc := 4) (mj := 177) (n := 2) (op := 21) (a := 2) (av' := [fI a]) (by decide +kernel) (by decide +kernel) (fun K => rfl) (fun t => absurd t (by decide))
  refine fx_callH (l := 0) (r := 0) (by omega) e1 e2 (by decide +kernel) (dj := 7) (by decide) (by decide +kernel) (pc' := 7) rfl (Lj := [2, fI a]) (f_xp (f_n4_2 (by decide)) (show 2 ≤ _ by decide +kernel)) ?_
  refine h.mono (fun kd v g' hp => ?_)
  rcases k kd v g' hp with ⟨rfl, z, rfl, rz, q⟩ | ⟨rfl, q⟩
  · refine fKH1 ?_
    refine fx_i2l 8 (by decide +kernel) rfl ?_
    refine fx_las 1274 159 1 9 (by decide +kernel) rfl (by omega) (by omega) (by decide +kernel) (fJ_ok _).1 (fJ_ok _).2 ?_
    exact fx_go 15 (by decide +kernel) (fx_ci 0 16 (by decide +kernel) (fx_ret (by decide +kernel) q))
  · refine fKH2 0 13 3 (by decide +kernel) (Or.inr (f_n4p (v := 1274) rfl (by decide))) rfl ?_
    dsimp only [List.set]
    exact fx_ci 1 14 (by decide +kernel) (fx_ret (by decide +kernel) q)
/-- what the class has done: leave -/
def HM_leave (g : Nat → Nat → Int) (a zc : Int) (g1 : Nat → Nat → Int) : Prop := (zc = 1 ∧ (¬ (0 ≤ a ∧ a < g 3 4)) ∧ g1 = g) ∨ (zc = 2 ∧ (∃ p : Nat, a = p ∧ (p : Int) < g 3 4 ∧ ¬ ((g 17 p = -1 ∧ fbt (g 16 7) p ≠ 1) ∧ g 4 p ≤ g 16 8)) ∧ g1 = g) ∨ (zc = 0 ∧ ∃ p i : Nat, a = p ∧ (p : Int) < g 3 4 ∧ (g 17 p = -1 ∧ fbt (g 16 7) p ≠ 1 ∧ g 4 p ≤ g 16 8) ∧ i < 12 ∧ i = ((g 0 17).toNat + 1) % 12 ∧ g1 = fu (cNote 16 (fu (fu (cRem g i) 17 p 0) 16 8 (g 16 8 - g 4 p)) p 0 0) 159 0 ((fJ (g 16 8 - g 4 p) - 4 : Nat) : Int))
theorem sp_w_leave {a : Int} (hl : 1 ≤ W.lim) (ha : fR a) (hi : LI g) (hB : LB2 g) : fx W 1 3 149 0 [2, fI a, 1274, 7] [] g (fun k v g1 => k = 1 ∧ ∃ zc, v = fI zc ∧ 0 ≤ zc ∧ zc ≤ 3 ∧ HM_leave g a zc g1) := by
  refine fx_rg (fun hg => ?_)
  have cb := LI_cBd hi hB
  have rT : ∀ c : Nat, f_al c 8 = true → ∀ p : Nat, p < 8 → fR (g c p) := fun c hc p hp => hgA hg 8 (c := c) (j := p) hc hp
  refine sp_wg_leave (P := fun kd v g1 => (kd = 4 ∧ v = 0 ∧ (¬ (0 ≤ a ∧ a < g 3 4)) ∧ g1 = g) ∨ (kd = 6 ∧ v = 0 ∧ (∃ p : Nat, a = p ∧ (p : Int) < g 3 4 ∧ ¬ ((g 17 p = -1 ∧ fbt (g 16 7) p ≠ 1) ∧ g 4 p ≤ g 16 8)) ∧ g1 = g) ∨ (kd = 1 ∧ ∃ p i : Nat, v = fI (g 16 8 - g 4 p) ∧ fR (g 16 8 - g 4 p) ∧ a = p ∧ (p : Int) < g 3 4 ∧ (g 17 p = -1 ∧ fbt (g 16 7) p ≠ 1 ∧ g 4 p ≤ g 16 8) ∧ i < 12 ∧ i = ((g 0 17).toNat + 1) % 12 ∧ g1 = cNote 16 (fu (fu (cRem g i) 17 p 0) 16 8 (g 16 8 - g 4 p)) p 0 0)) hl ?_ (fun kd v g1 hp => ?_)
  · refine sp_cleave (Nat.le_refl 1) ha cb (fun t => Or.inl ⟨rfl, rfl, t, rfl⟩) (fun p e1 e2 e3 => Or.inr (Or.inl ⟨rfl, rfl, ⟨p, e1, e2, e3⟩, rfl⟩)) (fun p e1 e2 e3 e4 e5 i i1 i2 => Or.inr (Or.inr ⟨rfl, p, i, rfl, ?_, e1, e2, ⟨e3, e4, e5⟩, i1, i2, rfl⟩))
    have hp8 : p < 8 := by have := cb.1; omega
    have b8 := cb.2.2.2.2.2.2.1
    have bw := cb.2.2.2.2.2.2.2.1 p hp8
    have bp := cb.2.2.2.2.2.2.2.2 p hp8
    unfold fR; omega
  · rcases hp with ⟨rfl, rfl, c, rfl⟩ | ⟨rfl, rfl, c, rfl⟩ | ⟨rfl, p, i, rfl, q0, q1, q2, q3, q4, q5, rfl⟩
    · exact Or.inr (Or.inl ⟨rfl, rfl, 1, rfl, by decide, by decide, Or.inl ⟨rfl, c, rfl⟩⟩)
    · exact Or.inr (Or.inr ⟨rfl, rfl, 2, rfl, by decide, by decide, Or.inr (Or.inl ⟨rfl, c, rfl⟩)⟩)
    · exact Or.inl ⟨rfl, _, rfl, q0, rfl, 0, rfl, by decide, by decide, Or.inr (Or.inr ⟨rfl, p, i, q1, q2, q3, q4, q5, rfl⟩)⟩
theorem sp_r_leave {a zc : Int} {g1 : Nat → Nat → Int} (ha : fR a) (hi : LI g) (hB : LB2 g) (hm : HM_leave g a zc g1) : fx W r 3 319 0 [1186, fI a] [] g1 (PMa g1 zc) := by
  have mb := LI_mBd hi hB
  have cb := LI_cBd hi hB
  have hH := hi.1.2.1
  have hT := hi.1.2.2.1.1
  have e3 : g 3 4 = g 149 3 := hH.1
  have e8 : g 16 8 = g 149 8 := hT.2.2.2.2.2.1
  have eq : ∀ p : Nat, p < 8 → g 17 p = g 149 (12 + 7 * p) ∧ fbt (g 16 7) p = g 149 (17 + 7 * p) ∧ g 4 p = g 149 (14 + 7 * p) ∧ g 18 p = g 149 (13 + 7 * p) ∧ g 19 p = g 149 (16 + 7 * p) := fun p hp => ⟨hT.1 p hp, hT.2.2.2.2.1 p hp, hH.2.2.2.2.2.2.1 p hp, hT.2.1 p hp, hT.2.2.1 p hp⟩
  have b3 := mb.1
  have em : g1 149 = g 149 ∧ g1 148 6 = g 148 6 := by
    rcases hm with ⟨-, -, rfl⟩ | ⟨-, -, rfl⟩ | ⟨-, p, i, -, -, -, i1, -, rfl⟩
    · exact ⟨rfl, rfl⟩
    · exact ⟨rfl, rfl⟩
    · refine ⟨?_, ?_⟩
      · funext j
        rw [fu_nc (by decide)]
        exact (cNote_hi (by decide)).trans ((fu_nc (by decide)).trans ((fu_nc (by decide)).trans (cRem_hi i1 (by decide))))
      · rw [fu_nc (by decide)]
        exact (cNote_hi (by decide)).trans ((fu_nc (by decide)).trans ((fu_nc (by decide)).trans (cRem_hi i1 (by decide))))
  have mb1 : mBd g1 := by
    unfold mBd at mb ⊢
    rw [em.1, em.2]
    exact mb
  refine sp_mleave ha mb1 (fun t => ?_) (fun p e1 e2 e3' => ?_) (fun p e1 e2 e3' e4 e5 => ?_)
  all_goals simp only [em.1] at *
  · rcases hm with ⟨rfl, c, rfl⟩ | ⟨rfl, c, rfl⟩ | ⟨rfl, p, i, q1, q2, q3, q4, q5, rfl⟩
    · exact PMa_no hi (by decide)
    · obtain ⟨p, c1, c2, c3⟩ := c; exfalso; omega
    · exfalso; omega
  · have q6 := eq p (by omega)
    rcases hm with ⟨rfl, c, rfl⟩ | ⟨rfl, c, rfl⟩ | ⟨rfl, p', i, q1, q2, q3, q4, q5, rfl⟩
    · exfalso; omega
    · exact PMa_no hi (by decide)
    · have pp : p = p' := by omega
      subst pp
      exfalso; omega
  · have hp8 : p < 8 := by omega
    have q6 := eq p hp8
    have bw := mb.2.2.2.2 p hp8
    have b8 := mb.2.2.1
    have b9 := hB.2.1.2.2.2.1
    have bp := hB.2.2.2.1 p hp8
    rcases hm with ⟨rfl, c, rfl⟩ | ⟨rfl, c, rfl⟩ | ⟨rfl, p', i, q1, q2, q3, q4, q5, h1⟩
    · exfalso; omega
    · obtain ⟨p', c1, c2, c3⟩ := c
      have pp : p = p' := by omega
      subst pp
      exfalso; omega
    · have pp : p = p' := by omega
      subst pp
      have ev : tLeave (g 149) p 8 = g 16 8 - g 4 p := by unfold tLeave tIron; rw [tNote_hi (by decide), tU_ne (by omega), tU_ne (by omega), tU_eq, if_neg (by omega)]; omega
      have eE : ∀ c j, 148 ≤ c → (cNote 16 (fu (fu (cRem g i) 17 p 0) 16 8 (g 16 8 - g 4 p)) p 0 0) c j = g c j := fun c j k => (cNote_hi (by omega)).trans ((fu_nc (by omega)).trans ((fu_nc (by omega)).trans (cRem_hi q4 k)))
      obtain ⟨s1, s2, s3, s4, s5, s6⟩ := act_st (t' := tLeave (g 149) p) eE h1 rfl
      have hR := RMain_leave hi.1 hB.1.2.1.2 q4 q5 hp8 b9.1 b9.2 bw.1 b8.2 (by omega) (by omega) s1 s2
      have hL := act_LI hi hB eE (fun c j k k2 => (cNote_hi (by unfold fPk at k; omega)).trans ((fu_nc (by unfold fPk at k; omega)).trans ((fu_nc (by unfold fPk at k; omega)).trans (cRem_pk q4 k k2)))) h1 rfl (fun k hk => by unfold tLeave tIron; rw [tNote_hi (by omega), tU_ne (by omega), tU_ne (by omega), tU_ne (by omega)]) (by unfold tLeave tIron; exact RBd_n (RBd_c (RBd_u (RBd_i hi.2.1.1 (by split <;> omega) (by split <;> omega)) (by omega)) hp8 (by decide) (by decide))) hR
      refine ⟨rfl, _, rfl, ?_, hL, s5, fun _ => ?_, ?_⟩
      · rw [ev]
        unfold fR; omega
      · rw [h1, fu_eq, ev]
      · rw [s4, h1, fu_eq]
/-- what the class has done: home -/
def HM_home (g : Nat → Nat → Int) (a zc : Int) (g1 : Nat → Nat → Int) : Prop := (zc = 1 ∧ (¬ (0 ≤ a ∧ a < g 3 4)) ∧ g1 = g) ∨ (zc = 2 ∧ (∃ p : Nat, a = p ∧ (p : Int) < g 3 4 ∧ ¬ ((g 17 p ≠ -1 ∧ fbt (g 16 7) p ≠ 1) ∧ g 17 p = 0)) ∧ g1 = g) ∨ (zc = 0 ∧ ∃ p i : Nat, a = p ∧ (p : Int) < g 3 4 ∧ (g 17 p = 0 ∧ fbt (g 16 7) p ≠ 1) ∧ i < 12 ∧ i = ((g 0 17).toNat + 1) % 12 ∧ g1 = fu (fu (fu (fu (cNote 16 (cRem g i) p 2 0) 17 p (-1)) 20 p 0) 16 8 (if 9999 < g 16 8 + g 4 p then 9999 else g 16 8 + g 4 p)) 159 0 ((fJ ((if 9999 < g 16 8 + g 4 p then 9999 else g 16 8 + g 4 p)) - 4 : Nat) : Int))
theorem sp_w_home {a : Int} (hl : 1 ≤ W.lim) (ha : fR a) (hi : LI g) (hB : LB2 g) : fx W 1 3 154 0 [2, fI a, 1274, 7] [] g (fun k v g1 => k = 1 ∧ ∃ zc, v = fI zc ∧ 0 ≤ zc ∧ zc ≤ 3 ∧ HM_home g a zc g1) := by
  refine fx_rg (fun hg => ?_)
  have cb := LI_cBd hi hB
  have rT : ∀ c : Nat, f_al c 8 = true → ∀ p : Nat, p < 8 → fR (g c p) := fun c hc p hp => hgA hg 8 (c := c) (j := p) hc hp
  refine sp_wg_home (P := fun kd v g1 => (kd = 4 ∧ v = 0 ∧ (¬ (0 ≤ a ∧ a < g 3 4)) ∧ g1 = g) ∨ (kd = 6 ∧ v = 0 ∧ (∃ p : Nat, a = p ∧ (p : Int) < g 3 4 ∧ ¬ ((g 17 p ≠ -1 ∧ fbt (g 16 7) p ≠ 1) ∧ g 17 p = 0)) ∧ g1 = g) ∨ (kd = 1 ∧ ∃ p i : Nat, v = fI ((if 9999 < g 16 8 + g 4 p then 9999 else g 16 8 + g 4 p)) ∧ fR ((if 9999 < g 16 8 + g 4 p then 9999 else g 16 8 + g 4 p)) ∧ a = p ∧ (p : Int) < g 3 4 ∧ (g 17 p = 0 ∧ fbt (g 16 7) p ≠ 1) ∧ i < 12 ∧ i = ((g 0 17).toNat + 1) % 12 ∧ g1 = fu (fu (fu (cNote 16 (cRem g i) p 2 0) 17 p (-1)) 20 p 0) 16 8 (if 9999 < g 16 8 + g 4 p then 9999 else g 16 8 + g 4 p))) hl ?_ (fun kd v g1 hp => ?_)
  · refine sp_chome (Nat.le_refl 1) ha cb (fun t => Or.inl ⟨rfl, rfl, t, rfl⟩) (fun p e1 e2 e3 => Or.inr (Or.inl ⟨rfl, rfl, ⟨p, e1, e2, e3⟩, rfl⟩)) (fun p e1 e2 e3 e4 i i1 i2 => Or.inr (Or.inr ⟨rfl, p, i, rfl, ?_, e1, e2, ⟨e3, e4⟩, i1, i2, rfl⟩))
    have hp8 : p < 8 := by have := cb.1; omega
    have b8 := cb.2.2.2.2.2.2.1
    have bw := cb.2.2.2.2.2.2.2.1 p hp8
    have bp := cb.2.2.2.2.2.2.2.2 p hp8
    unfold fR; split <;> omega
  · rcases hp with ⟨rfl, rfl, c, rfl⟩ | ⟨rfl, rfl, c, rfl⟩ | ⟨rfl, p, i, rfl, q0, q1, q2, q3, q4, q5, rfl⟩
    · exact Or.inr (Or.inl ⟨rfl, rfl, 1, rfl, by decide, by decide, Or.inl ⟨rfl, c, rfl⟩⟩)
    · exact Or.inr (Or.inr ⟨rfl, rfl, 2, rfl, by decide, by decide, Or.inr (Or.inl ⟨rfl, c, rfl⟩)⟩)
    · exact Or.inl ⟨rfl, _, rfl, q0, rfl, 0, rfl, by decide, by decide, Or.inr (Or.inr ⟨rfl, p, i, q1, q2, q3, q4, q5, rfl⟩)⟩
theorem sp_r_home {a zc : Int} {g1 : Nat → Nat → Int} (ha : fR a) (hi : LI g) (hB : LB2 g) (hm : HM_home g a zc g1) : fx W r 3 324 0 [1186, fI a] [] g1 (PMa g1 zc) := by
  have mb := LI_mBd hi hB
  have cb := LI_cBd hi hB
  have hH := hi.1.2.1
  have hT := hi.1.2.2.1.1
  have e3 : g 3 4 = g 149 3 := hH.1
  have e8 : g 16 8 = g 149 8 := hT.2.2.2.2.2.1
  have eq : ∀ p : Nat, p < 8 → g 17 p = g 149 (12 + 7 * p) ∧ fbt (g 16 7) p = g 149 (17 + 7 * p) ∧ g 4 p = g 149 (14 + 7 * p) ∧ g 18 p = g 149 (13 + 7 * p) ∧ g 19 p = g 149 (16 + 7 * p) := fun p hp => ⟨hT.1 p hp, hT.2.2.2.2.1 p hp, hH.2.2.2.2.2.2.1 p hp, hT.2.1 p hp, hT.2.2.1 p hp⟩
  have b3 := mb.1
  have em : g1 149 = g 149 ∧ g1 148 6 = g 148 6 := by
    rcases hm with ⟨-, -, rfl⟩ | ⟨-, -, rfl⟩ | ⟨-, p, i, -, -, -, i1, -, rfl⟩
    · exact ⟨rfl, rfl⟩
    · exact ⟨rfl, rfl⟩
    · refine ⟨?_, ?_⟩
      · funext j
        rw [fu_nc (by decide)]
        exact (fu_nc (by decide)).trans ((fu_nc (by decide)).trans ((fu_nc (by decide)).trans ((cNote_hi (by decide)).trans (cRem_hi i1 (by decide)))))
      · rw [fu_nc (by decide)]
        exact (fu_nc (by decide)).trans ((fu_nc (by decide)).trans ((fu_nc (by decide)).trans ((cNote_hi (by decide)).trans (cRem_hi i1 (by decide)))))
  have mb1 : mBd g1 := by
    unfold mBd at mb ⊢
    rw [em.1, em.2]
    exact mb
  refine sp_mhome ha mb1 (fun t => ?_) (fun p e1 e2 e3' => ?_) (fun p e1 e2 e3' e4 => ?_)
  all_goals simp only [em.1] at *
  · rcases hm with ⟨rfl, c, rfl⟩ | ⟨rfl, c, rfl⟩ | ⟨rfl, p, i, q1, q2, q3, q4, q5, rfl⟩
    · exact PMa_no hi (by decide)
    · obtain ⟨p, c1, c2, c3⟩ := c; exfalso; omega
    · exfalso; omega
  · have q6 := eq p (by omega)
    rcases hm with ⟨rfl, c, rfl⟩ | ⟨rfl, c, rfl⟩ | ⟨rfl, p', i, q1, q2, q3, q4, q5, rfl⟩
    · exfalso; omega
    · exact PMa_no hi (by decide)
    · have pp : p = p' := by omega
      subst pp
      exfalso; omega
  · have hp8 : p < 8 := by omega
    have q6 := eq p hp8
    have bw := mb.2.2.2.2 p hp8
    have b8 := mb.2.2.1
    have b9 := hB.2.1.2.2.2.1
    have bp := hB.2.2.2.1 p hp8
    rcases hm with ⟨rfl, c, rfl⟩ | ⟨rfl, c, rfl⟩ | ⟨rfl, p', i, q1, q2, q3, q4, q5, h1⟩
    · exfalso; omega
    · obtain ⟨p', c1, c2, c3⟩ := c
      have pp : p = p' := by omega
      subst pp
      exfalso; omega
    · have pp : p = p' := by omega
      subst pp
      have ev : tHome (g 149) p 8 = (if 9999 < g 16 8 + g 4 p then 9999 else g 16 8 + g 4 p) := by unfold tHome tIron; rw [tNote_hi (by decide), tU_ne (by omega), tU_ne (by omega), tU_eq, e8, q6.2.2.1]
      have eE : ∀ c j, 148 ≤ c → (fu (fu (fu (cNote 16 (cRem g i) p 2 0) 17 p (-1)) 20 p 0) 16 8 (if 9999 < g 16 8 + g 4 p then 9999 else g 16 8 + g 4 p)) c j = g c j := fun c j k => (fu_nc (by omega)).trans ((fu_nc (by omega)).trans ((fu_nc (by omega)).trans ((cNote_hi (by omega)).trans (cRem_hi q4 k))))
      obtain ⟨s1, s2, s3, s4, s5, s6⟩ := act_st (t' := tHome (g 149) p) eE h1 rfl
      have hR := RMain_home hi.1 hB.1.2.1.2 q4 q5 hp8 b9.1 b9.2 (by have := fbt_01 (g 16 7) p; omega) s1 s2
      have hL := act_LI hi hB eE (fun c j k k2 => (fu_nc (by unfold fPk at k; omega)).trans ((fu_nc (by unfold fPk at k; omega)).trans ((fu_nc (by unfold fPk at k; omega)).trans ((cNote_hi (by unfold fPk at k; omega)).trans (cRem_pk q4 k k2))))) h1 rfl (fun k hk => by unfold tHome tIron; rw [tNote_hi (by omega), tU_ne (by omega), tU_ne (by omega), tU_ne (by omega)]) (by unfold tHome tIron; exact RBd_n (RBd_c (RBd_u (RBd_i hi.2.1.1 (by split <;> omega) (by split <;> omega)) (by omega)) hp8 (by decide) (by decide))) hR
      refine ⟨rfl, _, rfl, ?_, hL, s5, fun _ => ?_, ?_⟩
      · rw [ev]
        unfold fR; split <;> omega
      · rw [h1, fu_eq, ev]
      · rw [s4, h1, fu_eq]
/-- what the class has done: rise -/
def HM_rise (g : Nat → Nat → Int) (a zc : Int) (g1 : Nat → Nat → Int) : Prop := (zc = 1 ∧ (¬ (0 ≤ a ∧ a < g 3 4)) ∧ g1 = g) ∨ (zc = 2 ∧ (∃ p : Nat, a = p ∧ (p : Int) < g 3 4 ∧ fbt (g 16 7) p ≠ 1) ∧ g1 = g) ∨ (zc = 0 ∧ ∃ p i : Nat, a = p ∧ (p : Int) < g 3 4 ∧ (fbt (g 16 7) p = 1) ∧ i < 12 ∧ i = ((g 0 17).toNat + 1) % 12 ∧ g1 = fu (fu (fu (fu (cNote 16 (cRem g i) p 2 (g 17 p)) 16 7 (fop 3 (g 16 7) (fop 5 (fop 6 1 (p : Int)) (-1)))) 17 p (-1)) 20 p 0) 159 0 ((fJ (g 17 p) - 4 : Nat) : Int))
theorem sp_w_rise {a : Int} (hl : 1 ≤ W.lim) (ha : fR a) (hi : LI g) (hB : LB2 g) : fx W 1 3 169 0 [2, fI a, 1274, 7] [] g (fun k v g1 => k = 1 ∧ ∃ zc, v = fI zc ∧ 0 ≤ zc ∧ zc ≤ 3 ∧ HM_rise g a zc g1) := by
  refine fx_rg (fun hg => ?_)
  have cb := LI_cBd hi hB
  have rT : ∀ c : Nat, f_al c 8 = true → ∀ p : Nat, p < 8 → fR (g c p) := fun c hc p hp => hgA hg 8 (c := c) (j := p) hc hp
  refine sp_wg_rise (P := fun kd v g1 => (kd = 4 ∧ v = 0 ∧ (¬ (0 ≤ a ∧ a < g 3 4)) ∧ g1 = g) ∨ (kd = 6 ∧ v = 0 ∧ (∃ p : Nat, a = p ∧ (p : Int) < g 3 4 ∧ fbt (g 16 7) p ≠ 1) ∧ g1 = g) ∨ (kd = 1 ∧ ∃ p i : Nat, v = fI (g 17 p) ∧ fR (g 17 p) ∧ a = p ∧ (p : Int) < g 3 4 ∧ (fbt (g 16 7) p = 1) ∧ i < 12 ∧ i = ((g 0 17).toNat + 1) % 12 ∧ g1 = fu (fu (fu (cNote 16 (cRem g i) p 2 (g 17 p)) 16 7 (fop 3 (g 16 7) (fop 5 (fop 6 1 (p : Int)) (-1)))) 17 p (-1)) 20 p 0)) hl ?_ (fun kd v g1 hp => ?_)
  · refine sp_crise (Nat.le_refl 1) ha cb (fun t => Or.inl ⟨rfl, rfl, t, rfl⟩) (fun p e1 e2 e3 => Or.inr (Or.inl ⟨rfl, rfl, ⟨p, e1, e2, e3⟩, rfl⟩)) (fun p e1 e2 e3 => ?_) (fun p e1 e2 e3 i i1 i2 => Or.inr (Or.inr ⟨rfl, p, i, rfl, ?_, e1, e2, e3, i1, i2, rfl⟩))
    · have hp8 : p < 8 := by have := cb.1; omega
      have hT := hi.1.2.2.1.1
      have i2 := hi.1.2.2.2.1.2.1 p hp8
      have e4 : fbt (g 16 7) p = g 149 (17 + 7 * p) := hT.2.2.2.2.1 p hp8
      have e5 : g 17 p = g 149 (12 + 7 * p) := hT.1 p hp8
      have bp := cb.2.2.2.2.2.2.2.2 p hp8
      rw [← e4, ← e5] at i2
      have := i2 (by omega)
      omega
    · have hp8 : p < 8 := by have := cb.1; omega
      exact rT _ (by decide +kernel) p hp8
  · rcases hp with ⟨rfl, rfl, c, rfl⟩ | ⟨rfl, rfl, c, rfl⟩ | ⟨rfl, p, i, rfl, q0, q1, q2, q3, q4, q5, rfl⟩
    · exact Or.inr (Or.inl ⟨rfl, rfl, 1, rfl, by decide, by decide, Or.inl ⟨rfl, c, rfl⟩⟩)
    · exact Or.inr (Or.inr ⟨rfl, rfl, 2, rfl, by decide, by decide, Or.inr (Or.inl ⟨rfl, c, rfl⟩)⟩)
    · exact Or.inl ⟨rfl, _, rfl, q0, rfl, 0, rfl, by decide, by decide, Or.inr (Or.inr ⟨rfl, p, i, q1, q2, q3, q4, q5, rfl⟩)⟩
theorem sp_r_rise {a zc : Int} {g1 : Nat → Nat → Int} (hrT : ∀ c : Nat, f_al c 8 = true → ∀ p : Nat, p < 8 → fR (g c p)) (ha : fR a) (hi : LI g) (hB : LB2 g) (hm : HM_rise g a zc g1) : fx W r 2 333 0 [1186, fI a, 7] [] g1 (PMa g1 zc) := by
  have mb := LI_mBd hi hB
  have cb := LI_cBd hi hB
  have hH := hi.1.2.1
  have hT := hi.1.2.2.1.1
  have e3 : g 3 4 = g 149 3 := hH.1
  have e8 : g 16 8 = g 149 8 := hT.2.2.2.2.2.1
  have eq : ∀ p : Nat, p < 8 → g 17 p = g 149 (12 + 7 * p) ∧ fbt (g 16 7) p = g 149 (17 + 7 * p) ∧ g 4 p = g 149 (14 + 7 * p) ∧ g 18 p = g 149 (13 + 7 * p) ∧ g 19 p = g 149 (16 + 7 * p) := fun p hp => ⟨hT.1 p hp, hT.2.2.2.2.1 p hp, hH.2.2.2.2.2.2.1 p hp, hT.2.1 p hp, hT.2.2.1 p hp⟩
  have b3 := mb.1
  have em : g1 149 = g 149 ∧ g1 148 6 = g 148 6 := by
    rcases hm with ⟨-, -, rfl⟩ | ⟨-, -, rfl⟩ | ⟨-, p, i, -, -, -, i1, -, rfl⟩
    · exact ⟨rfl, rfl⟩
    · exact ⟨rfl, rfl⟩
    · refine ⟨?_, ?_⟩
      · funext j
        rw [fu_nc (by decide)]
        exact (fu_nc (by decide)).trans ((fu_nc (by decide)).trans ((fu_nc (by decide)).trans ((cNote_hi (by decide)).trans (cRem_hi i1 (by decide)))))
      · rw [fu_nc (by decide)]
        exact (fu_nc (by decide)).trans ((fu_nc (by decide)).trans ((fu_nc (by decide)).trans ((cNote_hi (by decide)).trans (cRem_hi i1 (by decide)))))
  have mb1 : mBd g1 := by
    unfold mBd at mb ⊢
    rw [em.1, em.2]
    exact mb
  refine sp_mrise ha mb1 (fun t => ?_) (fun p e1 e2 e3' => ?_) (fun p e1 e2 e3' => ?_)
  all_goals simp only [em.1] at *
  · rcases hm with ⟨rfl, c, rfl⟩ | ⟨rfl, c, rfl⟩ | ⟨rfl, p, i, q1, q2, q3, q4, q5, rfl⟩
    · exact PMa_no hi (by decide)
    · obtain ⟨p, c1, c2, c3⟩ := c; exfalso; omega
    · exfalso; omega
  · have q6 := eq p (by omega)
    rcases hm with ⟨rfl, c, rfl⟩ | ⟨rfl, c, rfl⟩ | ⟨rfl, p', i, q1, q2, q3, q4, q5, rfl⟩
    · exfalso; omega
    · exact PMa_no hi (by decide)
    · have pp : p = p' := by omega
      subst pp
      exfalso; omega
  · have hp8 : p < 8 := by omega
    have q6 := eq p hp8
    have bw := mb.2.2.2.2 p hp8
    have b8 := mb.2.2.1
    have b9 := hB.2.1.2.2.2.1
    have bp := hB.2.2.2.1 p hp8
    rcases hm with ⟨rfl, c, rfl⟩ | ⟨rfl, c, rfl⟩ | ⟨rfl, p', i, q1, q2, q3, q4, q5, h1⟩
    · exfalso; omega
    · obtain ⟨p', c1, c2, c3⟩ := c
      have pp : p = p' := by omega
      subst pp
      exfalso; omega
    · have pp : p = p' := by omega
      subst pp
      have ev : g 149 (12 + 7 * p) = g 17 p := by omega
      have eE : ∀ c j, 148 ≤ c → (fu (fu (fu (cNote 16 (cRem g i) p 2 (g 17 p)) 16 7 (fop 3 (g 16 7) (fop 5 (fop 6 1 (p : Int)) (-1)))) 17 p (-1)) 20 p 0) c j = g c j := fun c j k => (fu_nc (by omega)).trans ((fu_nc (by omega)).trans ((fu_nc (by omega)).trans ((cNote_hi (by omega)).trans (cRem_hi q4 k))))
      obtain ⟨s1, s2, s3, s4, s5, s6⟩ := act_st (t' := tRise (g 149) p) eE h1 rfl
      have hR := RMain_rise hi.1 hB.1.2.1.2 q4 q5 hp8 b9.1 b9.2 (by have := hi.1.2.2.2.1.2.1 p hp8 (by omega); have := bp.1; omega) (by have := bp.2; omega) s1 s2
      have hL := act_LI hi hB eE (fun c j k k2 => (fu_nc (by unfold fPk at k; omega)).trans ((fu_nc (by unfold fPk at k; omega)).trans ((fu_nc (by unfold fPk at k; omega)).trans ((cNote_hi (by unfold fPk at k; omega)).trans (cRem_pk q4 k k2))))) h1 rfl (fun k hk => by unfold tRise; rw [tNote_hi (by omega), tU_ne (by omega), tU_ne (by omega), tU_ne (by omega)]) (by unfold tRise; exact RBd_n (RBd_c (RBd_u (RBd_u hi.2.1.1 (by omega)) (by omega)) hp8 (by decide) (by decide))) hR
      refine ⟨rfl, _, rfl, ?_, hL, s5, fun _ => ?_, ?_⟩
      · rw [ev]
        exact hrT _ (by decide +kernel) p hp8
      · rw [h1, fu_eq, ev]
      · rw [s4, h1, fu_eq]
/-- what the class has done: vote -/
def HM_vote (g : Nat → Nat → Int) (a b zc : Int) (g1 : Nat → Nat → Int) : Prop := (zc = 1 ∧ (¬ (0 ≤ a ∧ a < g 3 4)) ∧ g1 = g) ∨ (zc = 2 ∧ ((0 ≤ a ∧ a < g 3 4) ∧ ¬ (0 ≤ b ∧ b ≤ 20)) ∧ g1 = g) ∨ (zc = 0 ∧ ∃ p i : Nat, a = p ∧ (p : Int) < g 3 4 ∧ (0 ≤ b ∧ b ≤ 20) ∧ i < 12 ∧ i = ((g 0 17).toNat + 1) % 12 ∧ g1 = fu (fu (cRem g i) 18 p b) 159 0 ((fJ (g 18 p) - 4 : Nat) : Int))
theorem sp_w_vote {a b : Int} (hl : 1 ≤ W.lim) (ha : fR a) (hb : fR b) (hi : LI g) (hB : LB2 g) : fx W 1 3 171 0 [2, fI a, fI b, 1274, 7] [] g (fun k v g1 => k = 1 ∧ ∃ zc, v = fI zc ∧ 0 ≤ zc ∧ zc ≤ 3 ∧ HM_vote g a b zc g1) := by
  refine fx_rg (fun hg => ?_)
  have cb := LI_cBd hi hB
  have rT : ∀ c : Nat, f_al c 8 = true → ∀ p : Nat, p < 8 → fR (g c p) := fun c hc p hp => hgA hg 8 (c := c) (j := p) hc hp
  refine sp_wg_vote (P := fun kd v g1 => (kd = 4 ∧ v = 0 ∧ (¬ (0 ≤ a ∧ a < g 3 4)) ∧ g1 = g) ∨ (kd = 2 ∧ v = 0 ∧ ((0 ≤ a ∧ a < g 3 4) ∧ ¬ (0 ≤ b ∧ b ≤ 20)) ∧ g1 = g) ∨ (kd = 1 ∧ ∃ p i : Nat, v = fI (g 18 p) ∧ fR (g 18 p) ∧ a = p ∧ (p : Int) < g 3 4 ∧ (0 ≤ b ∧ b ≤ 20) ∧ i < 12 ∧ i = ((g 0 17).toNat + 1) % 12 ∧ g1 = fu (cRem g i) 18 p b)) hl ?_ (fun kd v g1 hp => ?_)
  · refine sp_cvote (Nat.le_refl 1) ha hb cb (fun t => Or.inl ⟨rfl, rfl, t, rfl⟩) (fun t u => Or.inr (Or.inl ⟨rfl, rfl, ⟨t, u⟩, rfl⟩)) (fun p e1 e2 e3 e4 i i1 i2 => Or.inr (Or.inr ⟨rfl, p, i, rfl, ?_, e1, e2, ⟨e3, e4⟩, i1, i2, rfl⟩))
    have hp8 : p < 8 := by have := cb.1; omega
    exact rT _ (by decide +kernel) p hp8
  · rcases hp with ⟨rfl, rfl, c, rfl⟩ | ⟨rfl, rfl, c, rfl⟩ | ⟨rfl, p, i, rfl, q0, q1, q2, q3, q4, q5, rfl⟩
    · exact Or.inr (Or.inl ⟨rfl, rfl, 1, rfl, by decide, by decide, Or.inl ⟨rfl, c, rfl⟩⟩)
    · exact Or.inr (Or.inr ⟨rfl, rfl, 2, rfl, by decide, by decide, Or.inr (Or.inl ⟨rfl, c, rfl⟩)⟩)
    · exact Or.inl ⟨rfl, _, rfl, q0, rfl, 0, rfl, by decide, by decide, Or.inr (Or.inr ⟨rfl, p, i, q1, q2, q3, q4, q5, rfl⟩)⟩
theorem sp_r_vote {a b zc : Int} {g1 : Nat → Nat → Int} (hrT : ∀ c : Nat, f_al c 8 = true → ∀ p : Nat, p < 8 → fR (g c p)) (ha : fR a) (hb : fR b) (hi : LI g) (hB : LB2 g) (hm : HM_vote g a b zc g1) : fx W r 2 334 0 [1186, fI a, fI b] [] g1 (PMa g1 zc) := by
  have mb := LI_mBd hi hB
  have cb := LI_cBd hi hB
  have hH := hi.1.2.1
  have hT := hi.1.2.2.1.1
  have e3 : g 3 4 = g 149 3 := hH.1
  have e8 : g 16 8 = g 149 8 := hT.2.2.2.2.2.1
  have eq : ∀ p : Nat, p < 8 → g 17 p = g 149 (12 + 7 * p) ∧ fbt (g 16 7) p = g 149 (17 + 7 * p) ∧ g 4 p = g 149 (14 + 7 * p) ∧ g 18 p = g 149 (13 + 7 * p) ∧ g 19 p = g 149 (16 + 7 * p) := fun p hp => ⟨hT.1 p hp, hT.2.2.2.2.1 p hp, hH.2.2.2.2.2.2.1 p hp, hT.2.1 p hp, hT.2.2.1 p hp⟩
  have b3 := mb.1
  have em : g1 149 = g 149 ∧ g1 148 6 = g 148 6 := by
    rcases hm with ⟨-, -, rfl⟩ | ⟨-, -, rfl⟩ | ⟨-, p, i, -, -, -, i1, -, rfl⟩
    · exact ⟨rfl, rfl⟩
    · exact ⟨rfl, rfl⟩
    · refine ⟨?_, ?_⟩
      · funext j
        rw [fu_nc (by decide)]
        exact (fu_nc (by decide)).trans (cRem_hi i1 (by decide))
      · rw [fu_nc (by decide)]
        exact (fu_nc (by decide)).trans (cRem_hi i1 (by decide))
  have mb1 : mBd g1 := by
    unfold mBd at mb ⊢
    rw [em.1, em.2]
    exact mb
  refine sp_mvote ha hb mb1 (fun t => ?_) (fun t u => ?_) (fun p e1 e2 e3' e4 => ?_)
  all_goals simp only [em.1] at *
  · rcases hm with ⟨rfl, c, rfl⟩ | ⟨rfl, c, rfl⟩ | ⟨rfl, p, i, q1, q2, q3, q4, q5, rfl⟩
    · exact PMa_no hi (by decide)
    · exfalso; omega
    · exfalso; omega
  · rcases hm with ⟨rfl, c, rfl⟩ | ⟨rfl, c, rfl⟩ | ⟨rfl, p', i, q1, q2, q3, q4, q5, rfl⟩
    · exfalso; omega
    · exact PMa_no hi (by decide)
    · exfalso; omega
  · have hp8 : p < 8 := by omega
    have q6 := eq p hp8
    have bw := mb.2.2.2.2 p hp8
    have b8 := mb.2.2.1
    have b9 := hB.2.1.2.2.2.1
    have bp := hB.2.2.2.1 p hp8
    rcases hm with ⟨rfl, c, rfl⟩ | ⟨rfl, c, rfl⟩ | ⟨rfl, p', i, q1, q2, q3, q4, q5, h1⟩
    · exfalso; omega
    · exfalso; omega
    · have pp : p = p' := by omega
      subst pp
      have ev : g 149 (13 + 7 * p) = g 18 p := by omega
      have eE : ∀ c j, 148 ≤ c → (fu (cRem g i) 18 p b) c j = g c j := fun c j k => (fu_nc (by omega)).trans (cRem_hi q4 k)
      obtain ⟨s1, s2, s3, s4, s5, s6⟩ := act_st (t' := tU (g 149) (12 + 7 * p + 1) b) eE h1 rfl
      have hR := RMain_set hi.1 hB.1.2.1.2 q4 q5 hp8 (k := 2) (w := 1) (Or.inl ⟨rfl, rfl⟩) s1 s2
      have hL := act_LI hi hB eE (fun c j k k2 => (fu_nc (by unfold fPk at k; omega)).trans (cRem_pk q4 k k2)) h1 rfl (fun k hk => by rw [tU_ne (by omega)]) (by exact RBd_v hi.2.1.1 hp8 (by omega) (by omega)) hR
      refine ⟨rfl, _, rfl, ?_, hL, s5, fun _ => ?_, ?_⟩
      · rw [ev]
        exact hrT _ (by decide +kernel) p hp8
      · rw [h1, fu_eq, ev]
      · rw [s4, h1, fu_eq]
/-- what the class has done: promise -/
def HM_promise (g : Nat → Nat → Int) (a b zc : Int) (g1 : Nat → Nat → Int) : Prop := (zc = 1 ∧ (¬ ((0 ≤ a ∧ a < g 3 4) ∧ (b = -1 ∨ (0 ≤ b ∧ b < g 3 4)))) ∧ g1 = g) ∨ (zc = 2 ∧ ((0 ≤ a ∧ a < g 3 4) ∧ a = b) ∧ g1 = g) ∨ (zc = 0 ∧ ∃ p i : Nat, a = p ∧ (p : Int) < g 3 4 ∧ ((b = -1 ∨ (0 ≤ b ∧ b < g 3 4)) ∧ a ≠ b) ∧ i < 12 ∧ i = ((g 0 17).toNat + 1) % 12 ∧ g1 = fu (fu (cRem g i) 19 p b) 159 0 ((fJ (g 19 p) - 4 : Nat) : Int))
theorem sp_w_promise {a b : Int} (hl : 1 ≤ W.lim) (ha : fR a) (hb : fR b) (hi : LI g) (hB : LB2 g) : fx W 1 3 174 0 [2, fI a, fI b, 1274, 7] [] g (fun k v g1 => k = 1 ∧ ∃ zc, v = fI zc ∧ 0 ≤ zc ∧ zc ≤ 3 ∧ HM_promise g a b zc g1) := by
  refine fx_rg (fun hg => ?_)
  have cb := LI_cBd hi hB
  have rT : ∀ c : Nat, f_al c 8 = true → ∀ p : Nat, p < 8 → fR (g c p) := fun c hc p hp => hgA hg 8 (c := c) (j := p) hc hp
  refine sp_wg_promise (P := fun kd v g1 => (kd = 4 ∧ v = 0 ∧ (¬ ((0 ≤ a ∧ a < g 3 4) ∧ (b = -1 ∨ (0 ≤ b ∧ b < g 3 4)))) ∧ g1 = g) ∨ (kd = 2 ∧ v = 0 ∧ ((0 ≤ a ∧ a < g 3 4) ∧ a = b) ∧ g1 = g) ∨ (kd = 1 ∧ ∃ p i : Nat, v = fI (g 19 p) ∧ fR (g 19 p) ∧ a = p ∧ (p : Int) < g 3 4 ∧ ((b = -1 ∨ (0 ≤ b ∧ b < g 3 4)) ∧ a ≠ b) ∧ i < 12 ∧ i = ((g 0 17).toNat + 1) % 12 ∧ g1 = fu (cRem g i) 19 p b)) hl ?_ (fun kd v g1 hp => ?_)
  · refine sp_cpromise (Nat.le_refl 1) ha hb cb (fun t => Or.inl ⟨rfl, rfl, t, rfl⟩) (fun t u => Or.inr (Or.inl ⟨rfl, rfl, ⟨t, u⟩, rfl⟩)) (fun p e1 e2 e3 e4 i i1 i2 => Or.inr (Or.inr ⟨rfl, p, i, rfl, ?_, e1, e2, ⟨e3, e4⟩, i1, i2, rfl⟩))
    have hp8 : p < 8 := by have := cb.1; omega
    exact rT _ (by decide +kernel) p hp8
  · rcases hp with ⟨rfl, rfl, c, rfl⟩ | ⟨rfl, rfl, c, rfl⟩ | ⟨rfl, p, i, rfl, q0, q1, q2, q3, q4, q5, rfl⟩
    · exact Or.inr (Or.inl ⟨rfl, rfl, 1, rfl, by decide, by decide, Or.inl ⟨rfl, c, rfl⟩⟩)
    · exact Or.inr (Or.inr ⟨rfl, rfl, 2, rfl, by decide, by decide, Or.inr (Or.inl ⟨rfl, c, rfl⟩)⟩)
    · exact Or.inl ⟨rfl, _, rfl, q0, rfl, 0, rfl, by decide, by decide, Or.inr (Or.inr ⟨rfl, p, i, q1, q2, q3, q4, q5, rfl⟩)⟩
theorem sp_r_promise {a b zc : Int} {g1 : Nat → Nat → Int} (hrT : ∀ c : Nat, f_al c 8 = true → ∀ p : Nat, p < 8 → fR (g c p)) (ha : fR a) (hb : fR b) (hi : LI g) (hB : LB2 g) (hm : HM_promise g a b zc g1) : fx W r 2 336 0 [1186, fI a, fI b] [] g1 (PMa g1 zc) := by
  have mb := LI_mBd hi hB
  have cb := LI_cBd hi hB
  have hH := hi.1.2.1
  have hT := hi.1.2.2.1.1
  have e3 : g 3 4 = g 149 3 := hH.1
  have e8 : g 16 8 = g 149 8 := hT.2.2.2.2.2.1
  have eq : ∀ p : Nat, p < 8 → g 17 p = g 149 (12 + 7 * p) ∧ fbt (g 16 7) p = g 149 (17 + 7 * p) ∧ g 4 p = g 149 (14 + 7 * p) ∧ g 18 p = g 149 (13 + 7 * p) ∧ g 19 p = g 149 (16 + 7 * p) := fun p hp => ⟨hT.1 p hp, hT.2.2.2.2.1 p hp, hH.2.2.2.2.2.2.1 p hp, hT.2.1 p hp, hT.2.2.1 p hp⟩
  have b3 := mb.1
  have em : g1 149 = g 149 ∧ g1 148 6 = g 148 6 := by
    rcases hm with ⟨-, -, rfl⟩ | ⟨-, -, rfl⟩ | ⟨-, p, i, -, -, -, i1, -, rfl⟩
    · exact ⟨rfl, rfl⟩
    · exact ⟨rfl, rfl⟩
    · refine ⟨?_, ?_⟩
      · funext j
        rw [fu_nc (by decide)]
        exact (fu_nc (by decide)).trans (cRem_hi i1 (by decide))
      · rw [fu_nc (by decide)]
        exact (fu_nc (by decide)).trans (cRem_hi i1 (by decide))
  have mb1 : mBd g1 := by
    unfold mBd at mb ⊢
    rw [em.1, em.2]
    exact mb
  refine sp_mpromise ha hb mb1 (fun t => ?_) (fun t u => ?_) (fun p e1 e2 e3' e4 => ?_)
  all_goals simp only [em.1] at *
  · rcases hm with ⟨rfl, c, rfl⟩ | ⟨rfl, c, rfl⟩ | ⟨rfl, p, i, q1, q2, q3, q4, q5, rfl⟩
    · exact PMa_no hi (by decide)
    · exfalso; omega
    · exfalso; omega
  · rcases hm with ⟨rfl, c, rfl⟩ | ⟨rfl, c, rfl⟩ | ⟨rfl, p', i, q1, q2, q3, q4, q5, rfl⟩
    · exfalso; omega
    · exact PMa_no hi (by decide)
    · exfalso; omega
  · have hp8 : p < 8 := by omega
    have q6 := eq p hp8
    have bw := mb.2.2.2.2 p hp8
    have b8 := mb.2.2.1
    have b9 := hB.2.1.2.2.2.1
    have bp := hB.2.2.2.1 p hp8
    rcases hm with ⟨rfl, c, rfl⟩ | ⟨rfl, c, rfl⟩ | ⟨rfl, p', i, q1, q2, q3, q4, q5, h1⟩
    · exfalso; omega
    · exfalso; omega
    · have pp : p = p' := by omega
      subst pp
      have ev : g 149 (16 + 7 * p) = g 19 p := by omega
      have eE : ∀ c j, 148 ≤ c → (fu (cRem g i) 19 p b) c j = g c j := fun c j k => (fu_nc (by omega)).trans (cRem_hi q4 k)
      obtain ⟨s1, s2, s3, s4, s5, s6⟩ := act_st (t' := tU (g 149) (12 + 7 * p + 4) b) eE h1 rfl
      have hR := RMain_set hi.1 hB.1.2.1.2 q4 q5 hp8 (k := 3) (w := 4) (Or.inr ⟨rfl, rfl⟩) s1 s2
      have hL := act_LI hi hB eE (fun c j k k2 => (fu_nc (by unfold fPk at k; omega)).trans (cRem_pk q4 k k2)) h1 rfl (fun k hk => by rw [tU_ne (by omega)]) (by exact RBd_u hi.2.1.1 (by omega)) hR
      refine ⟨rfl, _, rfl, ?_, hL, s5, fun _ => ?_, ?_⟩
      · rw [ev]
        exact hrT _ (by decide +kernel) p hp8
      · rw [h1, fu_eq, ev]
      · rw [s4, h1, fu_eq]
end FIO
